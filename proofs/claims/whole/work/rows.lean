section
-- ===== PART A: goes FIRST, ahead of the names: the tables' words, and 'selects' of the private methods out of them =====
/-- a private method of a class that the tables say can be made, by its rows of tables_1 -/
def lw_okq (q : MethodName × Nat) : Prop := (q.1.cls ≠ "java/lang/invoke/MethodHandle" ∧ q.1.cls ≠ "java/lang/invoke/VarHandle") ∧ Cond.instantiable q.1.cls q.2 ∈ tables_1 ∧ Cond.privateMethod q.1 ∈ tables_1 ∧ Cond.instanceMethod q.1 ∈ tables_1
theorem lw_p0 : lw_okq (⟨"WayMarks", "beforeAct", "()V"⟩, 9) := ⟨⟨by decide +kernel, by decide +kernel⟩, List.mem_of_getElem? (i := 15) (by decide +kernel), List.mem_of_getElem? (i := 283) (by decide +kernel), List.mem_of_getElem? (i := 284) (by decide +kernel)⟩
theorem lw_p1 : lw_okq (⟨"WayMarks$Past", "keep", "(LWayMarks$Net;)V"⟩, 3) := ⟨⟨by decide +kernel, by decide +kernel⟩, List.mem_of_getElem? (i := 91) (by decide +kernel), List.mem_of_getElem? (i := 287) (by decide +kernel), List.mem_of_getElem? (i := 288) (by decide +kernel)⟩
theorem lw_p2 : lw_okq (⟨"WayMarks$Net", "become", "(LWayMarks$Net;)V"⟩, 12) := ⟨⟨by decide +kernel, by decide +kernel⟩, List.mem_of_getElem? (i := 23) (by decide +kernel), List.mem_of_getElem? (i := 291) (by decide +kernel), List.mem_of_getElem? (i := 292) (by decide +kernel)⟩
theorem lw_p3 : lw_okq (⟨"WayMarks$Net", "roadCanBe", "(III)Z"⟩, 12) := ⟨⟨by decide +kernel, by decide +kernel⟩, List.mem_of_getElem? (i := 23) (by decide +kernel), List.mem_of_getElem? (i := 305) (by decide +kernel), List.mem_of_getElem? (i := 306) (by decide +kernel)⟩
theorem lw_p4 : lw_okq (⟨"WayMarks$Net", "isPost", "(I)Z"⟩, 12) := ⟨⟨by decide +kernel, by decide +kernel⟩, List.mem_of_getElem? (i := 23) (by decide +kernel), List.mem_of_getElem? (i := 309) (by decide +kernel), List.mem_of_getElem? (i := 310) (by decide +kernel)⟩
theorem lw_p5 : lw_okq (⟨"WayMarks$Net", "hasRoad", "(II)Z"⟩, 12) := ⟨⟨by decide +kernel, by decide +kernel⟩, List.mem_of_getElem? (i := 23) (by decide +kernel), List.mem_of_getElem? (i := 313) (by decide +kernel), List.mem_of_getElem? (i := 314) (by decide +kernel)⟩
theorem lw_p6 : lw_okq (⟨"WayMarks$Net", "layRoad", "(III)V"⟩, 12) := ⟨⟨by decide +kernel, by decide +kernel⟩, List.mem_of_getElem? (i := 23) (by decide +kernel), List.mem_of_getElem? (i := 317) (by decide +kernel), List.mem_of_getElem? (i := 318) (by decide +kernel)⟩
theorem lw_p7 : lw_okq (⟨"WayMarks$Tape", "hasRoomFor", "(I)Z"⟩, 2) := ⟨⟨by decide +kernel, by decide +kernel⟩, List.mem_of_getElem? (i := 111) (by decide +kernel), List.mem_of_getElem? (i := 331) (by decide +kernel), List.mem_of_getElem? (i := 332) (by decide +kernel)⟩
theorem lw_p8 : lw_okq (⟨"WayMarks$Tape", "takeFour", "(I)V"⟩, 2) := ⟨⟨by decide +kernel, by decide +kernel⟩, List.mem_of_getElem? (i := 111) (by decide +kernel), List.mem_of_getElem? (i := 335) (by decide +kernel), List.mem_of_getElem? (i := 336) (by decide +kernel)⟩
theorem lw_p9 : lw_okq (⟨"WayMarks$Tape", "byteAt", "(I)I"⟩, 2) := ⟨⟨by decide +kernel, by decide +kernel⟩, List.mem_of_getElem? (i := 111) (by decide +kernel), List.mem_of_getElem? (i := 343) (by decide +kernel), List.mem_of_getElem? (i := 344) (by decide +kernel)⟩
theorem lw_p10 : lw_okq (⟨"WayMarks$Net", "need", "()I"⟩, 12) := ⟨⟨by decide +kernel, by decide +kernel⟩, List.mem_of_getElem? (i := 23) (by decide +kernel), List.mem_of_getElem? (i := 367) (by decide +kernel), List.mem_of_getElem? (i := 368) (by decide +kernel)⟩
theorem lw_p11 : lw_okq (⟨"WayMarks", "freshSight", "()LWayMarks$Sight;"⟩, 9) := ⟨⟨by decide +kernel, by decide +kernel⟩, List.mem_of_getElem? (i := 15) (by decide +kernel), List.mem_of_getElem? (i := 379) (by decide +kernel), List.mem_of_getElem? (i := 380) (by decide +kernel)⟩
theorem lw_p12 : lw_okq (⟨"WayMarks$Sight", "look", "(LWayMarks$Net;)V"⟩, 8) := ⟨⟨by decide +kernel, by decide +kernel⟩, List.mem_of_getElem? (i := 125) (by decide +kernel), List.mem_of_getElem? (i := 383) (by decide +kernel), List.mem_of_getElem? (i := 384) (by decide +kernel)⟩
theorem lw_p13 : lw_okq (⟨"WayMarks$Net", "besideBits", "(I)I"⟩, 12) := ⟨⟨by decide +kernel, by decide +kernel⟩, List.mem_of_getElem? (i := 23) (by decide +kernel), List.mem_of_getElem? (i := 387) (by decide +kernel), List.mem_of_getElem? (i := 388) (by decide +kernel)⟩
theorem lw_p14 : lw_okq (⟨"WayMarks$Sight", "findWays", "(LWayMarks$Net;)V"⟩, 8) := ⟨⟨by decide +kernel, by decide +kernel⟩, List.mem_of_getElem? (i := 125) (by decide +kernel), List.mem_of_getElem? (i := 391) (by decide +kernel), List.mem_of_getElem? (i := 392) (by decide +kernel)⟩
theorem lw_p15 : lw_okq (⟨"WayMarks$Sight", "shortenWays", "(II)V"⟩, 8) := ⟨⟨by decide +kernel, by decide +kernel⟩, List.mem_of_getElem? (i := 125) (by decide +kernel), List.mem_of_getElem? (i := 397) (by decide +kernel), List.mem_of_getElem? (i := 398) (by decide +kernel)⟩
def lw_privs_1 : List (MethodName × Nat) := [(⟨"WayMarks", "beforeAct", "()V"⟩, 9), (⟨"WayMarks$Past", "keep", "(LWayMarks$Net;)V"⟩, 3), (⟨"WayMarks$Net", "become", "(LWayMarks$Net;)V"⟩, 12), (⟨"WayMarks$Net", "roadCanBe", "(III)Z"⟩, 12), (⟨"WayMarks$Net", "isPost", "(I)Z"⟩, 12), (⟨"WayMarks$Net", "hasRoad", "(II)Z"⟩, 12), (⟨"WayMarks$Net", "layRoad", "(III)V"⟩, 12), (⟨"WayMarks$Tape", "hasRoomFor", "(I)Z"⟩, 2), (⟨"WayMarks$Tape", "takeFour", "(I)V"⟩, 2), (⟨"WayMarks$Tape", "byteAt", "(I)I"⟩, 2), (⟨"WayMarks$Net", "need", "()I"⟩, 12), (⟨"WayMarks", "freshSight", "()LWayMarks$Sight;"⟩, 9), (⟨"WayMarks$Sight", "look", "(LWayMarks$Net;)V"⟩, 8), (⟨"WayMarks$Net", "besideBits", "(I)I"⟩, 12), (⟨"WayMarks$Sight", "findWays", "(LWayMarks$Net;)V"⟩, 8), (⟨"WayMarks$Sight", "shortenWays", "(II)V"⟩, 8)]
theorem lw_r1 : ∀ q ∈ lw_privs_1, lw_okq q := List.forall_mem_cons.mpr ⟨lw_p0, List.forall_mem_cons.mpr ⟨lw_p1, List.forall_mem_cons.mpr ⟨lw_p2, List.forall_mem_cons.mpr ⟨lw_p3, List.forall_mem_cons.mpr ⟨lw_p4, List.forall_mem_cons.mpr ⟨lw_p5, List.forall_mem_cons.mpr ⟨lw_p6, List.forall_mem_cons.mpr ⟨lw_p7, List.forall_mem_cons.mpr ⟨lw_p8, List.forall_mem_cons.mpr ⟨lw_p9, List.forall_mem_cons.mpr ⟨lw_p10, List.forall_mem_cons.mpr ⟨lw_p11, List.forall_mem_cons.mpr ⟨lw_p12, List.forall_mem_cons.mpr ⟨lw_p13, List.forall_mem_cons.mpr ⟨lw_p14, List.forall_mem_cons.mpr ⟨lw_p15, fun _ h => absurd h List.not_mem_nil⟩⟩⟩⟩⟩⟩⟩⟩⟩⟩⟩⟩⟩⟩⟩⟩
theorem lw_p16 : lw_okq (⟨"WayMarks$Sight", "answerOf", "(LWayMarks$Net;II)I"⟩, 8) := ⟨⟨by decide +kernel, by decide +kernel⟩, List.mem_of_getElem? (i := 125) (by decide +kernel), List.mem_of_getElem? (i := 401) (by decide +kernel), List.mem_of_getElem? (i := 402) (by decide +kernel)⟩
theorem lw_p17 : lw_okq (⟨"WayMarks$Sight", "groupPosts", "(I)V"⟩, 8) := ⟨⟨by decide +kernel, by decide +kernel⟩, List.mem_of_getElem? (i := 125) (by decide +kernel), List.mem_of_getElem? (i := 405) (by decide +kernel), List.mem_of_getElem? (i := 406) (by decide +kernel)⟩
theorem lw_p18 : lw_okq (⟨"WayMarks$Sight", "sameAnswer", "(II)I"⟩, 8) := ⟨⟨by decide +kernel, by decide +kernel⟩, List.mem_of_getElem? (i := 125) (by decide +kernel), List.mem_of_getElem? (i := 409) (by decide +kernel), List.mem_of_getElem? (i := 410) (by decide +kernel)⟩
theorem lw_p19 : lw_okq (⟨"WayMarks$Sight", "findParters", "()V"⟩, 8) := ⟨⟨by decide +kernel, by decide +kernel⟩, List.mem_of_getElem? (i := 125) (by decide +kernel), List.mem_of_getElem? (i := 413) (by decide +kernel), List.mem_of_getElem? (i := 414) (by decide +kernel)⟩
theorem lw_p20 : lw_okq (⟨"WayMarks$Sight", "findYes", "(I)V"⟩, 8) := ⟨⟨by decide +kernel, by decide +kernel⟩, List.mem_of_getElem? (i := 125) (by decide +kernel), List.mem_of_getElem? (i := 417) (by decide +kernel), List.mem_of_getElem? (i := 418) (by decide +kernel)⟩
theorem lw_p21 : lw_okq (⟨"WayMarks$Sight", "countReachedFrom", "(I)I"⟩, 8) := ⟨⟨by decide +kernel, by decide +kernel⟩, List.mem_of_getElem? (i := 125) (by decide +kernel), List.mem_of_getElem? (i := 432) (by decide +kernel), List.mem_of_getElem? (i := 433) (by decide +kernel)⟩
theorem lw_p22 : lw_okq (⟨"WayMarks$Net", "isSet", "(I)Z"⟩, 12) := ⟨⟨by decide +kernel, by decide +kernel⟩, List.mem_of_getElem? (i := 23) (by decide +kernel), List.mem_of_getElem? (i := 444) (by decide +kernel), List.mem_of_getElem? (i := 445) (by decide +kernel)⟩
theorem lw_p23 : lw_okq (⟨"WayMarks$Sight", "firstPairLacking", "(II)I"⟩, 8) := ⟨⟨by decide +kernel, by decide +kernel⟩, List.mem_of_getElem? (i := 125) (by decide +kernel), List.mem_of_getElem? (i := 456) (by decide +kernel), List.mem_of_getElem? (i := 457) (by decide +kernel)⟩
theorem lw_p24 : lw_okq (⟨"WayMarks$Sight", "pairLacks", "(IIII)Z"⟩, 8) := ⟨⟨by decide +kernel, by decide +kernel⟩, List.mem_of_getElem? (i := 125) (by decide +kernel), List.mem_of_getElem? (i := 460) (by decide +kernel), List.mem_of_getElem? (i := 461) (by decide +kernel)⟩
theorem lw_p25 : lw_okq (⟨"WayMarks$Sight", "firstPostLacking", "(II)I"⟩, 8) := ⟨⟨by decide +kernel, by decide +kernel⟩, List.mem_of_getElem? (i := 125) (by decide +kernel), List.mem_of_getElem? (i := 465) (by decide +kernel), List.mem_of_getElem? (i := 466) (by decide +kernel)⟩
theorem lw_p26 : lw_okq (⟨"WayMarks$Sight", "twinPair", "(I)I"⟩, 8) := ⟨⟨by decide +kernel, by decide +kernel⟩, List.mem_of_getElem? (i := 125) (by decide +kernel), List.mem_of_getElem? (i := 473) (by decide +kernel), List.mem_of_getElem? (i := 474) (by decide +kernel)⟩
theorem lw_p27 : lw_okq (⟨"WayMarks$Sight", "areTwins", "(II)Z"⟩, 8) := ⟨⟨by decide +kernel, by decide +kernel⟩, List.mem_of_getElem? (i := 125) (by decide +kernel), List.mem_of_getElem? (i := 477) (by decide +kernel), List.mem_of_getElem? (i := 478) (by decide +kernel)⟩
theorem lw_p28 : lw_okq (⟨"WayMarks$Choice", "search", "(LWayMarks$Net;LWayMarks$Sight;Z)V"⟩, 10) := ⟨⟨by decide +kernel, by decide +kernel⟩, List.mem_of_getElem? (i := 167) (by decide +kernel), List.mem_of_getElem? (i := 487) (by decide +kernel), List.mem_of_getElem? (i := 488) (by decide +kernel)⟩
theorem lw_p29 : lw_okq (⟨"WayMarks$Choice", "gatherDemands", "(LWayMarks$Net;LWayMarks$Sight;)V"⟩, 10) := ⟨⟨by decide +kernel, by decide +kernel⟩, List.mem_of_getElem? (i := 167) (by decide +kernel), List.mem_of_getElem? (i := 493) (by decide +kernel), List.mem_of_getElem? (i := 494) (by decide +kernel)⟩
theorem lw_p30 : lw_okq (⟨"WayMarks$Choice", "demand", "(I)V"⟩, 10) := ⟨⟨by decide +kernel, by decide +kernel⟩, List.mem_of_getElem? (i := 167) (by decide +kernel), List.mem_of_getElem? (i := 498) (by decide +kernel), List.mem_of_getElem? (i := 499) (by decide +kernel)⟩
theorem lw_p31 : lw_okq (⟨"WayMarks$Choice", "decide", "(IIII)V"⟩, 10) := ⟨⟨by decide +kernel, by decide +kernel⟩, List.mem_of_getElem? (i := 167) (by decide +kernel), List.mem_of_getElem? (i := 503) (by decide +kernel), List.mem_of_getElem? (i := 504) (by decide +kernel)⟩
def lw_privs_2 : List (MethodName × Nat) := [(⟨"WayMarks$Sight", "answerOf", "(LWayMarks$Net;II)I"⟩, 8), (⟨"WayMarks$Sight", "groupPosts", "(I)V"⟩, 8), (⟨"WayMarks$Sight", "sameAnswer", "(II)I"⟩, 8), (⟨"WayMarks$Sight", "findParters", "()V"⟩, 8), (⟨"WayMarks$Sight", "findYes", "(I)V"⟩, 8), (⟨"WayMarks$Sight", "countReachedFrom", "(I)I"⟩, 8), (⟨"WayMarks$Net", "isSet", "(I)Z"⟩, 12), (⟨"WayMarks$Sight", "firstPairLacking", "(II)I"⟩, 8), (⟨"WayMarks$Sight", "pairLacks", "(IIII)Z"⟩, 8), (⟨"WayMarks$Sight", "firstPostLacking", "(II)I"⟩, 8), (⟨"WayMarks$Sight", "twinPair", "(I)I"⟩, 8), (⟨"WayMarks$Sight", "areTwins", "(II)Z"⟩, 8), (⟨"WayMarks$Choice", "search", "(LWayMarks$Net;LWayMarks$Sight;Z)V"⟩, 10), (⟨"WayMarks$Choice", "gatherDemands", "(LWayMarks$Net;LWayMarks$Sight;)V"⟩, 10), (⟨"WayMarks$Choice", "demand", "(I)V"⟩, 10), (⟨"WayMarks$Choice", "decide", "(IIII)V"⟩, 10)]
theorem lw_r2 : ∀ q ∈ lw_privs_2, lw_okq q := List.forall_mem_cons.mpr ⟨lw_p16, List.forall_mem_cons.mpr ⟨lw_p17, List.forall_mem_cons.mpr ⟨lw_p18, List.forall_mem_cons.mpr ⟨lw_p19, List.forall_mem_cons.mpr ⟨lw_p20, List.forall_mem_cons.mpr ⟨lw_p21, List.forall_mem_cons.mpr ⟨lw_p22, List.forall_mem_cons.mpr ⟨lw_p23, List.forall_mem_cons.mpr ⟨lw_p24, List.forall_mem_cons.mpr ⟨lw_p25, List.forall_mem_cons.mpr ⟨lw_p26, List.forall_mem_cons.mpr ⟨lw_p27, List.forall_mem_cons.mpr ⟨lw_p28, List.forall_mem_cons.mpr ⟨lw_p29, List.forall_mem_cons.mpr ⟨lw_p30, List.forall_mem_cons.mpr ⟨lw_p31, fun _ h => absurd h List.not_mem_nil⟩⟩⟩⟩⟩⟩⟩⟩⟩⟩⟩⟩⟩⟩⟩⟩
theorem lw_p32 : lw_okq (⟨"WayMarks$Choice", "canBeMet", "(II)Z"⟩, 10) := ⟨⟨by decide +kernel, by decide +kernel⟩, List.mem_of_getElem? (i := 167) (by decide +kernel), List.mem_of_getElem? (i := 507) (by decide +kernel), List.mem_of_getElem? (i := 508) (by decide +kernel)⟩
theorem lw_p33 : lw_okq (⟨"WayMarks$Choice", "takeIfBest", "(II)V"⟩, 10) := ⟨⟨by decide +kernel, by decide +kernel⟩, List.mem_of_getElem? (i := 167) (by decide +kernel), List.mem_of_getElem? (i := 512) (by decide +kernel), List.mem_of_getElem? (i := 513) (by decide +kernel)⟩
theorem lw_p34 : lw_okq (⟨"WayMarks", "tellChoice", "()I"⟩, 9) := ⟨⟨by decide +kernel, by decide +kernel⟩, List.mem_of_getElem? (i := 15) (by decide +kernel), List.mem_of_getElem? (i := 520) (by decide +kernel), List.mem_of_getElem? (i := 521) (by decide +kernel)⟩
theorem lw_p35 : lw_okq (⟨"WayMarks$Sight", "countApartPairs", "()I"⟩, 8) := ⟨⟨by decide +kernel, by decide +kernel⟩, List.mem_of_getElem? (i := 125) (by decide +kernel), List.mem_of_getElem? (i := 540) (by decide +kernel), List.mem_of_getElem? (i := 541) (by decide +kernel)⟩
theorem lw_p36 : lw_okq (⟨"WayMarks$Sight", "goThroughApartPairs", "(IZ)I"⟩, 8) := ⟨⟨by decide +kernel, by decide +kernel⟩, List.mem_of_getElem? (i := 125) (by decide +kernel), List.mem_of_getElem? (i := 544) (by decide +kernel), List.mem_of_getElem? (i := 545) (by decide +kernel)⟩
theorem lw_p37 : lw_okq (⟨"WayMarks$Sight", "apartPair", "(I)I"⟩, 8) := ⟨⟨by decide +kernel, by decide +kernel⟩, List.mem_of_getElem? (i := 125) (by decide +kernel), List.mem_of_getElem? (i := 552) (by decide +kernel), List.mem_of_getElem? (i := 553) (by decide +kernel)⟩
theorem lw_p38 : lw_okq (⟨"WayMarks$Sight", "greedySet", "(I)I"⟩, 8) := ⟨⟨by decide +kernel, by decide +kernel⟩, List.mem_of_getElem? (i := 125) (by decide +kernel), List.mem_of_getElem? (i := 560) (by decide +kernel), List.mem_of_getElem? (i := 561) (by decide +kernel)⟩
theorem lw_p39 : lw_okq (⟨"WayMarks$Sight", "markPartingMost", "(II)I"⟩, 8) := ⟨⟨by decide +kernel, by decide +kernel⟩, List.mem_of_getElem? (i := 125) (by decide +kernel), List.mem_of_getElem? (i := 564) (by decide +kernel), List.mem_of_getElem? (i := 565) (by decide +kernel)⟩
theorem lw_p40 : lw_okq (⟨"WayMarks$Sight", "countLackingPartedBy", "(III)I"⟩, 8) := ⟨⟨by decide +kernel, by decide +kernel⟩, List.mem_of_getElem? (i := 125) (by decide +kernel), List.mem_of_getElem? (i := 568) (by decide +kernel), List.mem_of_getElem? (i := 569) (by decide +kernel)⟩
theorem lw_p41 : lw_okq (⟨"WayMarks$Sight", "countPairsLacking", "(II)I"⟩, 8) := ⟨⟨by decide +kernel, by decide +kernel⟩, List.mem_of_getElem? (i := 125) (by decide +kernel), List.mem_of_getElem? (i := 572) (by decide +kernel), List.mem_of_getElem? (i := 573) (by decide +kernel)⟩
theorem lw_p42 : lw_okq (⟨"WayMarks$Net", "hasWord", "(I)Z"⟩, 12) := ⟨⟨by decide +kernel, by decide +kernel⟩, List.mem_of_getElem? (i := 23) (by decide +kernel), List.mem_of_getElem? (i := 580) (by decide +kernel), List.mem_of_getElem? (i := 581) (by decide +kernel)⟩
theorem lw_p43 : lw_okq (⟨"WayMarks", "fitsWords", "(I)Z"⟩, 9) := ⟨⟨by decide +kernel, by decide +kernel⟩, List.mem_of_getElem? (i := 15) (by decide +kernel), List.mem_of_getElem? (i := 592) (by decide +kernel), List.mem_of_getElem? (i := 593) (by decide +kernel)⟩
theorem lw_p44 : lw_okq (⟨"WayMarks", "wordsAgainst", "(I)I"⟩, 9) := ⟨⟨by decide +kernel, by decide +kernel⟩, List.mem_of_getElem? (i := 15) (by decide +kernel), List.mem_of_getElem? (i := 596) (by decide +kernel), List.mem_of_getElem? (i := 597) (by decide +kernel)⟩
theorem lw_p45 : lw_okq (⟨"WayMarks", "canBeAsked", "(I)Z"⟩, 9) := ⟨⟨by decide +kernel, by decide +kernel⟩, List.mem_of_getElem? (i := 15) (by decide +kernel), List.mem_of_getElem? (i := 612) (by decide +kernel), List.mem_of_getElem? (i := 613) (by decide +kernel)⟩
theorem lw_p46 : lw_okq (⟨"WayMarks$Asking", "prepare", "(ILWayMarks$Net;LWayMarks$Sight;Z)V"⟩, 8) := ⟨⟨by decide +kernel, by decide +kernel⟩, List.mem_of_getElem? (i := 207) (by decide +kernel), List.mem_of_getElem? (i := 616) (by decide +kernel), List.mem_of_getElem? (i := 617) (by decide +kernel)⟩
theorem lw_p47 : lw_okq (⟨"WayMarks$Asking", "findPlaces", "(ILWayMarks$Net;LWayMarks$Sight;)V"⟩, 8) := ⟨⟨by decide +kernel, by decide +kernel⟩, List.mem_of_getElem? (i := 207) (by decide +kernel), List.mem_of_getElem? (i := 620) (by decide +kernel), List.mem_of_getElem? (i := 621) (by decide +kernel)⟩
def lw_privs_3 : List (MethodName × Nat) := [(⟨"WayMarks$Choice", "canBeMet", "(II)Z"⟩, 10), (⟨"WayMarks$Choice", "takeIfBest", "(II)V"⟩, 10), (⟨"WayMarks", "tellChoice", "()I"⟩, 9), (⟨"WayMarks$Sight", "countApartPairs", "()I"⟩, 8), (⟨"WayMarks$Sight", "goThroughApartPairs", "(IZ)I"⟩, 8), (⟨"WayMarks$Sight", "apartPair", "(I)I"⟩, 8), (⟨"WayMarks$Sight", "greedySet", "(I)I"⟩, 8), (⟨"WayMarks$Sight", "markPartingMost", "(II)I"⟩, 8), (⟨"WayMarks$Sight", "countLackingPartedBy", "(III)I"⟩, 8), (⟨"WayMarks$Sight", "countPairsLacking", "(II)I"⟩, 8), (⟨"WayMarks$Net", "hasWord", "(I)Z"⟩, 12), (⟨"WayMarks", "fitsWords", "(I)Z"⟩, 9), (⟨"WayMarks", "wordsAgainst", "(I)I"⟩, 9), (⟨"WayMarks", "canBeAsked", "(I)Z"⟩, 9), (⟨"WayMarks$Asking", "prepare", "(ILWayMarks$Net;LWayMarks$Sight;Z)V"⟩, 8), (⟨"WayMarks$Asking", "findPlaces", "(ILWayMarks$Net;LWayMarks$Sight;)V"⟩, 8)]
theorem lw_r3 : ∀ q ∈ lw_privs_3, lw_okq q := List.forall_mem_cons.mpr ⟨lw_p32, List.forall_mem_cons.mpr ⟨lw_p33, List.forall_mem_cons.mpr ⟨lw_p34, List.forall_mem_cons.mpr ⟨lw_p35, List.forall_mem_cons.mpr ⟨lw_p36, List.forall_mem_cons.mpr ⟨lw_p37, List.forall_mem_cons.mpr ⟨lw_p38, List.forall_mem_cons.mpr ⟨lw_p39, List.forall_mem_cons.mpr ⟨lw_p40, List.forall_mem_cons.mpr ⟨lw_p41, List.forall_mem_cons.mpr ⟨lw_p42, List.forall_mem_cons.mpr ⟨lw_p43, List.forall_mem_cons.mpr ⟨lw_p44, List.forall_mem_cons.mpr ⟨lw_p45, List.forall_mem_cons.mpr ⟨lw_p46, List.forall_mem_cons.mpr ⟨lw_p47, fun _ h => absurd h List.not_mem_nil⟩⟩⟩⟩⟩⟩⟩⟩⟩⟩⟩⟩⟩⟩⟩⟩
theorem lw_p48 : lw_okq (⟨"WayMarks$Asking", "placeOf", "(ILWayMarks$Sight;)I"⟩, 8) := ⟨⟨by decide +kernel, by decide +kernel⟩, List.mem_of_getElem? (i := 207) (by decide +kernel), List.mem_of_getElem? (i := 624) (by decide +kernel), List.mem_of_getElem? (i := 625) (by decide +kernel)⟩
theorem lw_p49 : lw_okq (⟨"WayMarks$Asking", "groupPlaces", "(ILWayMarks$Sight;)V"⟩, 8) := ⟨⟨by decide +kernel, by decide +kernel⟩, List.mem_of_getElem? (i := 207) (by decide +kernel), List.mem_of_getElem? (i := 629) (by decide +kernel), List.mem_of_getElem? (i := 630) (by decide +kernel)⟩
theorem lw_p50 : lw_okq (⟨"WayMarks$Asking", "leastCost", "()I"⟩, 8) := ⟨⟨by decide +kernel, by decide +kernel⟩, List.mem_of_getElem? (i := 207) (by decide +kernel), List.mem_of_getElem? (i := 633) (by decide +kernel), List.mem_of_getElem? (i := 634) (by decide +kernel)⟩
theorem lw_p51 : lw_okq (⟨"WayMarks$Asking", "costOf", "(II)I"⟩, 8) := ⟨⟨by decide +kernel, by decide +kernel⟩, List.mem_of_getElem? (i := 207) (by decide +kernel), List.mem_of_getElem? (i := 637) (by decide +kernel), List.mem_of_getElem? (i := 638) (by decide +kernel)⟩
theorem lw_p52 : lw_okq (⟨"WayMarks$Asking", "costOfAsking", "(III)I"⟩, 8) := ⟨⟨by decide +kernel, by decide +kernel⟩, List.mem_of_getElem? (i := 207) (by decide +kernel), List.mem_of_getElem? (i := 642) (by decide +kernel), List.mem_of_getElem? (i := 643) (by decide +kernel)⟩
theorem lw_p53 : lw_okq (⟨"WayMarks$Asking", "chanceOf", "(I)I"⟩, 8) := ⟨⟨by decide +kernel, by decide +kernel⟩, List.mem_of_getElem? (i := 207) (by decide +kernel), List.mem_of_getElem? (i := 647) (by decide +kernel), List.mem_of_getElem? (i := 648) (by decide +kernel)⟩
theorem lw_p54 : lw_okq (⟨"WayMarks$Asking", "firstMark", "()I"⟩, 8) := ⟨⟨by decide +kernel, by decide +kernel⟩, List.mem_of_getElem? (i := 207) (by decide +kernel), List.mem_of_getElem? (i := 656) (by decide +kernel), List.mem_of_getElem? (i := 657) (by decide +kernel)⟩
theorem lw_p55 : lw_okq (⟨"WayMarks$Seeking", "fewestRounds", "(ILWayMarks$Sight;)I"⟩, 2) := ⟨⟨by decide +kernel, by decide +kernel⟩, List.mem_of_getElem? (i := 238) (by decide +kernel), List.mem_of_getElem? (i := 668) (by decide +kernel), List.mem_of_getElem? (i := 669) (by decide +kernel)⟩
theorem lw_p56 : lw_okq (⟨"WayMarks$Seeking", "prepare", "(ILWayMarks$Sight;)V"⟩, 2) := ⟨⟨by decide +kernel, by decide +kernel⟩, List.mem_of_getElem? (i := 238) (by decide +kernel), List.mem_of_getElem? (i := 673) (by decide +kernel), List.mem_of_getElem? (i := 674) (by decide +kernel)⟩
theorem lw_p57 : lw_okq (⟨"WayMarks$Seeking", "findInRound", "(IILWayMarks$Sight;)Z"⟩, 2) := ⟨⟨by decide +kernel, by decide +kernel⟩, List.mem_of_getElem? (i := 238) (by decide +kernel), List.mem_of_getElem? (i := 678) (by decide +kernel), List.mem_of_getElem? (i := 679) (by decide +kernel)⟩
theorem lw_p58 : lw_okq (⟨"WayMarks$Seeking", "someMarkFinds", "(IILWayMarks$Sight;)Z"⟩, 2) := ⟨⟨by decide +kernel, by decide +kernel⟩, List.mem_of_getElem? (i := 238) (by decide +kernel), List.mem_of_getElem? (i := 682) (by decide +kernel), List.mem_of_getElem? (i := 683) (by decide +kernel)⟩
theorem lw_p59 : lw_okq (⟨"WayMarks$Seeking", "markFinds", "(IIILWayMarks$Sight;)Z"⟩, 2) := ⟨⟨by decide +kernel, by decide +kernel⟩, List.mem_of_getElem? (i := 238) (by decide +kernel), List.mem_of_getElem? (i := 686) (by decide +kernel), List.mem_of_getElem? (i := 687) (by decide +kernel)⟩
theorem lw_p60 : lw_okq (⟨"WayMarks$Net", "countRoads", "()I"⟩, 12) := ⟨⟨by decide +kernel, by decide +kernel⟩, List.mem_of_getElem? (i := 23) (by decide +kernel), List.mem_of_getElem? (i := 694) (by decide +kernel), List.mem_of_getElem? (i := 695) (by decide +kernel)⟩
theorem lw_p61 : lw_okq (⟨"WayMarks$Sight", "leavesLessKnots", "()I"⟩, 8) := ⟨⟨by decide +kernel, by decide +kernel⟩, List.mem_of_getElem? (i := 125) (by decide +kernel), List.mem_of_getElem? (i := 700) (by decide +kernel), List.mem_of_getElem? (i := 701) (by decide +kernel)⟩
theorem lw_p62 : lw_okq (⟨"WayMarks$Sight", "countBeside", "(I)I"⟩, 8) := ⟨⟨by decide +kernel, by decide +kernel⟩, List.mem_of_getElem? (i := 125) (by decide +kernel), List.mem_of_getElem? (i := 704) (by decide +kernel), List.mem_of_getElem? (i := 705) (by decide +kernel)⟩
theorem lw_p63 : lw_okq (⟨"WayMarks$Sight", "knotOfLeaf", "(I)I"⟩, 8) := ⟨⟨by decide +kernel, by decide +kernel⟩, List.mem_of_getElem? (i := 125) (by decide +kernel), List.mem_of_getElem? (i := 708) (by decide +kernel), List.mem_of_getElem? (i := 709) (by decide +kernel)⟩
def lw_privs_4 : List (MethodName × Nat) := [(⟨"WayMarks$Asking", "placeOf", "(ILWayMarks$Sight;)I"⟩, 8), (⟨"WayMarks$Asking", "groupPlaces", "(ILWayMarks$Sight;)V"⟩, 8), (⟨"WayMarks$Asking", "leastCost", "()I"⟩, 8), (⟨"WayMarks$Asking", "costOf", "(II)I"⟩, 8), (⟨"WayMarks$Asking", "costOfAsking", "(III)I"⟩, 8), (⟨"WayMarks$Asking", "chanceOf", "(I)I"⟩, 8), (⟨"WayMarks$Asking", "firstMark", "()I"⟩, 8), (⟨"WayMarks$Seeking", "fewestRounds", "(ILWayMarks$Sight;)I"⟩, 2), (⟨"WayMarks$Seeking", "prepare", "(ILWayMarks$Sight;)V"⟩, 2), (⟨"WayMarks$Seeking", "findInRound", "(IILWayMarks$Sight;)Z"⟩, 2), (⟨"WayMarks$Seeking", "someMarkFinds", "(IILWayMarks$Sight;)Z"⟩, 2), (⟨"WayMarks$Seeking", "markFinds", "(IIILWayMarks$Sight;)Z"⟩, 2), (⟨"WayMarks$Net", "countRoads", "()I"⟩, 12), (⟨"WayMarks$Sight", "leavesLessKnots", "()I"⟩, 8), (⟨"WayMarks$Sight", "countBeside", "(I)I"⟩, 8), (⟨"WayMarks$Sight", "knotOfLeaf", "(I)I"⟩, 8)]
theorem lw_r4 : ∀ q ∈ lw_privs_4, lw_okq q := List.forall_mem_cons.mpr ⟨lw_p48, List.forall_mem_cons.mpr ⟨lw_p49, List.forall_mem_cons.mpr ⟨lw_p50, List.forall_mem_cons.mpr ⟨lw_p51, List.forall_mem_cons.mpr ⟨lw_p52, List.forall_mem_cons.mpr ⟨lw_p53, List.forall_mem_cons.mpr ⟨lw_p54, List.forall_mem_cons.mpr ⟨lw_p55, List.forall_mem_cons.mpr ⟨lw_p56, List.forall_mem_cons.mpr ⟨lw_p57, List.forall_mem_cons.mpr ⟨lw_p58, List.forall_mem_cons.mpr ⟨lw_p59, List.forall_mem_cons.mpr ⟨lw_p60, List.forall_mem_cons.mpr ⟨lw_p61, List.forall_mem_cons.mpr ⟨lw_p62, List.forall_mem_cons.mpr ⟨lw_p63, fun _ h => absurd h List.not_mem_nil⟩⟩⟩⟩⟩⟩⟩⟩⟩⟩⟩⟩⟩⟩⟩⟩
theorem lw_p64 : lw_okq (⟨"WayMarks$Past", "goBack", "(LWayMarks$Net;I)V"⟩, 3) := ⟨⟨by decide +kernel, by decide +kernel⟩, List.mem_of_getElem? (i := 91) (by decide +kernel), List.mem_of_getElem? (i := 717) (by decide +kernel), List.mem_of_getElem? (i := 718) (by decide +kernel)⟩
theorem lw_p65 : lw_okq (⟨"WayMarksModel", "first", "(I)V"⟩, 16) := ⟨⟨by decide +kernel, by decide +kernel⟩, List.mem_of_getElem? (i := 728) (by decide +kernel), List.mem_of_getElem? (i := 736) (by decide +kernel), List.mem_of_getElem? (i := 737) (by decide +kernel)⟩
theorem lw_p66 : lw_okq (⟨"WayMarksModel", "walk", "()V"⟩, 16) := ⟨⟨by decide +kernel, by decide +kernel⟩, List.mem_of_getElem? (i := 728) (by decide +kernel), List.mem_of_getElem? (i := 740) (by decide +kernel), List.mem_of_getElem? (i := 741) (by decide +kernel)⟩
theorem lw_p67 : lw_okq (⟨"WayMarksModel", "length", "(II)I"⟩, 16) := ⟨⟨by decide +kernel, by decide +kernel⟩, List.mem_of_getElem? (i := 728) (by decide +kernel), List.mem_of_getElem? (i := 744) (by decide +kernel), List.mem_of_getElem? (i := 745) (by decide +kernel)⟩
theorem lw_p68 : lw_okq (⟨"WayMarksModel", "n", "()I"⟩, 16) := ⟨⟨by decide +kernel, by decide +kernel⟩, List.mem_of_getElem? (i := 728) (by decide +kernel), List.mem_of_getElem? (i := 749) (by decide +kernel), List.mem_of_getElem? (i := 750) (by decide +kernel)⟩
theorem lw_p69 : lw_okq (⟨"WayMarksModel", "says", "(II)I"⟩, 16) := ⟨⟨by decide +kernel, by decide +kernel⟩, List.mem_of_getElem? (i := 728) (by decide +kernel), List.mem_of_getElem? (i := 753) (by decide +kernel), List.mem_of_getElem? (i := 754) (by decide +kernel)⟩
theorem lw_p70 : lw_okq (⟨"WayMarksModel", "act", "()V"⟩, 16) := ⟨⟨by decide +kernel, by decide +kernel⟩, List.mem_of_getElem? (i := 728) (by decide +kernel), List.mem_of_getElem? (i := 814) (by decide +kernel), List.mem_of_getElem? (i := 815) (by decide +kernel)⟩
theorem lw_p71 : lw_okq (⟨"WayMarksModel", "isRoad", "(III)Z"⟩, 16) := ⟨⟨by decide +kernel, by decide +kernel⟩, List.mem_of_getElem? (i := 728) (by decide +kernel), List.mem_of_getElem? (i := 822) (by decide +kernel), List.mem_of_getElem? (i := 823) (by decide +kernel)⟩
theorem lw_p72 : lw_okq (⟨"WayMarksModel", "isPost", "(I)Z"⟩, 16) := ⟨⟨by decide +kernel, by decide +kernel⟩, List.mem_of_getElem? (i := 728) (by decide +kernel), List.mem_of_getElem? (i := 826) (by decide +kernel), List.mem_of_getElem? (i := 827) (by decide +kernel)⟩
theorem lw_p73 : lw_okq (⟨"WayMarksModel", "lay", "(III)V"⟩, 16) := ⟨⟨by decide +kernel, by decide +kernel⟩, List.mem_of_getElem? (i := 728) (by decide +kernel), List.mem_of_getElem? (i := 830) (by decide +kernel), List.mem_of_getElem? (i := 831) (by decide +kernel)⟩
theorem lw_p74 : lw_okq (⟨"WayMarksModel", "four", "(I)V"⟩, 16) := ⟨⟨by decide +kernel, by decide +kernel⟩, List.mem_of_getElem? (i := 728) (by decide +kernel), List.mem_of_getElem? (i := 842) (by decide +kernel), List.mem_of_getElem? (i := 843) (by decide +kernel)⟩
theorem lw_p75 : lw_okq (⟨"WayMarksModel", "need", "()I"⟩, 16) := ⟨⟨by decide +kernel, by decide +kernel⟩, List.mem_of_getElem? (i := 728) (by decide +kernel), List.mem_of_getElem? (i := 870) (by decide +kernel), List.mem_of_getElem? (i := 871) (by decide +kernel)⟩
theorem lw_p76 : lw_okq (⟨"WayMarksModel", "besideBits", "(I)I"⟩, 16) := ⟨⟨by decide +kernel, by decide +kernel⟩, List.mem_of_getElem? (i := 728) (by decide +kernel), List.mem_of_getElem? (i := 886) (by decide +kernel), List.mem_of_getElem? (i := 887) (by decide +kernel)⟩
theorem lw_p77 : lw_okq (⟨"WayMarksModel", "answerOf", "(II)I"⟩, 16) := ⟨⟨by decide +kernel, by decide +kernel⟩, List.mem_of_getElem? (i := 728) (by decide +kernel), List.mem_of_getElem? (i := 897) (by decide +kernel), List.mem_of_getElem? (i := 898) (by decide +kernel)⟩
theorem lw_p78 : lw_okq (⟨"WayMarksModel", "isSet", "(I)Z"⟩, 16) := ⟨⟨by decide +kernel, by decide +kernel⟩, List.mem_of_getElem? (i := 728) (by decide +kernel), List.mem_of_getElem? (i := 905) (by decide +kernel), List.mem_of_getElem? (i := 906) (by decide +kernel)⟩
theorem lw_p79 : lw_okq (⟨"WayMarksModel", "parting", "(II)I"⟩, 16) := ⟨⟨by decide +kernel, by decide +kernel⟩, List.mem_of_getElem? (i := 728) (by decide +kernel), List.mem_of_getElem? (i := 909) (by decide +kernel), List.mem_of_getElem? (i := 910) (by decide +kernel)⟩
def lw_privs_5 : List (MethodName × Nat) := [(⟨"WayMarks$Past", "goBack", "(LWayMarks$Net;I)V"⟩, 3), (⟨"WayMarksModel", "first", "(I)V"⟩, 16), (⟨"WayMarksModel", "walk", "()V"⟩, 16), (⟨"WayMarksModel", "length", "(II)I"⟩, 16), (⟨"WayMarksModel", "n", "()I"⟩, 16), (⟨"WayMarksModel", "says", "(II)I"⟩, 16), (⟨"WayMarksModel", "act", "()V"⟩, 16), (⟨"WayMarksModel", "isRoad", "(III)Z"⟩, 16), (⟨"WayMarksModel", "isPost", "(I)Z"⟩, 16), (⟨"WayMarksModel", "lay", "(III)V"⟩, 16), (⟨"WayMarksModel", "four", "(I)V"⟩, 16), (⟨"WayMarksModel", "need", "()I"⟩, 16), (⟨"WayMarksModel", "besideBits", "(I)I"⟩, 16), (⟨"WayMarksModel", "answerOf", "(II)I"⟩, 16), (⟨"WayMarksModel", "isSet", "(I)Z"⟩, 16), (⟨"WayMarksModel", "parting", "(II)I"⟩, 16)]
theorem lw_r5 : ∀ q ∈ lw_privs_5, lw_okq q := List.forall_mem_cons.mpr ⟨lw_p64, List.forall_mem_cons.mpr ⟨lw_p65, List.forall_mem_cons.mpr ⟨lw_p66, List.forall_mem_cons.mpr ⟨lw_p67, List.forall_mem_cons.mpr ⟨lw_p68, List.forall_mem_cons.mpr ⟨lw_p69, List.forall_mem_cons.mpr ⟨lw_p70, List.forall_mem_cons.mpr ⟨lw_p71, List.forall_mem_cons.mpr ⟨lw_p72, List.forall_mem_cons.mpr ⟨lw_p73, List.forall_mem_cons.mpr ⟨lw_p74, List.forall_mem_cons.mpr ⟨lw_p75, List.forall_mem_cons.mpr ⟨lw_p76, List.forall_mem_cons.mpr ⟨lw_p77, List.forall_mem_cons.mpr ⟨lw_p78, List.forall_mem_cons.mpr ⟨lw_p79, fun _ h => absurd h List.not_mem_nil⟩⟩⟩⟩⟩⟩⟩⟩⟩⟩⟩⟩⟩⟩⟩⟩
theorem lw_p80 : lw_okq (⟨"WayMarksModel", "isParting", "(III)Z"⟩, 16) := ⟨⟨by decide +kernel, by decide +kernel⟩, List.mem_of_getElem? (i := 728) (by decide +kernel), List.mem_of_getElem? (i := 913) (by decide +kernel), List.mem_of_getElem? (i := 914) (by decide +kernel)⟩
theorem lw_p81 : lw_okq (⟨"WayMarksModel", "gather", "()V"⟩, 16) := ⟨⟨by decide +kernel, by decide +kernel⟩, List.mem_of_getElem? (i := 728) (by decide +kernel), List.mem_of_getElem? (i := 921) (by decide +kernel), List.mem_of_getElem? (i := 922) (by decide +kernel)⟩
theorem lw_p82 : lw_okq (⟨"WayMarksModel", "yes", "(I)I"⟩, 16) := ⟨⟨by decide +kernel, by decide +kernel⟩, List.mem_of_getElem? (i := 728) (by decide +kernel), List.mem_of_getElem? (i := 925) (by decide +kernel), List.mem_of_getElem? (i := 926) (by decide +kernel)⟩
theorem lw_p83 : lw_okq (⟨"WayMarksModel", "isYes", "(II)Z"⟩, 16) := ⟨⟨by decide +kernel, by decide +kernel⟩, List.mem_of_getElem? (i := 728) (by decide +kernel), List.mem_of_getElem? (i := 929) (by decide +kernel), List.mem_of_getElem? (i := 930) (by decide +kernel)⟩
theorem lw_p84 : lw_okq (⟨"WayMarksModel", "clashOf", "(I)I"⟩, 16) := ⟨⟨by decide +kernel, by decide +kernel⟩, List.mem_of_getElem? (i := 728) (by decide +kernel), List.mem_of_getElem? (i := 933) (by decide +kernel), List.mem_of_getElem? (i := 934) (by decide +kernel)⟩
theorem lw_p85 : lw_okq (⟨"WayMarksModel", "areTwins", "(II)Z"⟩, 16) := ⟨⟨by decide +kernel, by decide +kernel⟩, List.mem_of_getElem? (i := 728) (by decide +kernel), List.mem_of_getElem? (i := 941) (by decide +kernel), List.mem_of_getElem? (i := 942) (by decide +kernel)⟩
theorem lw_p86 : lw_okq (⟨"WayMarksModel", "best", "(Z)I"⟩, 16) := ⟨⟨by decide +kernel, by decide +kernel⟩, List.mem_of_getElem? (i := 728) (by decide +kernel), List.mem_of_getElem? (i := 949) (by decide +kernel), List.mem_of_getElem? (i := 950) (by decide +kernel)⟩
theorem lw_p87 : lw_okq (⟨"WayMarksModel", "price", "(I)I"⟩, 16) := ⟨⟨by decide +kernel, by decide +kernel⟩, List.mem_of_getElem? (i := 728) (by decide +kernel), List.mem_of_getElem? (i := 953) (by decide +kernel), List.mem_of_getElem? (i := 954) (by decide +kernel)⟩
theorem lw_p88 : lw_okq (⟨"WayMarksModel", "show", "()I"⟩, 16) := ⟨⟨by decide +kernel, by decide +kernel⟩, List.mem_of_getElem? (i := 728) (by decide +kernel), List.mem_of_getElem? (i := 973) (by decide +kernel), List.mem_of_getElem? (i := 974) (by decide +kernel)⟩
theorem lw_p89 : lw_okq (⟨"WayMarksModel", "lacks", "(II)Z"⟩, 16) := ⟨⟨by decide +kernel, by decide +kernel⟩, List.mem_of_getElem? (i := 728) (by decide +kernel), List.mem_of_getElem? (i := 985) (by decide +kernel), List.mem_of_getElem? (i := 986) (by decide +kernel)⟩
theorem lw_p90 : lw_okq (⟨"WayMarksModel", "isFit", "(I)Z"⟩, 16) := ⟨⟨by decide +kernel, by decide +kernel⟩, List.mem_of_getElem? (i := 728) (by decide +kernel), List.mem_of_getElem? (i := 1001) (by decide +kernel), List.mem_of_getElem? (i := 1002) (by decide +kernel)⟩
theorem lw_p91 : lw_okq (⟨"WayMarksModel", "againstBits", "(I)I"⟩, 16) := ⟨⟨by decide +kernel, by decide +kernel⟩, List.mem_of_getElem? (i := 728) (by decide +kernel), List.mem_of_getElem? (i := 1005) (by decide +kernel), List.mem_of_getElem? (i := 1006) (by decide +kernel)⟩
theorem lw_p92 : lw_okq (⟨"WayMarksModel", "isAsked", "(I)Z"⟩, 16) := ⟨⟨by decide +kernel, by decide +kernel⟩, List.mem_of_getElem? (i := 728) (by decide +kernel), List.mem_of_getElem? (i := 1021) (by decide +kernel), List.mem_of_getElem? (i := 1022) (by decide +kernel)⟩
theorem lw_p93 : lw_okq (⟨"WayMarksModel", "fill", "(I)V"⟩, 16) := ⟨⟨by decide +kernel, by decide +kernel⟩, List.mem_of_getElem? (i := 728) (by decide +kernel), List.mem_of_getElem? (i := 1025) (by decide +kernel), List.mem_of_getElem? (i := 1026) (by decide +kernel)⟩
theorem lw_p94 : lw_okq (⟨"WayMarksModel", "fillOne", "(I)V"⟩, 16) := ⟨⟨by decide +kernel, by decide +kernel⟩, List.mem_of_getElem? (i := 728) (by decide +kernel), List.mem_of_getElem? (i := 1029) (by decide +kernel), List.mem_of_getElem? (i := 1030) (by decide +kernel)⟩
theorem lw_p95 : lw_okq (⟨"WayMarksModel", "isDone", "(I)Z"⟩, 16) := ⟨⟨by decide +kernel, by decide +kernel⟩, List.mem_of_getElem? (i := 728) (by decide +kernel), List.mem_of_getElem? (i := 1033) (by decide +kernel), List.mem_of_getElem? (i := 1034) (by decide +kernel)⟩
def lw_privs_6 : List (MethodName × Nat) := [(⟨"WayMarksModel", "isParting", "(III)Z"⟩, 16), (⟨"WayMarksModel", "gather", "()V"⟩, 16), (⟨"WayMarksModel", "yes", "(I)I"⟩, 16), (⟨"WayMarksModel", "isYes", "(II)Z"⟩, 16), (⟨"WayMarksModel", "clashOf", "(I)I"⟩, 16), (⟨"WayMarksModel", "areTwins", "(II)Z"⟩, 16), (⟨"WayMarksModel", "best", "(Z)I"⟩, 16), (⟨"WayMarksModel", "price", "(I)I"⟩, 16), (⟨"WayMarksModel", "show", "()I"⟩, 16), (⟨"WayMarksModel", "lacks", "(II)Z"⟩, 16), (⟨"WayMarksModel", "isFit", "(I)Z"⟩, 16), (⟨"WayMarksModel", "againstBits", "(I)I"⟩, 16), (⟨"WayMarksModel", "isAsked", "(I)Z"⟩, 16), (⟨"WayMarksModel", "fill", "(I)V"⟩, 16), (⟨"WayMarksModel", "fillOne", "(I)V"⟩, 16), (⟨"WayMarksModel", "isDone", "(I)Z"⟩, 16)]
theorem lw_r6 : ∀ q ∈ lw_privs_6, lw_okq q := List.forall_mem_cons.mpr ⟨lw_p80, List.forall_mem_cons.mpr ⟨lw_p81, List.forall_mem_cons.mpr ⟨lw_p82, List.forall_mem_cons.mpr ⟨lw_p83, List.forall_mem_cons.mpr ⟨lw_p84, List.forall_mem_cons.mpr ⟨lw_p85, List.forall_mem_cons.mpr ⟨lw_p86, List.forall_mem_cons.mpr ⟨lw_p87, List.forall_mem_cons.mpr ⟨lw_p88, List.forall_mem_cons.mpr ⟨lw_p89, List.forall_mem_cons.mpr ⟨lw_p90, List.forall_mem_cons.mpr ⟨lw_p91, List.forall_mem_cons.mpr ⟨lw_p92, List.forall_mem_cons.mpr ⟨lw_p93, List.forall_mem_cons.mpr ⟨lw_p94, List.forall_mem_cons.mpr ⟨lw_p95, fun _ h => absurd h List.not_mem_nil⟩⟩⟩⟩⟩⟩⟩⟩⟩⟩⟩⟩⟩⟩⟩⟩
theorem lw_p96 : lw_okq (⟨"WayMarksModel", "staying", "(III)I"⟩, 16) := ⟨⟨by decide +kernel, by decide +kernel⟩, List.mem_of_getElem? (i := 728) (by decide +kernel), List.mem_of_getElem? (i := 1038) (by decide +kernel), List.mem_of_getElem? (i := 1039) (by decide +kernel)⟩
theorem lw_p97 : lw_okq (⟨"WayMarksModel", "isFoundIn", "(II)Z"⟩, 16) := ⟨⟨by decide +kernel, by decide +kernel⟩, List.mem_of_getElem? (i := 728) (by decide +kernel), List.mem_of_getElem? (i := 1054) (by decide +kernel), List.mem_of_getElem? (i := 1055) (by decide +kernel)⟩
theorem lw_p98 : lw_okq (⟨"WayMarksModel", "moved", "(I)I"⟩, 16) := ⟨⟨by decide +kernel, by decide +kernel⟩, List.mem_of_getElem? (i := 728) (by decide +kernel), List.mem_of_getElem? (i := 1058) (by decide +kernel), List.mem_of_getElem? (i := 1059) (by decide +kernel)⟩
theorem lw_p99 : lw_okq (⟨"WayMarksModel", "isLed", "(I)Z"⟩, 16) := ⟨⟨by decide +kernel, by decide +kernel⟩, List.mem_of_getElem? (i := 728) (by decide +kernel), List.mem_of_getElem? (i := 1067) (by decide +kernel), List.mem_of_getElem? (i := 1068) (by decide +kernel)⟩
def lw_privs_7 : List (MethodName × Nat) := [(⟨"WayMarksModel", "staying", "(III)I"⟩, 16), (⟨"WayMarksModel", "isFoundIn", "(II)Z"⟩, 16), (⟨"WayMarksModel", "moved", "(I)I"⟩, 16), (⟨"WayMarksModel", "isLed", "(I)Z"⟩, 16)]
theorem lw_r7 : ∀ q ∈ lw_privs_7, lw_okq q := List.forall_mem_cons.mpr ⟨lw_p96, List.forall_mem_cons.mpr ⟨lw_p97, List.forall_mem_cons.mpr ⟨lw_p98, List.forall_mem_cons.mpr ⟨lw_p99, fun _ h => absurd h List.not_mem_nil⟩⟩⟩⟩
def lw_privs : List (MethodName × Nat) := lw_privs_1 ++ (lw_privs_2 ++ (lw_privs_3 ++ (lw_privs_4 ++ (lw_privs_5 ++ (lw_privs_6 ++ (lw_privs_7))))))
def lw_tbl : List Cond := k2_sels lw_privs ++ tables_1
theorem lw_privs_ok : ∀ q ∈ lw_privs, lw_okq q := by
  show ∀ q ∈ lw_privs_1 ++ (lw_privs_2 ++ (lw_privs_3 ++ (lw_privs_4 ++ (lw_privs_5 ++ (lw_privs_6 ++ (lw_privs_7)))))), lw_okq q
  exact List.forall_mem_append.mpr ⟨lw_r1, List.forall_mem_append.mpr ⟨lw_r2, List.forall_mem_append.mpr ⟨lw_r3, List.forall_mem_append.mpr ⟨lw_r4, List.forall_mem_append.mpr ⟨lw_r5, List.forall_mem_append.mpr ⟨lw_r6, lw_r7⟩⟩⟩⟩⟩⟩
end
section
def RX0 : String := "WayMarks$Asking"
def TX0 : u_T := fun k => match k with
  | 0 => ("WayMarks$Asking", "costs", "[I", true)
  | 1 => ("WayMarks$Asking", "heads", "[I", true)
  | 2 => ("WayMarks$Asking", "chances", "[I", true)
  | 3 => ("WayMarks$Asking", "places", "I", false)
  | 4 => ("WayMarks$Asking", "marks", "I", false)
  | 5 => ("WayMarks$Asking", "summing", "Z", false)
  | 6 => ("WayMarks$Asking", "groups", "[I", true)
  | _ => ("WayMarks$Asking", "groupCounts", "[I", true)
def tyX0 : Nat → FieldType := fun k => match k with
  | 0 => .array .int
  | 1 => .array .int
  | 2 => .array .int
  | 3 => .int
  | 4 => .int
  | 5 => .boolean
  | 6 => .array .int
  | _ => .array .int
abbrev wsX00 : List Cond := u_ws RX0 TX0 8
theorem nmX0 : ∀ a, a < 8 → ∀ b, b < 8 → a ≠ b → (TX0 a).2.1 ≠ (TX0 b).2.1 := by decide +kernel
theorem tyX0_ok : ∀ k, k < 8 → parseFieldDescriptor (TX0 k).2.2.1 = some (tyX0 k) := by decide +kernel
abbrev cX0_init : ByteArray := prog_2_method_1_code
def yX0_init : MethodName := ⟨RX0, "<init>", "()V"⟩
abbrev cX0_prepare : ByteArray := prog_2_method_2_code
def yX0_prepare : MethodName := ⟨RX0, "prepare", "(ILWayMarks$Net;LWayMarks$Sight;Z)V"⟩
abbrev cX0_findPlaces : ByteArray := prog_2_method_3_code
def yX0_findPlaces : MethodName := ⟨RX0, "findPlaces", "(ILWayMarks$Net;LWayMarks$Sight;)V"⟩
abbrev cX0_placeOf : ByteArray := prog_2_method_4_code
def yX0_placeOf : MethodName := ⟨RX0, "placeOf", "(ILWayMarks$Sight;)I"⟩
abbrev cX0_groupPlaces : ByteArray := prog_2_method_5_code
def yX0_groupPlaces : MethodName := ⟨RX0, "groupPlaces", "(ILWayMarks$Sight;)V"⟩
abbrev cX0_leastCost : ByteArray := prog_2_method_6_code
def yX0_leastCost : MethodName := ⟨RX0, "leastCost", "()I"⟩
abbrev cX0_firstMark : ByteArray := prog_2_method_7_code
def yX0_firstMark : MethodName := ⟨RX0, "firstMark", "()I"⟩
abbrev cX0_costOf : ByteArray := prog_2_method_8_code
def yX0_costOf : MethodName := ⟨RX0, "costOf", "(II)I"⟩
abbrev cX0_costOfAsking : ByteArray := prog_2_method_9_code
def yX0_costOfAsking : MethodName := ⟨RX0, "costOfAsking", "(III)I"⟩
abbrev cX0_chanceOf : ByteArray := prog_2_method_10_code
def yX0_chanceOf : MethodName := ⟨RX0, "chanceOf", "(I)I"⟩
def RX1 : String := "WayMarks$Choice"
def TX1 : u_T := fun k => match k with
  | 0 => ("WayMarks$Choice", "demands", "[I", true)
  | 1 => ("WayMarks$Choice", "demandCount", "I", false)
  | 2 => ("WayMarks$Choice", "need", "I", false)
  | 3 => ("WayMarks$Choice", "costs", "[I", true)
  | 4 => ("WayMarks$Choice", "leastCost", "I", false)
  | 5 => ("WayMarks$Choice", "tightest", "I", false)
  | 6 => ("WayMarks$Choice", "stillNeeded", "I", false)
  | 7 => ("WayMarks$Choice", "bestSum", "I", false)
  | 8 => ("WayMarks$Choice", "bestSet", "I", false)
  | _ => ("WayMarks$Choice", "bestCount", "I", false)
def tyX1 : Nat → FieldType := fun k => match k with
  | 0 => .array .int
  | 1 => .int
  | 2 => .int
  | 3 => .array .int
  | 4 => .int
  | 5 => .int
  | 6 => .int
  | 7 => .int
  | 8 => .int
  | _ => .int
abbrev wsX10 : List Cond := u_ws RX1 TX1 10
theorem nmX1 : ∀ a, a < 10 → ∀ b, b < 10 → a ≠ b → (TX1 a).2.1 ≠ (TX1 b).2.1 := by decide +kernel
theorem tyX1_ok : ∀ k, k < 10 → parseFieldDescriptor (TX1 k).2.2.1 = some (tyX1 k) := by decide +kernel
abbrev cX1_init : ByteArray := prog_3_method_1_code
def yX1_init : MethodName := ⟨RX1, "<init>", "()V"⟩
abbrev cX1_search : ByteArray := prog_3_method_2_code
def yX1_search : MethodName := ⟨RX1, "search", "(LWayMarks$Net;LWayMarks$Sight;Z)V"⟩
abbrev cX1_gatherDemands : ByteArray := prog_3_method_3_code
def yX1_gatherDemands : MethodName := ⟨RX1, "gatherDemands", "(LWayMarks$Net;LWayMarks$Sight;)V"⟩
abbrev cX1_demand : ByteArray := prog_3_method_4_code
def yX1_demand : MethodName := ⟨RX1, "demand", "(I)V"⟩
abbrev cX1_decide : ByteArray := prog_3_method_5_code
def yX1_decide : MethodName := ⟨RX1, "decide", "(IIII)V"⟩
abbrev cX1_canBeMet : ByteArray := prog_3_method_6_code
def yX1_canBeMet : MethodName := ⟨RX1, "canBeMet", "(II)Z"⟩
abbrev cX1_takeIfBest : ByteArray := prog_3_method_7_code
def yX1_takeIfBest : MethodName := ⟨RX1, "takeIfBest", "(II)V"⟩
def RX2 : String := "WayMarks$Net"
def TX2 : u_T := fun k => match k with
  | 0 => ("WayMarks$Net", "posts", "I", false)
  | 1 => ("WayMarks$Net", "kind", "I", false)
  | 2 => ("WayMarks$Net", "within", "I", false)
  | 3 => ("WayMarks$Net", "faults", "I", false)
  | 4 => ("WayMarks$Net", "lying", "Z", false)
  | 5 => ("WayMarks$Net", "yesWanted", "Z", false)
  | 6 => ("WayMarks$Net", "worded", "I", false)
  | 7 => ("WayMarks$Net", "lengths", "[I", true)
  | 8 => ("WayMarks$Net", "reaches", "[I", true)
  | 9 => ("WayMarks$Net", "prices", "[I", true)
  | 10 => ("WayMarks$Net", "chances", "[I", true)
  | _ => ("WayMarks$Net", "words", "[I", true)
def tyX2 : Nat → FieldType := fun k => match k with
  | 0 => .int
  | 1 => .int
  | 2 => .int
  | 3 => .int
  | 4 => .boolean
  | 5 => .boolean
  | 6 => .int
  | 7 => .array .int
  | 8 => .array .int
  | 9 => .array .int
  | 10 => .array .int
  | _ => .array .int
abbrev wsX20 : List Cond := u_ws RX2 TX2 12
theorem nmX2 : ∀ a, a < 12 → ∀ b, b < 12 → a ≠ b → (TX2 a).2.1 ≠ (TX2 b).2.1 := by decide +kernel
theorem tyX2_ok : ∀ k, k < 12 → parseFieldDescriptor (TX2 k).2.2.1 = some (tyX2 k) := by decide +kernel
abbrev cX2_init : ByteArray := prog_4_method_1_code
def yX2_init : MethodName := ⟨RX2, "<init>", "()V"⟩
abbrev cX2_become : ByteArray := prog_4_method_2_code
def yX2_become : MethodName := ⟨RX2, "become", "(LWayMarks$Net;)V"⟩
abbrev cX2_isPost : ByteArray := prog_4_method_3_code
def yX2_isPost : MethodName := ⟨RX2, "isPost", "(I)Z"⟩
abbrev cX2_isSet : ByteArray := prog_4_method_4_code
def yX2_isSet : MethodName := ⟨RX2, "isSet", "(I)Z"⟩
abbrev cX2_hasRoad : ByteArray := prog_4_method_5_code
def yX2_hasRoad : MethodName := ⟨RX2, "hasRoad", "(II)Z"⟩
abbrev cX2_hasWord : ByteArray := prog_4_method_6_code
def yX2_hasWord : MethodName := ⟨RX2, "hasWord", "(I)Z"⟩
abbrev cX2_roadCanBe : ByteArray := prog_4_method_7_code
def yX2_roadCanBe : MethodName := ⟨RX2, "roadCanBe", "(III)Z"⟩
abbrev cX2_layRoad : ByteArray := prog_4_method_8_code
def yX2_layRoad : MethodName := ⟨RX2, "layRoad", "(III)V"⟩
abbrev cX2_besideBits : ByteArray := prog_4_method_9_code
def yX2_besideBits : MethodName := ⟨RX2, "besideBits", "(I)I"⟩
abbrev cX2_countRoads : ByteArray := prog_4_method_10_code
def yX2_countRoads : MethodName := ⟨RX2, "countRoads", "()I"⟩
abbrev cX2_need : ByteArray := prog_4_method_11_code
def yX2_need : MethodName := ⟨RX2, "need", "()I"⟩
def RX3 : String := "WayMarks$Past"
def TX3 : u_T := fun k => match k with
  | 0 => ("WayMarks$Past", "kept", "[LWayMarks$Net;", true)
  | 1 => ("WayMarks$Past", "top", "I", false)
  | _ => ("WayMarks$Past", "count", "I", false)
def tyX3 : Nat → FieldType := fun k => match k with
  | 0 => .array (.object "WayMarks$Net")
  | 1 => .int
  | _ => .int
abbrev wsX30 : List Cond := u_ws RX3 TX3 3
theorem nmX3 : ∀ a, a < 3 → ∀ b, b < 3 → a ≠ b → (TX3 a).2.1 ≠ (TX3 b).2.1 := by decide +kernel
theorem tyX3_ok : ∀ k, k < 3 → parseFieldDescriptor (TX3 k).2.2.1 = some (tyX3 k) := by decide +kernel
abbrev cX3_init : ByteArray := prog_5_method_1_code
def yX3_init : MethodName := ⟨RX3, "<init>", "()V"⟩
abbrev cX3_keep : ByteArray := prog_5_method_2_code
def yX3_keep : MethodName := ⟨RX3, "keep", "(LWayMarks$Net;)V"⟩
abbrev cX3_goBack : ByteArray := prog_5_method_3_code
def yX3_goBack : MethodName := ⟨RX3, "goBack", "(LWayMarks$Net;I)V"⟩
def RX4 : String := "WayMarks$Seeking"
def TX4 : u_T := fun k => match k with
  | 0 => ("WayMarks$Seeking", "rounds", "[I", true)
  | _ => ("WayMarks$Seeking", "spreads", "[I", true)
def tyX4 : Nat → FieldType := fun k => match k with
  | 0 => .array .int
  | _ => .array .int
abbrev wsX40 : List Cond := u_ws RX4 TX4 2
theorem nmX4 : ∀ a, a < 2 → ∀ b, b < 2 → a ≠ b → (TX4 a).2.1 ≠ (TX4 b).2.1 := by decide +kernel
theorem tyX4_ok : ∀ k, k < 2 → parseFieldDescriptor (TX4 k).2.2.1 = some (tyX4 k) := by decide +kernel
abbrev cX4_init : ByteArray := prog_6_method_1_code
def yX4_init : MethodName := ⟨RX4, "<init>", "()V"⟩
abbrev cX4_fewestRounds : ByteArray := prog_6_method_2_code
def yX4_fewestRounds : MethodName := ⟨RX4, "fewestRounds", "(ILWayMarks$Sight;)I"⟩
abbrev cX4_prepare : ByteArray := prog_6_method_3_code
def yX4_prepare : MethodName := ⟨RX4, "prepare", "(ILWayMarks$Sight;)V"⟩
abbrev cX4_findInRound : ByteArray := prog_6_method_4_code
def yX4_findInRound : MethodName := ⟨RX4, "findInRound", "(IILWayMarks$Sight;)Z"⟩
abbrev cX4_someMarkFinds : ByteArray := prog_6_method_5_code
def yX4_someMarkFinds : MethodName := ⟨RX4, "someMarkFinds", "(IILWayMarks$Sight;)Z"⟩
abbrev cX4_markFinds : ByteArray := prog_6_method_6_code
def yX4_markFinds : MethodName := ⟨RX4, "markFinds", "(IIILWayMarks$Sight;)Z"⟩
def RX5 : String := "WayMarks$Sight"
def TX5 : u_T := fun k => match k with
  | 0 => ("WayMarks$Sight", "posts", "I", false)
  | 1 => ("WayMarks$Sight", "beside", "[I", true)
  | 2 => ("WayMarks$Sight", "ways", "[I", true)
  | 3 => ("WayMarks$Sight", "answers", "[I", true)
  | 4 => ("WayMarks$Sight", "parters", "[I", true)
  | 5 => ("WayMarks$Sight", "yes", "[I", true)
  | 6 => ("WayMarks$Sight", "groups", "[I", true)
  | _ => ("WayMarks$Sight", "groupCounts", "[I", true)
def tyX5 : Nat → FieldType := fun k => match k with
  | 0 => .int
  | 1 => .array .int
  | 2 => .array .int
  | 3 => .array .int
  | 4 => .array .int
  | 5 => .array .int
  | 6 => .array .int
  | _ => .array .int
abbrev wsX50 : List Cond := u_ws RX5 TX5 8
theorem nmX5 : ∀ a, a < 8 → ∀ b, b < 8 → a ≠ b → (TX5 a).2.1 ≠ (TX5 b).2.1 := by decide +kernel
theorem tyX5_ok : ∀ k, k < 8 → parseFieldDescriptor (TX5 k).2.2.1 = some (tyX5 k) := by decide +kernel
abbrev cX5_init : ByteArray := prog_7_method_1_code
def yX5_init : MethodName := ⟨RX5, "<init>", "()V"⟩
abbrev cX5_look : ByteArray := prog_7_method_2_code
def yX5_look : MethodName := ⟨RX5, "look", "(LWayMarks$Net;)V"⟩
abbrev cX5_findWays : ByteArray := prog_7_method_3_code
def yX5_findWays : MethodName := ⟨RX5, "findWays", "(LWayMarks$Net;)V"⟩
abbrev cX5_shortenWays : ByteArray := prog_7_method_4_code
def yX5_shortenWays : MethodName := ⟨RX5, "shortenWays", "(II)V"⟩
abbrev cX5_answerOf : ByteArray := prog_7_method_5_code
def yX5_answerOf : MethodName := ⟨RX5, "answerOf", "(LWayMarks$Net;II)I"⟩
abbrev cX5_groupPosts : ByteArray := prog_7_method_6_code
def yX5_groupPosts : MethodName := ⟨RX5, "groupPosts", "(I)V"⟩
abbrev cX5_sameAnswer : ByteArray := prog_7_method_7_code
def yX5_sameAnswer : MethodName := ⟨RX5, "sameAnswer", "(II)I"⟩
abbrev cX5_findParters : ByteArray := prog_7_method_8_code
def yX5_findParters : MethodName := ⟨RX5, "findParters", "()V"⟩
abbrev cX5_findYes : ByteArray := prog_7_method_9_code
def yX5_findYes : MethodName := ⟨RX5, "findYes", "(I)V"⟩
abbrev cX5_countBeside : ByteArray := prog_7_method_10_code
def yX5_countBeside : MethodName := ⟨RX5, "countBeside", "(I)I"⟩
abbrev cX5_countReachedFrom : ByteArray := prog_7_method_11_code
def yX5_countReachedFrom : MethodName := ⟨RX5, "countReachedFrom", "(I)I"⟩
abbrev cX5_leavesLessKnots : ByteArray := prog_7_method_12_code
def yX5_leavesLessKnots : MethodName := ⟨RX5, "leavesLessKnots", "()I"⟩
abbrev cX5_knotOfLeaf : ByteArray := prog_7_method_13_code
def yX5_knotOfLeaf : MethodName := ⟨RX5, "knotOfLeaf", "(I)I"⟩
abbrev cX5_areTwins : ByteArray := prog_7_method_14_code
def yX5_areTwins : MethodName := ⟨RX5, "areTwins", "(II)Z"⟩
abbrev cX5_twinPair : ByteArray := prog_7_method_15_code
def yX5_twinPair : MethodName := ⟨RX5, "twinPair", "(I)I"⟩
abbrev cX5_pairLacks : ByteArray := prog_7_method_16_code
def yX5_pairLacks : MethodName := ⟨RX5, "pairLacks", "(IIII)Z"⟩
abbrev cX5_firstPairLacking : ByteArray := prog_7_method_17_code
def yX5_firstPairLacking : MethodName := ⟨RX5, "firstPairLacking", "(II)I"⟩
abbrev cX5_countPairsLacking : ByteArray := prog_7_method_18_code
def yX5_countPairsLacking : MethodName := ⟨RX5, "countPairsLacking", "(II)I"⟩
abbrev cX5_firstPostLacking : ByteArray := prog_7_method_19_code
def yX5_firstPostLacking : MethodName := ⟨RX5, "firstPostLacking", "(II)I"⟩
abbrev cX5_countApartPairs : ByteArray := prog_7_method_20_code
def yX5_countApartPairs : MethodName := ⟨RX5, "countApartPairs", "()I"⟩
abbrev cX5_apartPair : ByteArray := prog_7_method_21_code
def yX5_apartPair : MethodName := ⟨RX5, "apartPair", "(I)I"⟩
abbrev cX5_goThroughApartPairs : ByteArray := prog_7_method_22_code
def yX5_goThroughApartPairs : MethodName := ⟨RX5, "goThroughApartPairs", "(IZ)I"⟩
abbrev cX5_greedySet : ByteArray := prog_7_method_23_code
def yX5_greedySet : MethodName := ⟨RX5, "greedySet", "(I)I"⟩
abbrev cX5_markPartingMost : ByteArray := prog_7_method_24_code
def yX5_markPartingMost : MethodName := ⟨RX5, "markPartingMost", "(II)I"⟩
abbrev cX5_countLackingPartedBy : ByteArray := prog_7_method_25_code
def yX5_countLackingPartedBy : MethodName := ⟨RX5, "countLackingPartedBy", "(III)I"⟩
def RX6 : String := "WayMarks$Tape"
def TX6 : u_T := fun k => match k with
  | 0 => ("WayMarks$Tape", "bytes", "[I", true)
  | _ => ("WayMarks$Tape", "count", "I", false)
def tyX6 : Nat → FieldType := fun k => match k with
  | 0 => .array .int
  | _ => .int
abbrev wsX60 : List Cond := u_ws RX6 TX6 2
theorem nmX6 : ∀ a, a < 2 → ∀ b, b < 2 → a ≠ b → (TX6 a).2.1 ≠ (TX6 b).2.1 := by decide +kernel
theorem tyX6_ok : ∀ k, k < 2 → parseFieldDescriptor (TX6 k).2.2.1 = some (tyX6 k) := by decide +kernel
abbrev cX6_init : ByteArray := prog_8_method_1_code
def yX6_init : MethodName := ⟨RX6, "<init>", "()V"⟩
abbrev cX6_hasRoomFor : ByteArray := prog_8_method_2_code
def yX6_hasRoomFor : MethodName := ⟨RX6, "hasRoomFor", "(I)Z"⟩
abbrev cX6_takeFour : ByteArray := prog_8_method_3_code
def yX6_takeFour : MethodName := ⟨RX6, "takeFour", "(I)V"⟩
abbrev cX6_byteAt : ByteArray := prog_8_method_4_code
def yX6_byteAt : MethodName := ⟨RX6, "byteAt", "(I)I"⟩
def RX7 : String := "WayMarks"
def TX7 : u_T := fun k => match k with
  | 0 => ("WayMarks", "net", "LWayMarks$Net;", true)
  | 1 => ("WayMarks", "past", "LWayMarks$Past;", true)
  | 2 => ("WayMarks", "tape", "LWayMarks$Tape;", true)
  | 3 => ("WayMarks", "sight", "LWayMarks$Sight;", true)
  | 4 => ("WayMarks", "choice", "LWayMarks$Choice;", true)
  | 5 => ("WayMarks", "asking", "LWayMarks$Asking;", true)
  | 6 => ("WayMarks", "seeking", "LWayMarks$Seeking;", true)
  | 7 => ("WayMarks", "stale", "Z", false)
  | _ => ("WayMarks", "latestSet", "I", false)
def tyX7 : Nat → FieldType := fun k => match k with
  | 0 => .object "WayMarks$Net"
  | 1 => .object "WayMarks$Past"
  | 2 => .object "WayMarks$Tape"
  | 3 => .object "WayMarks$Sight"
  | 4 => .object "WayMarks$Choice"
  | 5 => .object "WayMarks$Asking"
  | 6 => .object "WayMarks$Seeking"
  | 7 => .boolean
  | _ => .int
abbrev wsX70 : List Cond := u_ws RX7 TX7 9
theorem nmX7 : ∀ a, a < 9 → ∀ b, b < 9 → a ≠ b → (TX7 a).2.1 ≠ (TX7 b).2.1 := by decide +kernel
theorem tyX7_ok : ∀ k, k < 9 → parseFieldDescriptor (TX7 k).2.2.1 = some (tyX7 k) := by decide +kernel
abbrev cX7_init : ByteArray := prog_1_method_1_code
def yX7_init : MethodName := ⟨RX7, "<init>", "()V"⟩
abbrev cX7_post : ByteArray := prog_1_method_2_code
def yX7_post : MethodName := ⟨RX7, "post", "()I"⟩
abbrev cX7_road : ByteArray := prog_1_method_3_code
def yX7_road : MethodName := ⟨RX7, "road", "(III)Z"⟩
abbrev cX7_cut : ByteArray := prog_1_method_4_code
def yX7_cut : MethodName := ⟨RX7, "cut", "(II)Z"⟩
abbrev cX7_feed : ByteArray := prog_1_method_5_code
def yX7_feed : MethodName := ⟨RX7, "feed", "(IIIII)I"⟩
abbrev cX7_roads : ByteArray := prog_1_method_6_code
def yX7_roads : MethodName := ⟨RX7, "roads", "(I)I"⟩
abbrev cX7_reach : ByteArray := prog_1_method_7_code
def yX7_reach : MethodName := ⟨RX7, "reach", "(II)Z"⟩
abbrev cX7_price : ByteArray := prog_1_method_8_code
def yX7_price : MethodName := ⟨RX7, "price", "(II)Z"⟩
abbrev cX7_chance : ByteArray := prog_1_method_9_code
def yX7_chance : MethodName := ⟨RX7, "chance", "(II)Z"⟩
abbrev cX7_rule : ByteArray := prog_1_method_10_code
def yX7_rule : MethodName := ⟨RX7, "rule", "(II)Z"⟩
abbrev cX7_may : ByteArray := prog_1_method_11_code
def yX7_may : MethodName := ⟨RX7, "may", "(IZ)I"⟩
abbrev cX7_want : ByteArray := prog_1_method_12_code
def yX7_want : MethodName := ⟨RX7, "want", "(Z)V"⟩
abbrev cX7_way : ByteArray := prog_1_method_13_code
def yX7_way : MethodName := ⟨RX7, "way", "(II)I"⟩
abbrev cX7_of : ByteArray := prog_1_method_14_code
def yX7_of : MethodName := ⟨RX7, "of", "(II)I"⟩
abbrev cX7_answer : ByteArray := prog_1_method_15_code
def yX7_answer : MethodName := ⟨RX7, "answer", "(II)I"⟩
abbrev cX7_parts : ByteArray := prog_1_method_16_code
def yX7_parts : MethodName := ⟨RX7, "parts", "(III)I"⟩
abbrev cX7_clash : ByteArray := prog_1_method_17_code
def yX7_clash : MethodName := ⟨RX7, "clash", "(I)I"⟩
abbrev cX7_twins : ByteArray := prog_1_method_18_code
def yX7_twins : MethodName := ⟨RX7, "twins", "(I)I"⟩
abbrev cX7_least : ByteArray := prog_1_method_19_code
def yX7_least : MethodName := ⟨RX7, "least", "()I"⟩
abbrev cX7_every : ByteArray := prog_1_method_20_code
def yX7_every : MethodName := ⟨RX7, "every", "()I"⟩
abbrev cX7_cheapest : ByteArray := prog_1_method_21_code
def yX7_cheapest : MethodName := ⟨RX7, "cheapest", "()I"⟩
abbrev cX7_set : ByteArray := prog_1_method_22_code
def yX7_set : MethodName := ⟨RX7, "set", "()I"⟩
abbrev cX7_shown : ByteArray := prog_1_method_23_code
def yX7_shown : MethodName := ⟨RX7, "shown", "()I"⟩
abbrev cX7_pair : ByteArray := prog_1_method_24_code
def yX7_pair : MethodName := ⟨RX7, "pair", "(I)I"⟩
abbrev cX7_greedy : ByteArray := prog_1_method_25_code
def yX7_greedy : MethodName := ⟨RX7, "greedy", "()I"⟩
abbrev cX7_word : ByteArray := prog_1_method_26_code
def yX7_word : MethodName := ⟨RX7, "word", "(II)I"⟩
abbrev cX7_clear : ByteArray := prog_1_method_27_code
def yX7_clear : MethodName := ⟨RX7, "clear", "()I"⟩
abbrev cX7_fits : ByteArray := prog_1_method_28_code
def yX7_fits : MethodName := ⟨RX7, "fits", "()I"⟩
abbrev cX7_where : ByteArray := prog_1_method_29_code
def yX7_where : MethodName := ⟨RX7, "where", "(I)I"⟩
abbrev cX7_against : ByteArray := prog_1_method_30_code
def yX7_against : MethodName := ⟨RX7, "against", "(I)I"⟩
abbrev cX7_worst : ByteArray := prog_1_method_31_code
def yX7_worst : MethodName := ⟨RX7, "worst", "(I)I"⟩
abbrev cX7_next : ByteArray := prog_1_method_32_code
def yX7_next : MethodName := ⟨RX7, "next", "(I)I"⟩
abbrev cX7_mean : ByteArray := prog_1_method_33_code
def yX7_mean : MethodName := ⟨RX7, "mean", "(I)I"⟩
abbrev cX7_seek : ByteArray := prog_1_method_34_code
def yX7_seek : MethodName := ⟨RX7, "seek", "(I)I"⟩
abbrev cX7_tree : ByteArray := prog_1_method_35_code
def yX7_tree : MethodName := ⟨RX7, "tree", "()I"⟩
abbrev cX7_undo : ByteArray := prog_1_method_36_code
def yX7_undo : MethodName := ⟨RX7, "undo", "(I)I"⟩
abbrev cX7_about : ByteArray := prog_1_method_37_code
def yX7_about : MethodName := ⟨RX7, "about", "(I)I"⟩
abbrev cX7_beforeAct : ByteArray := prog_1_method_38_code
def yX7_beforeAct : MethodName := ⟨RX7, "beforeAct", "()V"⟩
abbrev cX7_freshSight : ByteArray := prog_1_method_39_code
def yX7_freshSight : MethodName := ⟨RX7, "freshSight", "()LWayMarks$Sight;"⟩
abbrev cX7_tellChoice : ByteArray := prog_1_method_40_code
def yX7_tellChoice : MethodName := ⟨RX7, "tellChoice", "()I"⟩
abbrev cX7_wordsAgainst : ByteArray := prog_1_method_41_code
def yX7_wordsAgainst : MethodName := ⟨RX7, "wordsAgainst", "(I)I"⟩
abbrev cX7_fitsWords : ByteArray := prog_1_method_42_code
def yX7_fitsWords : MethodName := ⟨RX7, "fitsWords", "(I)Z"⟩
abbrev cX7_canBeAsked : ByteArray := prog_1_method_43_code
def yX7_canBeAsked : MethodName := ⟨RX7, "canBeAsked", "(I)Z"⟩
def RX8 : String := "WayMarksModel"
def TX8 : u_T := fun k => match k with
  | 0 => ("WayMarksModel", "st", "[I", true)
  | 1 => ("WayMarksModel", "kept", "[I", true)
  | 2 => ("WayMarksModel", "undoable", "I", false)
  | 3 => ("WayMarksModel", "newest", "I", false)
  | 4 => ("WayMarksModel", "tape", "[I", true)
  | 5 => ("WayMarksModel", "taped", "I", false)
  | 6 => ("WayMarksModel", "setTold", "I", false)
  | 7 => ("WayMarksModel", "ways", "[I", true)
  | 8 => ("WayMarksModel", "answers", "[I", true)
  | 9 => ("WayMarksModel", "partBy", "[I", true)
  | 10 => ("WayMarksModel", "yesBy", "[I", true)
  | 11 => ("WayMarksModel", "shown", "[I", true)
  | 12 => ("WayMarksModel", "worst", "[I", true)
  | 13 => ("WayMarksModel", "mean", "[I", true)
  | 14 => ("WayMarksModel", "next", "[I", true)
  | _ => ("WayMarksModel", "roundsOf", "[I", true)
def tyX8 : Nat → FieldType := fun k => match k with
  | 0 => .array .int
  | 1 => .array .int
  | 2 => .int
  | 3 => .int
  | 4 => .array .int
  | 5 => .int
  | 6 => .int
  | 7 => .array .int
  | 8 => .array .int
  | 9 => .array .int
  | 10 => .array .int
  | 11 => .array .int
  | 12 => .array .int
  | 13 => .array .int
  | 14 => .array .int
  | _ => .array .int
abbrev wsX80 : List Cond := u_ws RX8 TX8 16
theorem nmX8 : ∀ a, a < 16 → ∀ b, b < 16 → a ≠ b → (TX8 a).2.1 ≠ (TX8 b).2.1 := by decide +kernel
theorem tyX8_ok : ∀ k, k < 16 → parseFieldDescriptor (TX8 k).2.2.1 = some (tyX8 k) := by decide +kernel
abbrev cX8_init : ByteArray := prog_10_method_1_code
def yX8_init : MethodName := ⟨RX8, "<init>", "()V"⟩
abbrev cX8_first : ByteArray := prog_10_method_2_code
def yX8_first : MethodName := ⟨RX8, "first", "(I)V"⟩
abbrev cX8_act : ByteArray := prog_10_method_3_code
def yX8_act : MethodName := ⟨RX8, "act", "()V"⟩
abbrev cX8_undo : ByteArray := prog_10_method_4_code
def yX8_undo : MethodName := ⟨RX8, "undo", "(I)I"⟩
abbrev cX8_n : ByteArray := prog_10_method_5_code
def yX8_n : MethodName := ⟨RX8, "n", "()I"⟩
abbrev cX8_isPost : ByteArray := prog_10_method_6_code
def yX8_isPost : MethodName := ⟨RX8, "isPost", "(I)Z"⟩
abbrev cX8_isSet : ByteArray := prog_10_method_7_code
def yX8_isSet : MethodName := ⟨RX8, "isSet", "(I)Z"⟩
abbrev cX8_length : ByteArray := prog_10_method_8_code
def yX8_length : MethodName := ⟨RX8, "length", "(II)I"⟩
abbrev cX8_isRoad : ByteArray := prog_10_method_9_code
def yX8_isRoad : MethodName := ⟨RX8, "isRoad", "(III)Z"⟩
abbrev cX8_lay : ByteArray := prog_10_method_10_code
def yX8_lay : MethodName := ⟨RX8, "lay", "(III)V"⟩
abbrev cX8_walk : ByteArray := prog_10_method_11_code
def yX8_walk : MethodName := ⟨RX8, "walk", "()V"⟩
abbrev cX8_says : ByteArray := prog_10_method_12_code
def yX8_says : MethodName := ⟨RX8, "says", "(II)I"⟩
abbrev cX8_answerOf : ByteArray := prog_10_method_13_code
def yX8_answerOf : MethodName := ⟨RX8, "answerOf", "(II)I"⟩
abbrev cX8_post : ByteArray := prog_10_method_14_code
def yX8_post : MethodName := ⟨RX8, "post", "()I"⟩
abbrev cX8_road : ByteArray := prog_10_method_15_code
def yX8_road : MethodName := ⟨RX8, "road", "(III)Z"⟩
abbrev cX8_cut : ByteArray := prog_10_method_16_code
def yX8_cut : MethodName := ⟨RX8, "cut", "(II)Z"⟩
abbrev cX8_feed : ByteArray := prog_10_method_17_code
def yX8_feed : MethodName := ⟨RX8, "feed", "(IIIII)I"⟩
abbrev cX8_four : ByteArray := prog_10_method_18_code
def yX8_four : MethodName := ⟨RX8, "four", "(I)V"⟩
abbrev cX8_roads : ByteArray := prog_10_method_19_code
def yX8_roads : MethodName := ⟨RX8, "roads", "(I)I"⟩
abbrev cX8_reach : ByteArray := prog_10_method_20_code
def yX8_reach : MethodName := ⟨RX8, "reach", "(II)Z"⟩
abbrev cX8_price : ByteArray := prog_10_method_21_code
def yX8_price : MethodName := ⟨RX8, "price", "(II)Z"⟩
abbrev cX8_chance : ByteArray := prog_10_method_22_code
def yX8_chance : MethodName := ⟨RX8, "chance", "(II)Z"⟩
abbrev cX8_rule : ByteArray := prog_10_method_23_code
def yX8_rule : MethodName := ⟨RX8, "rule", "(II)Z"⟩
abbrev cX8_need : ByteArray := prog_10_method_24_code
def yX8_need : MethodName := ⟨RX8, "need", "()I"⟩
abbrev cX8_may : ByteArray := prog_10_method_25_code
def yX8_may : MethodName := ⟨RX8, "may", "(IZ)I"⟩
abbrev cX8_want : ByteArray := prog_10_method_26_code
def yX8_want : MethodName := ⟨RX8, "want", "(Z)V"⟩
abbrev cX8_way : ByteArray := prog_10_method_27_code
def yX8_way : MethodName := ⟨RX8, "way", "(II)I"⟩
abbrev cX8_besideBits : ByteArray := prog_10_method_28_code
def yX8_besideBits : MethodName := ⟨RX8, "besideBits", "(I)I"⟩
abbrev cX8_many : ByteArray := prog_10_method_29_code
def yX8_many : MethodName := ⟨RX8, "many", "(I)I"⟩
abbrev cX8_of : ByteArray := prog_10_method_30_code
def yX8_of : MethodName := ⟨RX8, "of", "(II)I"⟩
abbrev cX8_answer : ByteArray := prog_10_method_31_code
def yX8_answer : MethodName := ⟨RX8, "answer", "(II)I"⟩
abbrev cX8_isParting : ByteArray := prog_10_method_32_code
def yX8_isParting : MethodName := ⟨RX8, "isParting", "(III)Z"⟩
abbrev cX8_parting : ByteArray := prog_10_method_33_code
def yX8_parting : MethodName := ⟨RX8, "parting", "(II)I"⟩
abbrev cX8_areTwins : ByteArray := prog_10_method_34_code
def yX8_areTwins : MethodName := ⟨RX8, "areTwins", "(II)Z"⟩
abbrev cX8_isYes : ByteArray := prog_10_method_35_code
def yX8_isYes : MethodName := ⟨RX8, "isYes", "(II)Z"⟩
abbrev cX8_yes : ByteArray := prog_10_method_36_code
def yX8_yes : MethodName := ⟨RX8, "yes", "(I)I"⟩
abbrev cX8_parts : ByteArray := prog_10_method_37_code
def yX8_parts : MethodName := ⟨RX8, "parts", "(III)I"⟩
abbrev cX8_gather : ByteArray := prog_10_method_38_code
def yX8_gather : MethodName := ⟨RX8, "gather", "()V"⟩
abbrev cX8_clashOf : ByteArray := prog_10_method_39_code
def yX8_clashOf : MethodName := ⟨RX8, "clashOf", "(I)I"⟩
abbrev cX8_clash : ByteArray := prog_10_method_40_code
def yX8_clash : MethodName := ⟨RX8, "clash", "(I)I"⟩
abbrev cX8_twins : ByteArray := prog_10_method_41_code
def yX8_twins : MethodName := ⟨RX8, "twins", "(I)I"⟩
abbrev cX8_best : ByteArray := prog_10_method_42_code
def yX8_best : MethodName := ⟨RX8, "best", "(Z)I"⟩
abbrev cX8_price_ : ByteArray := prog_10_method_43_code
def yX8_price_ : MethodName := ⟨RX8, "price", "(I)I"⟩
abbrev cX8_least : ByteArray := prog_10_method_44_code
def yX8_least : MethodName := ⟨RX8, "least", "()I"⟩
abbrev cX8_every : ByteArray := prog_10_method_45_code
def yX8_every : MethodName := ⟨RX8, "every", "()I"⟩
abbrev cX8_cheapest : ByteArray := prog_10_method_46_code
def yX8_cheapest : MethodName := ⟨RX8, "cheapest", "()I"⟩
abbrev cX8_set : ByteArray := prog_10_method_47_code
def yX8_set : MethodName := ⟨RX8, "set", "()I"⟩
abbrev cX8_show : ByteArray := prog_10_method_48_code
def yX8_show : MethodName := ⟨RX8, "show", "()I"⟩
abbrev cX8_shown : ByteArray := prog_10_method_49_code
def yX8_shown : MethodName := ⟨RX8, "shown", "()I"⟩
abbrev cX8_pair : ByteArray := prog_10_method_50_code
def yX8_pair : MethodName := ⟨RX8, "pair", "(I)I"⟩
abbrev cX8_lacks : ByteArray := prog_10_method_51_code
def yX8_lacks : MethodName := ⟨RX8, "lacks", "(II)Z"⟩
abbrev cX8_greedy : ByteArray := prog_10_method_52_code
def yX8_greedy : MethodName := ⟨RX8, "greedy", "()I"⟩
abbrev cX8_word : ByteArray := prog_10_method_53_code
def yX8_word : MethodName := ⟨RX8, "word", "(II)I"⟩
abbrev cX8_clear : ByteArray := prog_10_method_54_code
def yX8_clear : MethodName := ⟨RX8, "clear", "()I"⟩
abbrev cX8_againstBits : ByteArray := prog_10_method_55_code
def yX8_againstBits : MethodName := ⟨RX8, "againstBits", "(I)I"⟩
abbrev cX8_isFit : ByteArray := prog_10_method_56_code
def yX8_isFit : MethodName := ⟨RX8, "isFit", "(I)Z"⟩
abbrev cX8_fits : ByteArray := prog_10_method_57_code
def yX8_fits : MethodName := ⟨RX8, "fits", "()I"⟩
abbrev cX8_where : ByteArray := prog_10_method_58_code
def yX8_where : MethodName := ⟨RX8, "where", "(I)I"⟩
abbrev cX8_against : ByteArray := prog_10_method_59_code
def yX8_against : MethodName := ⟨RX8, "against", "(I)I"⟩
abbrev cX8_isDone : ByteArray := prog_10_method_60_code
def yX8_isDone : MethodName := ⟨RX8, "isDone", "(I)Z"⟩
abbrev cX8_staying : ByteArray := prog_10_method_61_code
def yX8_staying : MethodName := ⟨RX8, "staying", "(III)I"⟩
abbrev cX8_isAsked : ByteArray := prog_10_method_62_code
def yX8_isAsked : MethodName := ⟨RX8, "isAsked", "(I)Z"⟩
abbrev cX8_fill : ByteArray := prog_10_method_63_code
def yX8_fill : MethodName := ⟨RX8, "fill", "(I)V"⟩
abbrev cX8_fillOne : ByteArray := prog_10_method_64_code
def yX8_fillOne : MethodName := ⟨RX8, "fillOne", "(I)V"⟩
abbrev cX8_worst : ByteArray := prog_10_method_65_code
def yX8_worst : MethodName := ⟨RX8, "worst", "(I)I"⟩
abbrev cX8_next : ByteArray := prog_10_method_66_code
def yX8_next : MethodName := ⟨RX8, "next", "(I)I"⟩
abbrev cX8_mean : ByteArray := prog_10_method_67_code
def yX8_mean : MethodName := ⟨RX8, "mean", "(I)I"⟩
abbrev cX8_moved : ByteArray := prog_10_method_68_code
def yX8_moved : MethodName := ⟨RX8, "moved", "(I)I"⟩
abbrev cX8_seek : ByteArray := prog_10_method_69_code
def yX8_seek : MethodName := ⟨RX8, "seek", "(I)I"⟩
abbrev cX8_isFoundIn : ByteArray := prog_10_method_70_code
def yX8_isFoundIn : MethodName := ⟨RX8, "isFoundIn", "(II)Z"⟩
abbrev cX8_tree : ByteArray := prog_10_method_71_code
def yX8_tree : MethodName := ⟨RX8, "tree", "()I"⟩
abbrev cX8_isLed : ByteArray := prog_10_method_72_code
def yX8_isLed : MethodName := ⟨RX8, "isLed", "(I)Z"⟩
abbrev cX8_only : ByteArray := prog_10_method_73_code
def yX8_only : MethodName := ⟨RX8, "only", "(I)I"⟩
abbrev cX8_about : ByteArray := prog_10_method_74_code
def yX8_about : MethodName := ⟨RX8, "about", "(I)I"⟩
def RJ6 : String := "java/lang/Integer"
abbrev cJ6_numberOfTrailingZeros_0f7a4 : ByteArray := prog_11_method_48_code
def yJ6_numberOfTrailingZeros_0f7a4 : MethodName := ⟨RJ6, "numberOfTrailingZeros", "(I)I"⟩
abbrev cJ6_bitCount_0f7a4 : ByteArray := prog_11_method_49_code
def yJ6_bitCount_0f7a4 : MethodName := ⟨RJ6, "bitCount", "(I)I"⟩
def RJ9 : String := "java/lang/Math"
abbrev cJ9_floorMod_7cf53 : ByteArray := prog_12_method_50_code
def yJ9_floorMod_7cf53 : MethodName := ⟨RJ9, "floorMod", "(II)I"⟩
abbrev cJ9_max_7cf53 : ByteArray := prog_12_method_65_code
def yJ9_max_7cf53 : MethodName := ⟨RJ9, "max", "(II)I"⟩
abbrev cJ9_min_7cf53 : ByteArray := prog_12_method_69_code
def yJ9_min_7cf53 : MethodName := ⟨RJ9, "min", "(II)I"⟩
def RJ10 : String := "java/lang/System"
def RJ7 : String := "java/util/Arrays"
abbrev cJ7_fill_53178 : ByteArray := prog_14_method_103_code
def yJ7_fill_53178 : MethodName := ⟨RJ7, "fill", "([II)V"⟩
def RL : String := "WayMarksLaw"
abbrev cL_law : ByteArray := code
def yL_law : MethodName := ⟨RL, "law", "([I)Z"⟩
end
section
/-! THE ABSTRACT LAYER. The system's cells are az_K blocks with fixed shapes (az_sh); a memory gives each block its ints (an array's elements, an object's int fields); references never change behind the constructors. az_Ev: from pc, locals L, operand stack st and memory mem the method M comes to its end with Q of answer and memory. az_Sp: M's contract for these arguments and this memory. -/
abbrev az_V : Type := Int32 ⊕ Nat
abbrev az_M : Type := Nat → Nat → Int32
abbrev az_S : Type := Nat ⊕ ((Nat × List (Option Nat)) ⊕ List Nat)
abbrev az_X : Type := Launch × va_G × (ClassId × ClassId) × (Nat → Nat)
abbrev az_Me : Type := MethodName × ByteArray × Nat × Option FieldType
def az_cl : List vw_C := [(RX0, TX0, 8), (RX1, TX1, 10), (RX2, TX2, 12), (RX3, TX3, 3), (RX4, TX4, 2), (RX5, TX5, 8), (RX6, TX6, 2), (RX7, TX7, 9), (RX8, TX8, 16)]
def az_tb : List Cond := lw_tbl.filter goodWord
theorem az_in {w : Cond} (i : Nat) (h : lw_tbl[i]? = some w) (hg : goodWord w = true) : w ∈ az_tb := List.mem_filter.mpr ⟨List.mem_of_getElem? h, hg⟩
def az_isN (w : Cond) : Bool := match w with
  | .fieldLinkNest .. => true
  | .methodLinkNest .. => true
  | _ => false
def az_tn : List Cond := lw_tbl.filter az_isN
theorem az_inN {w : Cond} (i : Nat) (h : lw_tbl[i]? = some w) (hg : az_isN w = true) : w ∈ az_tn := List.mem_filter.mpr ⟨List.mem_of_getElem? h, hg⟩
/-- the links between nest mates hold (they stay while the tables get warm) -/
def az_nw (U : State) : Prop := ∀ w ∈ az_tn, va_Nw w U
theorem az_nw_warm {s U : State} (hW : s.WarmedH U.vm) (h : az_nw s) : az_nw U := by
  intro w hw
  have h1 := h w hw
  have h2 := (List.mem_filter.mp hw).2
  cases w <;> first | exact va_Nw.warmF hW h1 | exact va_Nw.warmM hW h1 | exact absurd h2 (by simp [az_isN])
theorem az_nw_same {s U : State} (hv : s.vm = U.vm) (h : az_nw s) : az_nw U := by
  intro w hw
  have h1 := h w hw
  have h2 := (List.mem_filter.mp hw).2
  cases w <;> first | exact va_Nw.same rfl hv h1 | exact absurd h2 (by simp [az_isN])
theorem az_nw_use {s : State} {args : Array Value} {w : Cond} (h : az_nw s) (hw : w ∈ az_tn) : w.before args s = true := by
  have h1 := h w hw
  have h2 := (List.mem_filter.mp hw).2
  cases w <;> first | exact va_Nw.use rfl h1 | exact absurd h2 (by simp [az_isN])
def az_K : Nat := 404
def az_net (b : Nat) : List (Option Nat) := [none, none, none, none, none, none, none, some (b + 1), some (b + 2), some (b + 3), some (b + 4), some (b + 5)]
def az_arr (j : Nat) : Nat := if j = 1 then 256 else 16
def az_past : List Nat := (List.range 60).map (fun i => 9 + 6 * i)
def az_t0 : List az_S := [.inr (.inl (7, [some 1, some 7, some 369, some 371, some 379, some 382, some 388, none, none])), .inr (.inl (2, az_net 1)), .inl 256, .inl 16, .inl 16, .inl 16, .inl 16, .inr (.inl (3, [some 8, none, none])), .inr (.inr az_past)]
def az_t1 : List az_S := [.inr (.inl (6, [some 370, none])), .inl 400, .inr (.inl (5, [none, some 372, some 373, some 374, some 375, some 376, some 377, some 378])), .inl 16, .inl 256, .inl 256, .inl 256, .inl 16, .inl 256, .inl 16, .inr (.inl (1, [some 380, none, none, some 381, none, none, none, none, none, none])), .inl 256, .inl 16, .inr (.inl (0, [some 383, some 384, some 385, none, none, none, some 386, some 387])), .inl 4096, .inl 12, .inl 12, .inl 256, .inl 16, .inr (.inl (4, [some 389, some 390])), .inl 1024, .inl 1024, .inr (.inl (8, [some 392, some 393, none, none, some 394, none, none, some 395, some 396, some 397, some 398, some 399, some 400, some 401, some 402, some 403])), .inl 600, .inl 36000, .inl 400, .inl 256, .inl 256, .inl 256, .inl 16, .inl 120, .inl 65536, .inl 65536, .inl 65536, .inl 1024]
def az_sh (k : Nat) : az_S :=
  if k < 9 then az_t0.getD k (.inl 0) else if k < 369 then (if (k - 9) % 6 = 0 then .inr (.inl (2, az_net k)) else .inl (az_arr ((k - 9) % 6))) else az_t1.getD (k - 369) (.inl 0)
def az_Ob (k ci : Nat) (fs : List (Option Nat)) : Prop := k < az_K ∧ az_sh k = .inr (.inl (ci, fs))
def az_Ar (k n : Nat) : Prop := k < az_K ∧ az_sh k = .inl n
def az_cv (X : az_X) (v : az_V) : Value := match v with
  | .inl x => .int x
  | .inr k => .ref (X.2.2.2 k)
def az_ft (o : Option Nat) (f : Nat → Int32) (j : Nat) : az_V := match o with
  | none => .inl (f j)
  | some b => .inr b
def az_fl (X : az_X) (fs : List (Option Nat)) (f : Nat → Int32) : List Value := (List.range fs.length).map (fun j => az_cv X (az_ft (fs.getD j none) f j))
def az_ce (X : az_X) (k : Nat) (f : Nat → Int32) : va_E := match az_sh k with
  | .inl n => .inl (X.2.2.1.1, n, .inl f)
  | .inr (.inl o) => .inr (o.1, az_fl X o.2 f)
  | .inr (.inr bs) => .inl (X.2.2.1.2, bs.length, .inr (.inr (.inr (.inr (fun i => (bs[i]?).map X.2.2.2)))))
def az_wl (X : az_X) (mem : az_M) : va_W := (List.range az_K).map (fun k => (X.2.2.2 k, az_ce X k (mem k)))
def az_st (mem : az_M) (k : Nat) (f : Nat → Int32) : az_M := fun a => if a = k then f else mem a
def az_w (mem : az_M) (k j : Nat) (v : Int32) : az_M := az_st mem k (upd (mem k) j v)
theorem az_wl_at {X : az_X} {mem : az_M} {k : Nat} (hk : k < az_K) : (az_wl X mem)[k]? = some (X.2.2.2 k, az_ce X k (mem k)) := by
  simp [az_wl, hk]
theorem az_wl_set {X : az_X} {mem : az_M} {k : Nat} {f : Nat → Int32} (hk : k < az_K) : (az_wl X mem).set k (X.2.2.2 k, az_ce X k f) = az_wl X (az_st mem k f) := by
  apply List.ext_getElem?
  intro i
  have hlen : (az_wl X mem).length = az_K := by simp [az_wl]
  by_cases h : i = k
  · subst h
    rw [List.getElem?_set_self (by rw [hlen]; exact hk), az_wl_at hk]
    simp [az_st]
  · rw [List.getElem?_set_ne (Ne.symm h)]
    by_cases hi : i < az_K
    · rw [az_wl_at hi, az_wl_at hi]; simp [az_st, h]
    · rw [List.getElem?_eq_none (by rw [hlen]; omega), List.getElem?_eq_none (by simp [az_wl]; omega)]
theorem az_w_eq (mem : az_M) (k j : Nat) (v : Int32) (a b : Nat) : az_w mem k j v a b = if a = k ∧ b = j then v else mem a b := by
  unfold az_w az_st upd
  by_cases h : a = k
  · subst h; by_cases h2 : b = j <;> simp [h2]
  · simp [h]
theorem az_st_eq (mem : az_M) (k : Nat) (f : Nat → Int32) (a : Nat) : az_st mem k f a = if a = k then f else mem a := rfl
theorem az_fl_at {X : az_X} {fs : List (Option Nat)} {f : Nat → Int32} {j : Nat} {o : Option Nat} (h : fs[j]? = some o) : (az_fl X fs f)[j]? = some (az_cv X (az_ft o f j)) := by
  obtain ⟨hl, he⟩ := List.getElem?_eq_some_iff.mp h
  simp [az_fl, hl, he]
theorem az_fl_set {X : az_X} {fs : List (Option Nat)} {f : Nat → Int32} {j : Nat} {v : Int32} (h : fs[j]? = some none) : (az_fl X fs f).set j (.int v) = az_fl X fs (upd f j v) := by
  have hl := (List.getElem?_eq_some_iff.mp h).1
  apply List.ext_getElem?
  intro i
  have hlen : (az_fl X fs f).length = fs.length := by simp [az_fl]
  by_cases hi : i = j
  · subst hi
    rw [List.getElem?_set_self (by rw [hlen]; exact hl), az_fl_at h]
    simp [az_ft, az_cv, upd]
  · rw [List.getElem?_set_ne (Ne.symm hi)]
    by_cases h2 : i < fs.length
    · have h3 : fs[i]? = some fs[i] := List.getElem?_eq_getElem h2
      rw [az_fl_at h3, az_fl_at h3]
      cases hc : fs[i] with
      | none => simp [az_ft, upd, hi]
      | some b => simp [az_ft]
    · rw [List.getElem?_eq_none (by rw [hlen]; omega), List.getElem?_eq_none (by simp [az_fl]; omega)]
theorem az_ce_ob {X : az_X} {k ci : Nat} {fs : List (Option Nat)} (h : az_Ob k ci fs) (f : Nat → Int32) : az_ce X k f = .inr (ci, az_fl X fs f) := by
  unfold az_ce; rw [h.2]
theorem az_ce_ar {X : az_X} {k n : Nat} (h : az_Ar k n) (f : Nat → Int32) : az_ce X k f = .inl (X.2.2.1.1, n, .inl f) := by
  unfold az_ce; rw [h.2]
def az_ty (X : az_X) : List (ClassId × FieldType) := [(X.2.2.1.1, .int), (X.2.2.1.2, .object "WayMarks$Net")]
def az_A (X : az_X) : Nat → Prop := fun q => ∃ k, k < az_K ∧ q = X.2.2.2 k
def az_Wd (X : az_X) (mem : az_M) (H : Heap) : Prop := va_P X.2.1 az_cl (az_wl X mem) H ∧ va_D (az_A X) (az_wl X mem)
def az_Q (X : az_X) (Q : Option az_V → az_M → Prop) : Array Value → State → Outcome → State → Prop := fun _ st oc t => (∃ (r : Option az_V) (mem : az_M), oc = .returned (r.map (az_cv X)) ∧ Q r mem ∧ az_Wd X mem t.heap ∧ va_K X.2.1 az_cl (az_ty X) t) ∧ va_F (az_A X) st t
def az_rm (d : Nat) : Room := { frames := d, cells := 0, slots := 0, locals := 64 * d }
def az_ws (M : az_Me) : List Cond := .code M.1 M.2.1 M.2.2.1 M.2.2.2 :: az_tb
def az_Sp (X : az_X) (d : Nat) (M : az_Me) (args : List az_V) (mem : az_M) (Q : Option az_V → az_M → Prop) : Prop := Met X.1 M.1 (az_ws M) (az_rm d) (va_Pc (args.map (az_cv X)) (fun U => az_Wd X mem U.heap ∧ va_K X.2.1 az_cl (az_ty X) U ∧ az_nw U)) (az_Q X Q) 0 0 (az_A X)
def az_LR (X : az_X) (ls : Array Slot) (n : Nat) (L : List (Option az_V)) : Prop := ls.size = n ∧ lv_wf ls ∧ ∀ (i : Nat) (v : az_V), L[i]? = some (some v) → ls[i]? = some (.val (az_cv X v))
def az_Ev (X : az_X) (d : Nat) (M : az_Me) (pc : Nat) (L : List (Option az_V)) (st : List az_V) (mem : az_M) (Q : Option az_V → az_M → Prop) : Prop :=
  ∀ (p : Program) (e : Env) (s : State) (m : MethodId) (args : Array Value) (below : List Frame) (meth : Method) (c : Code) (H : Heap) (locs : List Loc) (ls : Array Slot),
    p.tables.exec = Jvm.exec → c.code = M.2.1 → c.maxLocals = M.2.2.1 → s.vm.findClass M.1.cls = some m.cls → meth.sig.returnType = M.2.2.2 → meth.locks = false → (∀ w ∈ az_tb, w.before args s = true) → az_nw s → va_K X.2.1 az_cl (az_ty X) s → az_Wd X mem H → va_S (az_A X) s.heap H locs → az_LR X ls M.2.2.1 L →
    W p X.1 e (az_rm d) s m args below meth c H locs 0 0 (MQ below (az_Q X Q) args s 0 0 (az_A X)) (F0 m pc ls (st.map (az_cv X)))
def az_pr (X : az_X) (L : List (Option az_V)) : List (Nat × Value) := (List.range L.length).filterMap (fun i => (L.getD i none).map (fun v => (i, az_cv X v)))
theorem az_pr_mem {X : az_X} {L : List (Option az_V)} {q : Nat × Value} : q ∈ az_pr X L ↔ ∃ v, L[q.1]? = some (some v) ∧ q.2 = az_cv X v := by
  obtain ⟨i, w⟩ := q
  simp only [az_pr, List.mem_filterMap, List.mem_range, Option.map_eq_some_iff, List.getD_eq_getElem?_getD]
  constructor
  · rintro ⟨j, hj, v, hv, he⟩
    cases he
    refine ⟨v, ?_, rfl⟩
    rw [List.getElem?_eq_getElem hj] at hv ⊢
    simpa using hv
  · rintro ⟨v, hv, rfl⟩
    have hl := (List.getElem?_eq_some_iff.mp hv).1
    exact ⟨i, hl, v, by rw [hv]; rfl, rfl⟩
theorem az_LR_has {X : az_X} {ls : Array Slot} {n : Nat} {L : List (Option az_V)} (h : az_LR X ls n L) : lv_has ls n (az_pr X L) := by
  refine ⟨h.1, h.2.1, fun q hq => ?_⟩
  obtain ⟨v, h1, h2⟩ := az_pr_mem.mp hq
  rw [h2]
  exact h.2.2 _ _ h1
theorem az_cat (X : az_X) (v : az_V) : (az_cv X v).category = 1 := by cases v <;> rfl
theorem az_LR_set {X : az_X} {ls : Array Slot} {n i : Nat} {L : List (Option az_V)} {v : az_V} (h : lv_has ls n ((i, az_cv X v) :: (az_pr X L).filter (fun q => !(q.1 == i) && !(q.1 + 1 == i && q.2.category == 2)))) : az_LR X ls n (L.set i (some v)) := by
  refine ⟨h.1, h.2.1, fun j w hw => ?_⟩
  by_cases hj : j = i
  · subst hj
    have hl : j < L.length := by
      have := (List.getElem?_eq_some_iff.mp hw).1
      simpa using this
    rw [List.getElem?_set_self hl] at hw
    cases hw
    exact h.2.2 (j, az_cv X v) List.mem_cons_self
  · rw [List.getElem?_set_ne (Ne.symm hj)] at hw
    refine h.2.2 (j, az_cv X w) (List.mem_cons_of_mem _ (List.mem_filter.mpr ⟨az_pr_mem.mpr ⟨w, hw, rfl⟩, ?_⟩))
    simp [hj, az_cat]
abbrev az_ps (r : Option az_V) (rest : List az_V) : List az_V := match r with
  | none => rest
  | some v => v :: rest
section AZ1
variable {X : az_X} {d : Nat} {M : az_Me} {pc : Nat} {L : List (Option az_V)} {st : List az_V} {mem : az_M} {Q : Option az_V → az_M → Prop}
/-- another shape of the same state -/
theorem az_Ev.eq {pc2 : Nat} {L2 : List (Option az_V)} {st2 : List az_V} {mem2 : az_M} (h : az_Ev X d M pc2 L2 st2 mem2 Q) (h1 : pc2 = pc) (h2 : L2 = L) (h3 : st2 = st) (h4 : mem2 = mem) : az_Ev X d M pc L st mem Q := by
  subst h1; subst h2; subst h3; subst h4; exact h
theorem az_iload {i : Nat} {v : Int32} (hd : decode M.2.1 pc = .ok (.iload i, 2)) (hl : L[i]? = some (some (.inl v))) (k : az_Ev X d M (pc + 2) L (.inl v :: st) mem Q) : az_Ev X d M pc L st mem Q := by
  intro p e s m args below meth c H locs ls hx hb hml hown hr hlk hts hnw hK hW hS hL
  exact lv_iload hx hb hd (hL.2.2 _ _ hl) (k p e s m args below meth c H locs ls hx hb hml hown hr hlk hts hnw hK hW hS hL)
theorem az_iloadn {i : Fin 4} {v : Int32} (hd : decode M.2.1 pc = .ok (.iload_n i, 1)) (hl : L[i.val]? = some (some (.inl v))) (k : az_Ev X d M (pc + 1) L (.inl v :: st) mem Q) : az_Ev X d M pc L st mem Q := by
  intro p e s m args below meth c H locs ls hx hb hml hown hr hlk hts hnw hK hW hS hL
  exact lv_iload_n hx hb hd rfl (hL.2.2 _ _ hl) (k p e s m args below meth c H locs ls hx hb hml hown hr hlk hts hnw hK hW hS hL)
theorem az_aload {i : Nat} {b : Nat} (hd : decode M.2.1 pc = .ok (.aload i, 2)) (hl : L[i]? = some (some (.inr b))) (k : az_Ev X d M (pc + 2) L (.inr b :: st) mem Q) : az_Ev X d M pc L st mem Q := by
  intro p e s m args below meth c H locs ls hx hb hml hown hr hlk hts hnw hK hW hS hL
  exact lv_aload hx hb hd (hL.2.2 _ _ hl) (k p e s m args below meth c H locs ls hx hb hml hown hr hlk hts hnw hK hW hS hL)
theorem az_aloadn {i : Fin 4} {b : Nat} (hd : decode M.2.1 pc = .ok (.aload_n i, 1)) (hl : L[i.val]? = some (some (.inr b))) (k : az_Ev X d M (pc + 1) L (.inr b :: st) mem Q) : az_Ev X d M pc L st mem Q := by
  intro p e s m args below meth c H locs ls hx hb hml hown hr hlk hts hnw hK hW hS hL
  exact lv_aload_n hx hb hd rfl (hL.2.2 _ _ hl) (k p e s m args below meth c H locs ls hx hb hml hown hr hlk hts hnw hK hW hS hL)
theorem az_istore {i : Nat} {v : Int32} (hd : decode M.2.1 pc = .ok (.istore i, 2)) (hi : i < M.2.2.1) (k : az_Ev X d M (pc + 2) (L.set i (some (.inl v))) st mem Q) : az_Ev X d M pc L (.inl v :: st) mem Q := by
  intro p e s m args below meth c H locs ls hx hb hml hown hr hlk hts hnw hK hW hS hL
  exact lv_istore hx hb hd (az_LR_has hL) hi rfl (fun ls' h' => k p e s m args below meth c H locs ls' hx hb hml hown hr hlk hts hnw hK hW hS (az_LR_set (v := .inl v) h'))
theorem az_istoren {i : Fin 4} {v : Int32} (hd : decode M.2.1 pc = .ok (.istore_n i, 1)) (hi : i.val < M.2.2.1) (k : az_Ev X d M (pc + 1) (L.set i.val (some (.inl v))) st mem Q) : az_Ev X d M pc L (.inl v :: st) mem Q := by
  intro p e s m args below meth c H locs ls hx hb hml hown hr hlk hts hnw hK hW hS hL
  exact lv_istore_n hx hb hd rfl (az_LR_has hL) hi rfl (fun ls' h' => k p e s m args below meth c H locs ls' hx hb hml hown hr hlk hts hnw hK hW hS (az_LR_set (v := .inl v) h'))
theorem az_astore {i : Nat} {b : Nat} (hd : decode M.2.1 pc = .ok (.astore i, 2)) (hi : i < M.2.2.1) (k : az_Ev X d M (pc + 2) (L.set i (some (.inr b))) st mem Q) : az_Ev X d M pc L (.inr b :: st) mem Q := by
  intro p e s m args below meth c H locs ls hx hb hml hown hr hlk hts hnw hK hW hS hL
  exact lv_astore hx hb hd (az_LR_has hL) hi rfl (fun ls' h' => k p e s m args below meth c H locs ls' hx hb hml hown hr hlk hts hnw hK hW hS (az_LR_set (v := .inr b) h'))
theorem az_astoren {i : Fin 4} {b : Nat} (hd : decode M.2.1 pc = .ok (.astore_n i, 1)) (hi : i.val < M.2.2.1) (k : az_Ev X d M (pc + 1) (L.set i.val (some (.inr b))) st mem Q) : az_Ev X d M pc L (.inr b :: st) mem Q := by
  intro p e s m args below meth c H locs ls hx hb hml hown hr hlk hts hnw hK hW hS hL
  exact lv_astore_n hx hb hd rfl (az_LR_has hL) hi rfl (fun ls' h' => k p e s m args below meth c H locs ls' hx hb hml hown hr hlk hts hnw hK hW hS (az_LR_set (v := .inr b) h'))
theorem az_iinc {i : Nat} {n : Int} {v w : Int32} (hd : decode M.2.1 pc = .ok (.iinc i n, 3)) (hl : L[i]? = some (some (.inl v))) (hw : Int32.ofInt n = w) (hi : i < M.2.2.1) (k : az_Ev X d M (pc + 3) (L.set i (some (.inl (v + w)))) st mem Q) : az_Ev X d M pc L st mem Q := by
  intro p e s m args below meth c H locs ls hx hb hml hown hr hlk hts hnw hK hW hS hL
  obtain ⟨j, hj⟩ := List.getElem?_of_mem (az_pr_mem (X := X) (L := L) (q := (i, .int v)) |>.mpr ⟨.inl v, hl, rfl⟩)
  subst hw
  exact lv_iinc hx hb hd (az_LR_has hL) hj rfl hi rfl (fun ls' h' => k p e s m args below meth c H locs ls' hx hb hml hown hr hlk hts hnw hK hW hS (az_LR_set (v := .inl (v + Int32.ofInt n)) h'))
theorem az_iconst {n : Int} {v : Int32} (hd : decode M.2.1 pc = .ok (.iconst n, 1)) (hv : Int32.ofInt n = v) (k : az_Ev X d M (pc + 1) L (.inl v :: st) mem Q) : az_Ev X d M pc L st mem Q := by
  intro p e s m args below meth c H locs ls hx hb hml hown hr hlk hts hnw hK hW hS hL
  exact lv_iconst hx hb hd hv (k p e s m args below meth c H locs ls hx hb hml hown hr hlk hts hnw hK hW hS hL)
theorem az_bipush {n : Int} {v : Int32} (hd : decode M.2.1 pc = .ok (.bipush n, 2)) (hv : (Int8.ofInt n).toInt32 = v) (k : az_Ev X d M (pc + 2) L (.inl v :: st) mem Q) : az_Ev X d M pc L st mem Q := by
  intro p e s m args below meth c H locs ls hx hb hml hown hr hlk hts hnw hK hW hS hL
  exact lv_bipush hx hb hd hv (k p e s m args below meth c H locs ls hx hb hml hown hr hlk hts hnw hK hW hS hL)
theorem az_sipush {n : Int} {v : Int32} (hd : decode M.2.1 pc = .ok (.sipush n, 3)) (hv : (Int16.ofInt n).toInt32 = v) (k : az_Ev X d M (pc + 3) L (.inl v :: st) mem Q) : az_Ev X d M pc L st mem Q := by
  intro p e s m args below meth c H locs ls hx hb hml hown hr hlk hts hnw hK hW hS hL
  exact lv_sipush hx hb hd hv (k p e s m args below meth c H locs ls hx hb hml hown hr hlk hts hnw hK hW hS hL)
theorem az_ldc {n : Nat} {v : Int32} (hd : decode M.2.1 pc = .ok (.ldc n, 2)) (hc : Cond.constant M.1.cls n v ∈ az_tb) (k : az_Ev X d M (pc + 2) L (.inl v :: st) mem Q) : az_Ev X d M pc L st mem Q := by
  intro p e s m args below meth c H locs ls hx hb hml hown hr hlk hts hnw hK hW hS hL
  exact lv_ldc hx hb hown (hts _ hc) hd (k p e s m args below meth c H locs ls hx hb hml hown hr hlk hts hnw hK hW hS hL)
theorem az_ldcw {n : Nat} {v : Int32} (hd : decode M.2.1 pc = .ok (.ldc_w n, 3)) (hc : Cond.constant M.1.cls n v ∈ az_tb) (k : az_Ev X d M (pc + 3) L (.inl v :: st) mem Q) : az_Ev X d M pc L st mem Q := by
  intro p e s m args below meth c H locs ls hx hb hml hown hr hlk hts hnw hK hW hS hL
  exact lv_ldcw hx hb hown (hts _ hc) hd (k p e s m args below meth c H locs ls hx hb hml hown hr hlk hts hnw hK hW hS hL)
theorem az_iadd {x y : Int32} (hd : decode M.2.1 pc = .ok (.iadd, 1)) (k : az_Ev X d M (pc + 1) L (.inl (x + y) :: st) mem Q) : az_Ev X d M pc L (.inl y :: .inl x :: st) mem Q := by
  intro p e s m args below meth c H locs ls hx hb hml hown hr hlk hts hnw hK hW hS hL
  exact lv_iadd hx hb hd (k p e s m args below meth c H locs ls hx hb hml hown hr hlk hts hnw hK hW hS hL)
theorem az_isub {x y : Int32} (hd : decode M.2.1 pc = .ok (.isub, 1)) (k : az_Ev X d M (pc + 1) L (.inl (x - y) :: st) mem Q) : az_Ev X d M pc L (.inl y :: .inl x :: st) mem Q := by
  intro p e s m args below meth c H locs ls hx hb hml hown hr hlk hts hnw hK hW hS hL
  exact lv_isub hx hb hd (k p e s m args below meth c H locs ls hx hb hml hown hr hlk hts hnw hK hW hS hL)
theorem az_imul {x y : Int32} (hd : decode M.2.1 pc = .ok (.imul, 1)) (k : az_Ev X d M (pc + 1) L (.inl (x * y) :: st) mem Q) : az_Ev X d M pc L (.inl y :: .inl x :: st) mem Q := by
  intro p e s m args below meth c H locs ls hx hb hml hown hr hlk hts hnw hK hW hS hL
  exact lv_imul hx hb hd (k p e s m args below meth c H locs ls hx hb hml hown hr hlk hts hnw hK hW hS hL)
theorem az_iand {x y : Int32} (hd : decode M.2.1 pc = .ok (.iand, 1)) (k : az_Ev X d M (pc + 1) L (.inl (x &&& y) :: st) mem Q) : az_Ev X d M pc L (.inl y :: .inl x :: st) mem Q := by
  intro p e s m args below meth c H locs ls hx hb hml hown hr hlk hts hnw hK hW hS hL
  exact lv_iand hx hb hd (k p e s m args below meth c H locs ls hx hb hml hown hr hlk hts hnw hK hW hS hL)
theorem az_ior {x y : Int32} (hd : decode M.2.1 pc = .ok (.ior, 1)) (k : az_Ev X d M (pc + 1) L (.inl (x ||| y) :: st) mem Q) : az_Ev X d M pc L (.inl y :: .inl x :: st) mem Q := by
  intro p e s m args below meth c H locs ls hx hb hml hown hr hlk hts hnw hK hW hS hL
  exact lv_ior hx hb hd (k p e s m args below meth c H locs ls hx hb hml hown hr hlk hts hnw hK hW hS hL)
theorem az_ixor {x y : Int32} (hd : decode M.2.1 pc = .ok (.ixor, 1)) (k : az_Ev X d M (pc + 1) L (.inl (x ^^^ y) :: st) mem Q) : az_Ev X d M pc L (.inl y :: .inl x :: st) mem Q := by
  intro p e s m args below meth c H locs ls hx hb hml hown hr hlk hts hnw hK hW hS hL
  exact lv_ixor hx hb hd (k p e s m args below meth c H locs ls hx hb hml hown hr hlk hts hnw hK hW hS hL)
theorem az_ishl {x y : Int32} (hd : decode M.2.1 pc = .ok (.ishl, 1)) (k : az_Ev X d M (pc + 1) L (.inl (x <<< (y &&& 31)) :: st) mem Q) : az_Ev X d M pc L (.inl y :: .inl x :: st) mem Q := by
  intro p e s m args below meth c H locs ls hx hb hml hown hr hlk hts hnw hK hW hS hL
  exact lv_ishl hx hb hd (k p e s m args below meth c H locs ls hx hb hml hown hr hlk hts hnw hK hW hS hL)
theorem az_ishr {x y : Int32} (hd : decode M.2.1 pc = .ok (.ishr, 1)) (k : az_Ev X d M (pc + 1) L (.inl (x >>> (y &&& 31)) :: st) mem Q) : az_Ev X d M pc L (.inl y :: .inl x :: st) mem Q := by
  intro p e s m args below meth c H locs ls hx hb hml hown hr hlk hts hnw hK hW hS hL
  exact lv_ishr hx hb hd (k p e s m args below meth c H locs ls hx hb hml hown hr hlk hts hnw hK hW hS hL)
theorem az_idiv {x y : Int32} (hd : decode M.2.1 pc = .ok (.idiv, 1)) (hy : ¬ y = 0) (k : az_Ev X d M (pc + 1) L (.inl (x / y) :: st) mem Q) : az_Ev X d M pc L (.inl y :: .inl x :: st) mem Q := by
  intro p e s m args below meth c H locs ls hx hb hml hown hr hlk hts hnw hK hW hS hL
  exact lv_idiv hx hb hd hy (k p e s m args below meth c H locs ls hx hb hml hown hr hlk hts hnw hK hW hS hL)
theorem az_irem {x y : Int32} (hd : decode M.2.1 pc = .ok (.irem, 1)) (hy : ¬ y = 0) (k : az_Ev X d M (pc + 1) L (.inl (x - x / y * y) :: st) mem Q) : az_Ev X d M pc L (.inl y :: .inl x :: st) mem Q := by
  intro p e s m args below meth c H locs ls hx hb hml hown hr hlk hts hnw hK hW hS hL
  exact lv_irem hx hb hd hy (k p e s m args below meth c H locs ls hx hb hml hown hr hlk hts hnw hK hW hS hL)
theorem az_iushr {x y : Int32} (hd : decode M.2.1 pc = .ok (.iushr, 1)) (k : az_Ev X d M (pc + 1) L (.inl ((x.toUInt32 >>> (y.toUInt32 &&& Int32.toUInt32 31)).toInt32) :: st) mem Q) : az_Ev X d M pc L (.inl y :: .inl x :: st) mem Q := by
  intro p e s m args below meth c H locs ls hx hb hml hown hr hlk hts hnw hK hW hS hL
  exact lv_iushr hx hb hd rfl (k p e s m args below meth c H locs ls hx hb hml hown hr hlk hts hnw hK hW hS hL)
theorem az_dup {v : az_V} (hd : decode M.2.1 pc = .ok (.dup, 1)) (k : az_Ev X d M (pc + 1) L (v :: v :: st) mem Q) : az_Ev X d M pc L (v :: st) mem Q := by
  intro p e s m args below meth c H locs ls hx hb hml hown hr hlk hts hnw hK hW hS hL
  exact lv_dup hx hb hd (az_cat X v) (k p e s m args below meth c H locs ls hx hb hml hown hr hlk hts hnw hK hW hS hL)
theorem az_dup2 {v w : az_V} (hd : decode M.2.1 pc = .ok (.dup2, 1)) (k : az_Ev X d M (pc + 1) L (v :: w :: v :: w :: st) mem Q) : az_Ev X d M pc L (v :: w :: st) mem Q := by
  intro p e s m args below meth c H locs ls hx hb hml hown hr hlk hts hnw hK hW hS hL
  exact lv_dup2_11 hx hb hd (az_cat X v) (az_cat X w) (k p e s m args below meth c H locs ls hx hb hml hown hr hlk hts hnw hK hW hS hL)
theorem az_goto {off : Int} {t : Nat} (hd : decode M.2.1 pc = .ok (.goto off, 3)) (ht : (pc : Int) + off = (t : Int)) (k : az_Ev X d M t L st mem Q) : az_Ev X d M pc L st mem Q := by
  intro p e s m args below meth c H locs ls hx hb hml hown hr hlk hts hnw hK hW hS hL
  exact lv_goto hx hb hd ht (k p e s m args below meth c H locs ls hx hb hml hown hr hlk hts hnw hK hW hS hL)
theorem az_icmpeq {x y : Int32} {off : Int} {t : Nat} (hd : decode M.2.1 pc = .ok (.if_icmp .eq off, 3)) (ht : (pc : Int) + off = (t : Int)) (kt : x = y → az_Ev X d M t L st mem Q) (kf : ¬ x = y → az_Ev X d M (pc + 3) L st mem Q) : az_Ev X d M pc L (.inl y :: .inl x :: st) mem Q := by
  intro p e s m args below meth c H locs ls hx hb hml hown hr hlk hts hnw hK hW hS hL
  exact lv_icmp_eq hx hb hd ht (fun h => kt h p e s m args below meth c H locs ls hx hb hml hown hr hlk hts hnw hK hW hS hL) (fun h => kf h p e s m args below meth c H locs ls hx hb hml hown hr hlk hts hnw hK hW hS hL)
theorem az_icmpne {x y : Int32} {off : Int} {t : Nat} (hd : decode M.2.1 pc = .ok (.if_icmp .ne off, 3)) (ht : (pc : Int) + off = (t : Int)) (kt : ¬ x = y → az_Ev X d M t L st mem Q) (kf : x = y → az_Ev X d M (pc + 3) L st mem Q) : az_Ev X d M pc L (.inl y :: .inl x :: st) mem Q := by
  intro p e s m args below meth c H locs ls hx hb hml hown hr hlk hts hnw hK hW hS hL
  exact lv_icmp_ne hx hb hd ht (fun h => kt h p e s m args below meth c H locs ls hx hb hml hown hr hlk hts hnw hK hW hS hL) (fun h => kf h p e s m args below meth c H locs ls hx hb hml hown hr hlk hts hnw hK hW hS hL)
theorem az_icmplt {x y : Int32} {off : Int} {t : Nat} (hd : decode M.2.1 pc = .ok (.if_icmp .lt off, 3)) (ht : (pc : Int) + off = (t : Int)) (kt : x < y → az_Ev X d M t L st mem Q) (kf : ¬ x < y → az_Ev X d M (pc + 3) L st mem Q) : az_Ev X d M pc L (.inl y :: .inl x :: st) mem Q := by
  intro p e s m args below meth c H locs ls hx hb hml hown hr hlk hts hnw hK hW hS hL
  exact lv_icmp_lt hx hb hd ht (fun h => kt h p e s m args below meth c H locs ls hx hb hml hown hr hlk hts hnw hK hW hS hL) (fun h => kf h p e s m args below meth c H locs ls hx hb hml hown hr hlk hts hnw hK hW hS hL)
theorem az_icmpge {x y : Int32} {off : Int} {t : Nat} (hd : decode M.2.1 pc = .ok (.if_icmp .ge off, 3)) (ht : (pc : Int) + off = (t : Int)) (kt : y ≤ x → az_Ev X d M t L st mem Q) (kf : ¬ y ≤ x → az_Ev X d M (pc + 3) L st mem Q) : az_Ev X d M pc L (.inl y :: .inl x :: st) mem Q := by
  intro p e s m args below meth c H locs ls hx hb hml hown hr hlk hts hnw hK hW hS hL
  exact lv_icmp_ge hx hb hd ht (fun h => kt h p e s m args below meth c H locs ls hx hb hml hown hr hlk hts hnw hK hW hS hL) (fun h => kf h p e s m args below meth c H locs ls hx hb hml hown hr hlk hts hnw hK hW hS hL)
theorem az_icmpgt {x y : Int32} {off : Int} {t : Nat} (hd : decode M.2.1 pc = .ok (.if_icmp .gt off, 3)) (ht : (pc : Int) + off = (t : Int)) (kt : y < x → az_Ev X d M t L st mem Q) (kf : ¬ y < x → az_Ev X d M (pc + 3) L st mem Q) : az_Ev X d M pc L (.inl y :: .inl x :: st) mem Q := by
  intro p e s m args below meth c H locs ls hx hb hml hown hr hlk hts hnw hK hW hS hL
  exact lv_icmp_gt hx hb hd ht (fun h => kt h p e s m args below meth c H locs ls hx hb hml hown hr hlk hts hnw hK hW hS hL) (fun h => kf h p e s m args below meth c H locs ls hx hb hml hown hr hlk hts hnw hK hW hS hL)
theorem az_icmple {x y : Int32} {off : Int} {t : Nat} (hd : decode M.2.1 pc = .ok (.if_icmp .le off, 3)) (ht : (pc : Int) + off = (t : Int)) (kt : x ≤ y → az_Ev X d M t L st mem Q) (kf : ¬ x ≤ y → az_Ev X d M (pc + 3) L st mem Q) : az_Ev X d M pc L (.inl y :: .inl x :: st) mem Q := by
  intro p e s m args below meth c H locs ls hx hb hml hown hr hlk hts hnw hK hW hS hL
  exact lv_icmp_le hx hb hd ht (fun h => kt h p e s m args below meth c H locs ls hx hb hml hown hr hlk hts hnw hK hW hS hL) (fun h => kf h p e s m args below meth c H locs ls hx hb hml hown hr hlk hts hnw hK hW hS hL)
theorem az_ifeq {x : Int32} {off : Int} {t : Nat} (hd : decode M.2.1 pc = .ok (.ifCond .eq off, 3)) (ht : (pc : Int) + off = (t : Int)) (kt : x = 0 → az_Ev X d M t L st mem Q) (kf : ¬ x = 0 → az_Ev X d M (pc + 3) L st mem Q) : az_Ev X d M pc L (.inl x :: st) mem Q := by
  intro p e s m args below meth c H locs ls hx hb hml hown hr hlk hts hnw hK hW hS hL
  exact lv_if_eq hx hb hd ht (fun h => kt h p e s m args below meth c H locs ls hx hb hml hown hr hlk hts hnw hK hW hS hL) (fun h => kf h p e s m args below meth c H locs ls hx hb hml hown hr hlk hts hnw hK hW hS hL)
theorem az_ifne {x : Int32} {off : Int} {t : Nat} (hd : decode M.2.1 pc = .ok (.ifCond .ne off, 3)) (ht : (pc : Int) + off = (t : Int)) (kt : ¬ x = 0 → az_Ev X d M t L st mem Q) (kf : x = 0 → az_Ev X d M (pc + 3) L st mem Q) : az_Ev X d M pc L (.inl x :: st) mem Q := by
  intro p e s m args below meth c H locs ls hx hb hml hown hr hlk hts hnw hK hW hS hL
  exact lv_if_ne hx hb hd ht (fun h => kt h p e s m args below meth c H locs ls hx hb hml hown hr hlk hts hnw hK hW hS hL) (fun h => kf h p e s m args below meth c H locs ls hx hb hml hown hr hlk hts hnw hK hW hS hL)
theorem az_iflt {x : Int32} {off : Int} {t : Nat} (hd : decode M.2.1 pc = .ok (.ifCond .lt off, 3)) (ht : (pc : Int) + off = (t : Int)) (kt : x < 0 → az_Ev X d M t L st mem Q) (kf : ¬ x < 0 → az_Ev X d M (pc + 3) L st mem Q) : az_Ev X d M pc L (.inl x :: st) mem Q := by
  intro p e s m args below meth c H locs ls hx hb hml hown hr hlk hts hnw hK hW hS hL
  exact lv_if_lt hx hb hd ht (fun h => kt h p e s m args below meth c H locs ls hx hb hml hown hr hlk hts hnw hK hW hS hL) (fun h => kf h p e s m args below meth c H locs ls hx hb hml hown hr hlk hts hnw hK hW hS hL)
theorem az_ifge {x : Int32} {off : Int} {t : Nat} (hd : decode M.2.1 pc = .ok (.ifCond .ge off, 3)) (ht : (pc : Int) + off = (t : Int)) (kt : 0 ≤ x → az_Ev X d M t L st mem Q) (kf : ¬ 0 ≤ x → az_Ev X d M (pc + 3) L st mem Q) : az_Ev X d M pc L (.inl x :: st) mem Q := by
  intro p e s m args below meth c H locs ls hx hb hml hown hr hlk hts hnw hK hW hS hL
  exact lv_if_ge hx hb hd ht (fun h => kt h p e s m args below meth c H locs ls hx hb hml hown hr hlk hts hnw hK hW hS hL) (fun h => kf h p e s m args below meth c H locs ls hx hb hml hown hr hlk hts hnw hK hW hS hL)
theorem az_ifgt {x : Int32} {off : Int} {t : Nat} (hd : decode M.2.1 pc = .ok (.ifCond .gt off, 3)) (ht : (pc : Int) + off = (t : Int)) (kt : 0 < x → az_Ev X d M t L st mem Q) (kf : ¬ 0 < x → az_Ev X d M (pc + 3) L st mem Q) : az_Ev X d M pc L (.inl x :: st) mem Q := by
  intro p e s m args below meth c H locs ls hx hb hml hown hr hlk hts hnw hK hW hS hL
  exact lv_if_gt hx hb hd ht (fun h => kt h p e s m args below meth c H locs ls hx hb hml hown hr hlk hts hnw hK hW hS hL) (fun h => kf h p e s m args below meth c H locs ls hx hb hml hown hr hlk hts hnw hK hW hS hL)
theorem az_ifle {x : Int32} {off : Int} {t : Nat} (hd : decode M.2.1 pc = .ok (.ifCond .le off, 3)) (ht : (pc : Int) + off = (t : Int)) (kt : x ≤ 0 → az_Ev X d M t L st mem Q) (kf : ¬ x ≤ 0 → az_Ev X d M (pc + 3) L st mem Q) : az_Ev X d M pc L (.inl x :: st) mem Q := by
  intro p e s m args below meth c H locs ls hx hb hml hown hr hlk hts hnw hK hW hS hL
  exact lv_if_le hx hb hd ht (fun h => kt h p e s m args below meth c H locs ls hx hb hml hown hr hlk hts hnw hK hW hS hL) (fun h => kf h p e s m args below meth c H locs ls hx hb hml hown hr hlk hts hnw hK hW hS hL)
theorem az_tout {dflt lo hi : Int} {offs : Array Int} {len : Nat} {x : Int32} {t : Nat} (hd : decode M.2.1 pc = .ok (.tableswitch dflt lo hi offs, len)) (h : x.toInt < lo ∨ hi < x.toInt) (ht : (pc : Int) + dflt = (t : Int)) (k : az_Ev X d M t L st mem Q) : az_Ev X d M pc L (.inl x :: st) mem Q := by
  intro p e s m args below meth c H locs ls hx hb hml hown hr hlk hts hnw hK hW hS hL
  exact lv_tableOut hx hb hd h ht (k p e s m args below meth c H locs ls hx hb hml hown hr hlk hts hnw hK hW hS hL)
theorem az_tin {dflt lo hi : Int} {offs : Array Int} {len : Nat} {x : Int32} {off : Int} {t : Nat} (hd : decode M.2.1 pc = .ok (.tableswitch dflt lo hi offs, len)) (h1 : ¬ x.toInt < lo) (h2 : ¬ hi < x.toInt) (ho : offs[(x.toInt - lo).toNat]? = some off) (ht : (pc : Int) + off = (t : Int)) (k : az_Ev X d M t L st mem Q) : az_Ev X d M pc L (.inl x :: st) mem Q := by
  intro p e s m args below meth c H locs ls hx hb hml hown hr hlk hts hnw hK hW hS hL
  exact lv_tableIn hx hb hd h1 h2 ho ht (k p e s m args below meth c H locs ls hx hb hml hown hr hlk hts hnw hK hW hS hL)
/-- a field's link: from class own's entry idx to field j of class ci -/
def az_FL (own : String) (idx ci j : Nat) : Prop := ∃ (C : String) (T : u_T) (N : Nat), az_cl[ci]? = some (C, T, N) ∧ j < N ∧ (∀ w ∈ u_ws C T N, w ∈ az_tb) ∧ (T j).1 = C ∧ ((Cond.fieldLink own idx C (T j).2.1 (T j).2.2.1 ∈ az_tb) ∨ ∃ host, Cond.fieldLinkNest own idx C (T j).2.1 (T j).2.2.1 host ∈ az_tn)
theorem az_get {idx ci j k : Nat} {fs : List (Option Nat)} {o : Option Nat} (hd : decode M.2.1 pc = .ok (.getfield idx, 3)) (hf : az_FL M.1.cls idx ci j) (hob : az_Ob k ci fs) (ho : fs[j]? = some o) (kk : az_Ev X d M (pc + 3) L (az_ft o (mem k) j :: st) mem Q) : az_Ev X d M pc L (.inr k :: st) mem Q := by
  intro p e s m args below meth c H locs ls hx hb hml hown hr hlk hts hnw hK hW hS hL
  obtain ⟨C, T, N, hc, hj, hin, hC, hl⟩ := hf
  have he : (az_wl X mem)[k]? = some (X.2.2.2 k, .inr (ci, az_fl X fs (mem k))) := by rw [az_wl_at hob.1, az_ce_ob hob]
  rcases hl with hl | ⟨host, hl⟩
  · exact va_get (ref := C) hx hb hts hin hown hK hW.1 k he hc j hj (hts _ hl) (fun x h => by rw [hC] at h; exact h) (az_fl_at ho) hd (kk p e s m args below meth c H locs ls hx hb hml hown hr hlk hts hnw hK hW hS hL)
  · exact va_getN (ref := C) (host := host) hx hb hts hin hown hK hW.1 k he hc j hj (az_nw_use hnw hl) (fun x h => by rw [hC] at h; exact h) (az_fl_at ho) hd (kk p e s m args below meth c H locs ls hx hb hml hown hr hlk hts hnw hK hW hS hL)
theorem az_geti {idx ci j k : Nat} {fs : List (Option Nat)} (hd : decode M.2.1 pc = .ok (.getfield idx, 3)) (hf : az_FL M.1.cls idx ci j) (hob : az_Ob k ci fs) (ho : fs[j]? = some none) (kk : az_Ev X d M (pc + 3) L (.inl (mem k j) :: st) mem Q) : az_Ev X d M pc L (.inr k :: st) mem Q := az_get hd hf hob ho kk
theorem az_getr {idx ci j k b : Nat} {fs : List (Option Nat)} (hd : decode M.2.1 pc = .ok (.getfield idx, 3)) (hf : az_FL M.1.cls idx ci j) (hob : az_Ob k ci fs) (ho : fs[j]? = some (some b)) (kk : az_Ev X d M (pc + 3) L (.inr b :: st) mem Q) : az_Ev X d M pc L (.inr k :: st) mem Q := az_get hd hf hob ho kk
/-- such a link, of a field that isn't final, of int or boolean -/
def az_PL (own : String) (idx ci j : Nat) (ty : FieldType) : Prop := ∃ (C : String) (T : u_T) (N : Nat) (ty0 : Nat → FieldType), az_cl[ci]? = some (C, T, N) ∧ j < N ∧ (∀ w ∈ u_ws C T N, w ∈ az_tb) ∧ (T j).1 = C ∧ ((Cond.fieldLink own idx C (T j).2.1 (T j).2.2.1 ∈ az_tb) ∨ ∃ host, Cond.fieldLinkNest own idx C (T j).2.1 (T j).2.2.1 host ∈ az_tn) ∧
  (∀ k, k < N → parseFieldDescriptor (T k).2.2.1 = some (ty0 k)) ∧ (∀ a, a < N → ∀ b, b < N → a ≠ b → (T a).2.1 ≠ (T b).2.1) ∧ (T j).2.2.2 = false ∧ ty0 j = ty
theorem az_put {idx ci j k : Nat} {fs : List (Option Nat)} {v : Int32} {ty : FieldType} (hd : decode M.2.1 pc = .ok (.putfield idx, 3)) (hf : az_PL M.1.cls idx ci j ty) (hob : az_Ob k ci fs) (ho : fs[j]? = some none) (hn : narrow ty (.int v) = .int v) (hfit : fits ty (.int v) = true) (kk : az_Ev X d M (pc + 3) L st (az_w mem k j v) Q) : az_Ev X d M pc L (.inl v :: .inr k :: st) mem Q := by
  intro p e s m args below meth c H locs ls hx hb hml hown hr hlk hts hnw hK hW hS hL
  obtain ⟨C, T, N, ty0, hc, hj, hin, hC, hl, hty, hnm, hfin, htj⟩ := hf
  have he : (az_wl X mem)[k]? = some (X.2.2.2 k, .inr (ci, az_fl X fs (mem k))) := by rw [az_wl_at hob.1, az_ce_ob hob]
  have hlen : j < (az_fl X fs (mem k)).length := by
    have := (List.getElem?_eq_some_iff.mp ho).1
    simpa [az_fl] using this
  have hset : (az_wl X mem).set k (X.2.2.2 k, .inr (ci, (az_fl X fs (mem k)).set j (.int v))) = az_wl X (az_w mem k j v) := by
    rw [az_fl_set ho, ← az_ce_ob hob, az_wl_set hob.1]; rfl
  have go : ∀ (H1 : Heap) (locs1 : List Loc), va_P X.2.1 az_cl ((az_wl X mem).set k (X.2.2.2 k, .inr (ci, (az_fl X fs (mem k)).set j (.int v)))) H1 → va_D (az_A X) ((az_wl X mem).set k (X.2.2.2 k, .inr (ci, (az_fl X fs (mem k)).set j (.int v)))) → va_S (az_A X) s.heap H1 locs1 → W p X.1 e (az_rm d) s m args below meth c H1 locs1 0 0 (MQ below (az_Q X Q) args s 0 0 (az_A X)) (F0 m (pc + 3) ls (st.map (az_cv X))) := by
    intro H1 locs1 h1 h2 h3
    rw [hset] at h1 h2
    exact kk p e s m args below meth c H1 locs1 ls hx hb hml hown hr hlk hts hnw hK ⟨h1, h2⟩ h3 hL
  rcases hl with hl | ⟨host, hl⟩
  · exact va_put (ref := C) hx hb hts hin ty0 hty hnm hown hK hW.1 hW.2 hS k he hc j hj (hts _ hl) (fun x h => by rw [hC] at h; exact h) hfin (by rw [hty j hj, htj]) hn hfit hlen hd go
  · exact va_putN (ref := C) (host := host) hx hb hts hin ty0 hty hnm hown hK hW.1 hW.2 hS k he hc j hj (az_nw_use hnw hl) (fun x h => by rw [hC] at h; exact h) hfin (by rw [hty j hj, htj]) hn hfit hlen hd go
theorem az_puti {idx ci j k : Nat} {fs : List (Option Nat)} {v : Int32} (hd : decode M.2.1 pc = .ok (.putfield idx, 3)) (hf : az_PL M.1.cls idx ci j .int) (hob : az_Ob k ci fs) (ho : fs[j]? = some none) (kk : az_Ev X d M (pc + 3) L st (az_w mem k j v) Q) : az_Ev X d M pc L (.inl v :: .inr k :: st) mem Q := az_put hd hf hob ho rfl rfl kk
theorem az_putz {idx ci j k : Nat} {fs : List (Option Nat)} {v : Int32} (hd : decode M.2.1 pc = .ok (.putfield idx, 3)) (hf : az_PL M.1.cls idx ci j .boolean) (hob : az_Ob k ci fs) (ho : fs[j]? = some none) (hv : v = 0 ∨ v = 1) (kk : az_Ev X d M (pc + 3) L st (az_w mem k j v) Q) : az_Ev X d M pc L (.inl v :: .inr k :: st) mem Q :=
  az_put hd hf hob ho (by rcases hv with rfl | rfl <;> rfl) (by rcases hv with rfl | rfl <;> rfl) kk
theorem az_iald {k n : Nat} {x : Int32} (i : Nat) (hd : decode M.2.1 pc = .ok (.iaload, 1)) (ha : az_Ar k n) (hi : i < n) (hn : n < 2 ^ 31) (hx' : x = nI i) (kk : az_Ev X d M (pc + 1) L (.inl (mem k i) :: st) mem Q) : az_Ev X d M pc L (.inl x :: .inr k :: st) mem Q := by
  intro p e s m args below meth c H locs ls hx hb hml hown hr hlk hts hnw hK hW hS hL
  have he : (az_wl X mem)[k]? = some (X.2.2.2 k, .inl (X.2.2.1.1, n, .inl (mem k))) := by rw [az_wl_at ha.1, az_ce_ar ha]
  subst hx'
  have hc : (nI i).toNatClampNeg = i := nI_clamp (by omega)
  exact va_iald hx hb hK hW.1 k 0 he rfl (vp_in_nI hi hn) hd (by rw [hc]; exact kk p e s m args below meth c H locs ls hx hb hml hown hr hlk hts hnw hK hW hS hL)
theorem az_iast {k n : Nat} {x v : Int32} (i : Nat) (hd : decode M.2.1 pc = .ok (.iastore, 1)) (ha : az_Ar k n) (hi : i < n) (hn : n < 2 ^ 31) (hx' : x = nI i) (kk : az_Ev X d M (pc + 1) L st (az_w mem k i v) Q) : az_Ev X d M pc L (.inl v :: .inl x :: .inr k :: st) mem Q := by
  intro p e s m args below meth c H locs ls hx hb hml hown hr hlk hts hnw hK hW hS hL
  have he : (az_wl X mem)[k]? = some (X.2.2.2 k, .inl (X.2.2.1.1, n, .inl (mem k))) := by rw [az_wl_at ha.1, az_ce_ar ha]
  subst hx'
  have hc : (nI i).toNatClampNeg = i := nI_clamp (by omega)
  have hset : (az_wl X mem).set k (X.2.2.2 k, .inl (X.2.2.1.1, n, .inl (upd (mem k) (nI i).toNatClampNeg v))) = az_wl X (az_w mem k i v) := by
    rw [hc, ← az_ce_ar ha, az_wl_set ha.1]; rfl
  refine va_iast hx hb hK hW.1 hW.2 hS k 0 he rfl (vp_in_nI hi hn) hd (fun H1 locs1 h1 h2 h3 => ?_)
  rw [hset] at h1 h2
  exact kk p e s m args below meth c H1 locs1 ls hx hb hml hown hr hlk hts hnw hK ⟨h1, h2⟩ h3 hL
theorem az_aald {k b : Nat} {bs : List Nat} {x : Int32} (i : Nat) (hd : decode M.2.1 pc = .ok (.aaload, 1)) (ha : k < az_K ∧ az_sh k = .inr (.inr bs)) (hi : bs[i]? = some b) (hn : bs.length < 2 ^ 31) (hx' : x = nI i) (kk : az_Ev X d M (pc + 1) L (.inr b :: st) mem Q) : az_Ev X d M pc L (.inl x :: .inr k :: st) mem Q := by
  intro p e s m args below meth c H locs ls hx hb hml hown hr hlk hts hnw hK hW hS hL
  have he : (az_wl X mem)[k]? = some (X.2.2.2 k, .inl (X.2.2.1.2, bs.length, .inr (.inr (.inr (.inr (fun i => (bs[i]?).map X.2.2.2)))))) := by
    rw [az_wl_at ha.1]; unfold az_ce; rw [ha.2]
  subst hx'
  have hlt := (List.getElem?_eq_some_iff.mp hi).1
  have hc : (nI i).toNatClampNeg = i := nI_clamp (by omega)
  refine va_aldq hx hb hK hW.1 k 1 he rfl (vp_in_nI hlt hn) hd ?_
  rw [hc, hi]
  exact kk p e s m args below meth c H locs ls hx hb hml hown hr hlk hts hnw hK hW hS hL
theorem az_alen {k n : Nat} (hd : decode M.2.1 pc = .ok (.arraylength, 1)) (ha : az_Ar k n) (kk : az_Ev X d M (pc + 1) L (.inl (nI n) :: st) mem Q) : az_Ev X d M pc L (.inr k :: st) mem Q := by
  intro p e s m args below meth c H locs ls hx hb hml hown hr hlk hts hnw hK hW hS hL
  have he : (az_wl X mem)[k]? = some (X.2.2.2 k, .inl (X.2.2.1.1, n, .inl (mem k))) := by rw [az_wl_at ha.1, az_ce_ar ha]
  exact va_alen (ty := .int) hx hb hK hW.1 k 0 he rfl rfl hd (kk p e s m args below meth c H locs ls hx hb hml hown hr hlk hts hnw hK hW hS hL)
theorem az_iret {v : Int32} (hd : decode M.2.1 pc = .ok (.ireturn, 1)) (hM : M.2.2.2 = some .int) (h : Q (some (.inl v)) mem) : az_Ev X d M pc L [.inl v] mem Q := by
  intro p e s m args below meth c H locs ls hx hb hml hown hr hlk hts hnw hK hW hS hL
  exact W.iret (v := v) hx hb (hr.trans hM) (fun t ht hWm => ⟨⟨some (.inl v), mem, rfl, h, by rw [ht]; exact hW, va_K.moved hWm.alike hK⟩, hS.F ht⟩) hS.2.2 hd hlk
theorem az_zret {v : Int32} (hd : decode M.2.1 pc = .ok (.ireturn, 1)) (hM : M.2.2.2 = some .boolean) (hv : v = 0 ∨ v = 1) (h : Q (some (.inl v)) mem) : az_Ev X d M pc L [.inl v] mem Q := by
  intro p e s m args below meth c H locs ls hx hb hml hown hr hlk hts hnw hK hW hS hL
  exact W.zret (v := v) hx hb (hr.trans hM) (by rcases hv with rfl | rfl <;> rfl) (fun t ht hWm => ⟨⟨some (.inl v), mem, rfl, h, by rw [ht]; exact hW, va_K.moved hWm.alike hK⟩, hS.F ht⟩) hS.2.2 hd hlk
theorem az_aret {b : Nat} {C : String} (hd : decode M.2.1 pc = .ok (.areturn, 1)) (hM : M.2.2.2 = some (.object C)) (h : Q (some (.inr b)) mem) : az_Ev X d M pc L [.inr b] mem Q := by
  intro p e s m args below meth c H locs ls hx hb hml hown hr hlk hts hnw hK hW hS hL
  exact W.aret (v := .ref (X.2.2.2 b)) hx hb (hr.trans hM) (Or.inl ⟨C, rfl⟩) (Or.inr ⟨_, rfl⟩) (fun t ht hWm => ⟨⟨some (.inr b), mem, rfl, h, by rw [ht]; exact hW, va_K.moved hWm.alike hK⟩, hS.F ht⟩) hS.2.2 hd hlk
theorem az_vret (hd : decode M.2.1 pc = .ok (.return_, 1)) (hM : M.2.2.2 = none) (h : Q none mem) : az_Ev X d M pc L [] mem Q := by
  intro p e s m args below meth c H locs ls hx hb hml hown hr hlk hts hnw hK hW hS hL
  exact W.vret hx hb (hr.trans hM) (fun t ht hWm => ⟨⟨none, mem, rfl, h, by rw [ht]; exact hW, va_K.moved hWm.alike hK⟩, hS.F ht⟩) hS.2.2 hd hlk
/-- a contract out of a walk of the body -/
theorem az_body {args : List az_V} (hy : plainName M.1.cls = true) (hl : args.length ≤ M.2.2.1) (h : az_Ev X d M 0 (args.map some ++ List.replicate (M.2.2.1 - args.length) none) [] mem Q) : az_Sp X d M args mem Q := by
  refine Met.ofW (cc := M.2.1) (maxL := M.2.2.1) (ret := M.2.2.2) hy rfl ?_
  intro p e s m ar below meth c s₁ B hml hv
  obtain ⟨rfl, hW, hK, hnw⟩ := hv
  have hts := atoms_spec (ws := az_ws M) B.pre
  have hslen : ∀ vs : List az_V, lg_sl (vs.map (az_cv X)) = vs.map (fun v => Slot.val (az_cv X v)) := by
    intro vs
    induction vs with
    | nil => rfl
    | cons v vs ih =>
      have : lg_sl ((v :: vs).map (az_cv X)) = (if (az_cv X v).category = 2 then [Slot.val (az_cv X v), .second] else [Slot.val (az_cv X v)]) ++ lg_sl (vs.map (az_cv X)) := rfl
      rw [this, ih]
      simp [az_cat]
  have hle : (lg_sl (args.map (az_cv X))).length ≤ M.2.2.1 := by rw [hslen]; simpa using hl
  have hl0 := lv_entry (args.map (az_cv X)) (n := M.2.2.1) hle
  rw [lg_entry_eq]
  have hLR : az_LR X ((lg_sl (args.map (az_cv X)) ++ List.replicate (M.2.2.1 - (lg_sl (args.map (az_cv X))).length) Slot.unset).toArray) M.2.2.1 (args.map some ++ List.replicate (M.2.2.1 - args.length) none) := by
    refine ⟨hl0.1, hl0.2.1, fun i v hv => ?_⟩
    rw [hslen]
    by_cases hi : i < args.length
    · rw [List.getElem?_append_left (by simpa using hi)] at hv
      rw [List.getElem?_map, Option.map_eq_some_iff] at hv
      obtain ⟨w, hw, he⟩ := hv
      cases he
      simp only [List.getElem?_toArray]
      rw [List.getElem?_append_left (by simpa using hi), List.getElem?_map, hw]
      rfl
    · rw [List.getElem?_append_right (by simpa using hi)] at hv
      have := List.mem_of_getElem? hv
      rw [List.mem_replicate] at this
      exact absurd this.2 (by simp)
  have hx := h p e s m (args.map (az_cv X)).toArray below meth c s.heap [] _ B.exec B.bytes hml (findClass_of_methodNamed B.named) B.returns B.notSynchronized (fun w hw => hts w (List.mem_cons_of_mem _ hw)) hnw hK hW va_S.rf hLR
  exact hx
end AZ1
end
section
/-! CALLS in the abstract layer -/
theorem az_good : az_tb.all goodWord = true := List.all_eq_true.mpr (fun w h => (List.mem_filter.mp h).2)
/-- what the tables say of a method that is called -/
def az_OK (N : az_Me) (n : Nat) : Prop := Cond.code N.1 N.2.1 N.2.2.1 N.2.2.2 ∈ az_tb ∧ Cond.initialized N.1.cls ∈ az_tb ∧ (N.1.cls ≠ "java/lang/invoke/MethodHandle" ∧ N.1.cls ≠ "java/lang/invoke/VarHandle" ∧ (parseMethodDescriptor N.1.desc).map (fun d => d.parameters.length) = some n) ∧ N.2.2.1 ≤ 40
def az_OV (N : az_Me) (n : Nat) : Prop := az_OK N n ∧ Cond.instanceMethod N.1 ∈ az_tb ∧ Cond.selects N.1.cls N.1 N.1 ∈ az_tb
def az_OS (N : az_Me) (n : Nat) : Prop := az_OK N n ∧ Cond.static N.1 ∈ az_tb
def az_Lk (own : String) (idx : Nat) (y : MethodName) : Prop := Cond.methodLink own idx y ∈ az_tb ∨ ∃ host, Cond.methodLinkNest own idx y host ∈ az_tn
theorem az_goodIn {N : az_Me} {n : Nat} (h : az_OK N n) : GoodIn az_tb (az_ws N) := by
  intro w hw
  have hm : w ∈ az_tb := by
    rcases List.mem_cons.mp hw with rfl | hw
    · exact h.1
    · exact hw
  exact ⟨hm, good_of_word (List.all_eq_true.mp az_good w hm)⟩
theorem az_room {N : az_Me} {n : Nat} (h : az_OK N n) (d : Nat) : (az_rm d).frames + 1 ≤ (az_rm (d + 1)).frames ∧ 8 + (N.2.2.1 + 11) + (az_rm d).locals ≤ (az_rm (d + 1)).locals := by
  have := h.2.2.2
  constructor
  · exact Nat.le_refl _
  · show 8 + (N.2.2.1 + 11) + 64 * d ≤ 64 * (d + 1)
    omega
theorem az_ps_map (X : az_X) (r : Option az_V) (rest : List az_V) : (az_ps r rest).map (az_cv X) = (r.map (az_cv X)).toList ++ rest.map (az_cv X) := by
  cases r <;> rfl
theorem az_sum (X : az_X) (rest : List az_V) : ((rest.map (az_cv X)).map fun v => v.category).sum = rest.length := by
  induction rest with
  | nil => rfl
  | cons a l ih => simp only [List.map_cons, List.sum_cons, List.length_cons, ih, az_cat]; omega
section AZ2
variable {p : Program} {e : Env} {s : State} {m : MethodId} {args : Array Value} {below : List Frame} {meth : Method} {c : Code} {H : Heap} {locs : List Loc} {R : Room} {Z : State → Prop}
variable {X : az_X} {pc : Nat} {ls : Array Slot}
theorem az_back {Q1 : Option az_V → az_M → Prop} {rest : List az_V} {st0 : List Value} {a : Array Value} (hr : va_Run p X.1 e R s m args below meth c H locs 0 0 0 0 (F0 m pc ls st0) (rest.map (az_cv X)) (az_Q X Q1 a) (az_A X)) (hS : va_S (az_A X) s.heap H locs)
    (kk : ∀ (r : Option az_V) (mem : az_M) (H1 : Heap) (locs1 : List Loc), Q1 r mem → az_Wd X mem H1 → va_S (az_A X) s.heap H1 locs1 → W p X.1 e R s m args below meth c H1 locs1 0 0 Z (F0 m (pc + 3) ls ((az_ps r rest).map (az_cv X)))) : W p X.1 e R s m args below meth c H locs 0 0 Z (F0 m pc ls st0) := by
  intro T hT X0
  obtain ⟨v, st₀, t, T', L, h0, X', hL, e1, e2, ⟨⟨r, mem', hv, hq, hw, hk⟩, hz, hkp⟩, st⟩ := hr T hT X0
  cases hv
  rw [h0] at hz hkp
  obtain ⟨t2, a1, b1⟩ := kk r mem' T'.heap (locs ++ L) hq (by rw [e1]; exact hw)
    ⟨Nat.le_trans hS.1 (by rw [e1]; exact hz), fun q h1 h2 => by rw [e1, hkp q (Nat.lt_of_lt_of_le h1 hS.1) h2]; exact hS.2.1 q h1 h2, fun q hq => by
      rcases List.mem_append.mp hq with h | h
      · exact hS.2.2 q h
      · exact hL q h⟩ T' rfl X'
  rw [az_ps_map] at a1
  exact ⟨t2, st t2 a1, b1⟩
end AZ2
section AZ3
variable {X : az_X} {d : Nat} {M : az_Me} {pc : Nat} {L : List (Option az_V)} {rest : List az_V} {mem : az_M} {Q : Option az_V → az_M → Prop}
theorem az_blind {X : az_X} {mem : az_M} (args : List az_V) : FrameBlind (va_Pc (args.map (az_cv X)) (fun U => az_Wd X mem U.heap ∧ va_K X.2.1 az_cl (az_ty X) U ∧ az_nw U)) :=
  fun a U g mk q => ⟨q.1, q.2.1, va_K.moved (u := U) (U := U.calling g mk a) (Vm.Alike.refl U.vm) q.2.2.1, az_nw_same (s := U) (U := U.calling g mk a) rfl q.2.2.2⟩
theorem az_callV {idx ci n k : Nat} {N : az_Me} {fs : List (Option Nat)} {T : u_T} {nn : Nat} (As : List az_V) (hd : decode M.2.1 pc = .ok (.invokevirtual idx, 3)) (hk : az_Lk M.1.cls idx N.1) (hN : az_OV N n) (hob : az_Ob k ci fs) (hc : az_cl[ci]? = some (N.1.cls, T, nn)) (hn : As.length = n) (hr : rest.length ≤ 8)
    (hs : az_Sp X d N (.inr k :: As) mem (fun r mem' => az_Ev X (d + 1) M (pc + 3) L (az_ps r rest) mem' Q)) : az_Ev X (d + 1) M pc L (As.reverse ++ .inr k :: rest) mem Q := by
  intro p e s m args below meth c H locs ls hx hb hml hown hrt hlk hts hnw hK hW hS hL
  have he : (az_wl X mem)[k]? = some (X.2.2.2 k, .inr (ci, az_fl X fs (mem k))) := by rw [az_wl_at hob.1, az_ce_ob hob]
  have hPV : PreV s H N.1.cls (X.2.2.2 k) (va_Pc ((Sum.inr k :: As).map (az_cv X)) (fun U => az_Wd X mem U.heap ∧ va_K X.2.1 az_cl (az_ty X) U ∧ az_nw U)) (As.map (az_cv X)) :=
    ⟨az_blind _, va_recv (q := (N.1.cls, T, nn)) hK hW.1 hc he, fun U hU hWm => ⟨rfl, by rw [hU]; exact hW, va_K.moved hWm.alike hK, az_nw_warm hWm hnw⟩⟩
  have hst : (As.reverse ++ .inr k :: rest).map (az_cv X) = (As.map (az_cv X)).reverse ++ .ref (X.2.2.2 k) :: rest.map (az_cv X) := by
    simp [az_cv]
  have hsum : 2 * (F0 m pc ls ((As.reverse ++ .inr k :: rest).map (az_cv X))).monitorRoom + ((rest.map (az_cv X)).map fun v => v.category).sum ≤ 8 := by
    rw [az_sum]; exact (by simpa [JFrame.monitorRoom] using hr)
  have run : va_Run p X.1 e (az_rm (d + 1)) s m args below meth c H locs 0 0 0 0 (F0 m pc ls ((As.reverse ++ .inr k :: rest).map (az_cv X))) (rest.map (az_cv X)) (az_Q X (fun r mem' => az_Ev X (d + 1) M (pc + 3) L (az_ps r rest) mem' Q) (Value.ref (X.2.2.2 k) :: As.map (az_cv X)).toArray) (az_A X) := by
    rcases hk with hk | ⟨host, hk⟩
    · exact va_runV (C := N.1.cls) ⟨hx, hb, hml, hown, hts⟩ hs (⟨callB_of n hts (az_goodIn hN.1) rfl rfl rfl (hts _ hN.1.2.1) (hts _ hk) hN.1.2.2.1 (az_room hN.1 d), hts _ hN.2.1, hts _ hN.2.2⟩) hPV rfl (by simpa using hn) hL.1 hst hsum hd ⟨Nat.le_refl 0, Nat.le_refl 0⟩
    · exact va_runVN (C := N.1.cls) (host := host) ⟨hx, hb, hml, hown, hts⟩ hs ⟨va_cnB n hts (az_goodIn hN.1) rfl rfl rfl (hnw _ hk) (hts _ hN.1.2.1) hN.1.2.2.1 (az_room hN.1 d), hts _ hN.2.1, hts _ hN.2.2⟩ hPV rfl (by simpa using hn) hL.1 hst hsum hd ⟨Nat.le_refl 0, Nat.le_refl 0⟩
  exact az_back run hS (fun r mem1 H1 locs1 hq hw hS1 => hq p e s m args below meth c H1 locs1 ls hx hb hml hown hrt hlk hts hnw hK hw hS1 hL)
theorem az_callS {idx n : Nat} {N : az_Me} (As : List az_V) (hd : decode M.2.1 pc = .ok (.invokestatic idx, 3)) (hk : Cond.methodLink M.1.cls idx N.1 ∈ az_tb) (hN : az_OS N n) (hn : As.length = n) (hr : rest.length ≤ 8)
    (hs : az_Sp X d N As mem (fun r mem' => az_Ev X (d + 1) M (pc + 3) L (az_ps r rest) mem' Q)) : az_Ev X (d + 1) M pc L (As.reverse ++ rest) mem Q := by
  intro p e s m args below meth c H locs ls hx hb hml hown hrt hlk hts hnw hK hW hS hL
  have hPS : PreS s H (va_Pc (As.map (az_cv X)) (fun U => az_Wd X mem U.heap ∧ va_K X.2.1 az_cl (az_ty X) U ∧ az_nw U)) (As.map (az_cv X)) :=
    ⟨az_blind _, fun U hU hWm => ⟨rfl, by rw [hU]; exact hW, va_K.moved hWm.alike hK, az_nw_warm hWm hnw⟩⟩
  have hst : (As.reverse ++ rest).map (az_cv X) = (As.map (az_cv X)).reverse ++ rest.map (az_cv X) := by simp
  have hsum : 2 * (F0 m pc ls ((As.reverse ++ rest).map (az_cv X))).monitorRoom + ((rest.map (az_cv X)).map fun v => v.category).sum ≤ 8 := by
    rw [az_sum]; exact (by simpa [JFrame.monitorRoom] using hr)
  have run : va_Run p X.1 e (az_rm (d + 1)) s m args below meth c H locs 0 0 0 0 (F0 m pc ls ((As.reverse ++ rest).map (az_cv X))) (rest.map (az_cv X)) (az_Q X (fun r mem' => az_Ev X (d + 1) M (pc + 3) L (az_ps r rest) mem' Q) (As.map (az_cv X)).toArray) (az_A X) :=
    va_runS ⟨hx, hb, hml, hown, hts⟩ hs ⟨callB_of n hts (az_goodIn hN.1) rfl rfl rfl (hts _ hN.1.2.1) (hts _ hk) hN.1.2.2.1 (az_room hN.1 d), hts _ hN.2⟩ hPS rfl (by simpa using hn) hL.1 hst hsum hd ⟨Nat.le_refl 0, Nat.le_refl 0⟩
  exact az_back run hS (fun r mem1 H1 locs1 hq hw hS1 => hq p e s m args below meth c H1 locs1 ls hx hb hml hown hrt hlk hts hnw hK hw hS1 hL)
theorem az_inv0 {idx ci k : Nat} {N : az_Me} {fs : List (Option Nat)} {T : u_T} {nn : Nat} (hd : decode M.2.1 pc = .ok (.invokevirtual idx, 3)) (hk : az_Lk M.1.cls idx N.1) (hN : az_OV N 0) (hob : az_Ob k ci fs) (hc : az_cl[ci]? = some (N.1.cls, T, nn)) (hr : rest.length ≤ 8)
    (hs : az_Sp X d N [.inr k] mem (fun r mem' => az_Ev X (d + 1) M (pc + 3) L (az_ps r rest) mem' Q)) : az_Ev X (d + 1) M pc L (.inr k :: rest) mem Q := az_callV [] hd hk hN hob hc rfl hr hs
theorem az_inv1 {idx ci k : Nat} {N : az_Me} {fs : List (Option Nat)} {T : u_T} {nn : Nat} {a1 : az_V} (hd : decode M.2.1 pc = .ok (.invokevirtual idx, 3)) (hk : az_Lk M.1.cls idx N.1) (hN : az_OV N 1) (hob : az_Ob k ci fs) (hc : az_cl[ci]? = some (N.1.cls, T, nn)) (hr : rest.length ≤ 8)
    (hs : az_Sp X d N [.inr k, a1] mem (fun r mem' => az_Ev X (d + 1) M (pc + 3) L (az_ps r rest) mem' Q)) : az_Ev X (d + 1) M pc L (a1 :: .inr k :: rest) mem Q := az_callV [a1] hd hk hN hob hc rfl hr hs
theorem az_inv2 {idx ci k : Nat} {N : az_Me} {fs : List (Option Nat)} {T : u_T} {nn : Nat} {a1 a2 : az_V} (hd : decode M.2.1 pc = .ok (.invokevirtual idx, 3)) (hk : az_Lk M.1.cls idx N.1) (hN : az_OV N 2) (hob : az_Ob k ci fs) (hc : az_cl[ci]? = some (N.1.cls, T, nn)) (hr : rest.length ≤ 8)
    (hs : az_Sp X d N [.inr k, a1, a2] mem (fun r mem' => az_Ev X (d + 1) M (pc + 3) L (az_ps r rest) mem' Q)) : az_Ev X (d + 1) M pc L (a2 :: a1 :: .inr k :: rest) mem Q := az_callV [a1, a2] hd hk hN hob hc rfl hr hs
theorem az_inv3 {idx ci k : Nat} {N : az_Me} {fs : List (Option Nat)} {T : u_T} {nn : Nat} {a1 a2 a3 : az_V} (hd : decode M.2.1 pc = .ok (.invokevirtual idx, 3)) (hk : az_Lk M.1.cls idx N.1) (hN : az_OV N 3) (hob : az_Ob k ci fs) (hc : az_cl[ci]? = some (N.1.cls, T, nn)) (hr : rest.length ≤ 8)
    (hs : az_Sp X d N [.inr k, a1, a2, a3] mem (fun r mem' => az_Ev X (d + 1) M (pc + 3) L (az_ps r rest) mem' Q)) : az_Ev X (d + 1) M pc L (a3 :: a2 :: a1 :: .inr k :: rest) mem Q := az_callV [a1, a2, a3] hd hk hN hob hc rfl hr hs
theorem az_inv4 {idx ci k : Nat} {N : az_Me} {fs : List (Option Nat)} {T : u_T} {nn : Nat} {a1 a2 a3 a4 : az_V} (hd : decode M.2.1 pc = .ok (.invokevirtual idx, 3)) (hk : az_Lk M.1.cls idx N.1) (hN : az_OV N 4) (hob : az_Ob k ci fs) (hc : az_cl[ci]? = some (N.1.cls, T, nn)) (hr : rest.length ≤ 8)
    (hs : az_Sp X d N [.inr k, a1, a2, a3, a4] mem (fun r mem' => az_Ev X (d + 1) M (pc + 3) L (az_ps r rest) mem' Q)) : az_Ev X (d + 1) M pc L (a4 :: a3 :: a2 :: a1 :: .inr k :: rest) mem Q := az_callV [a1, a2, a3, a4] hd hk hN hob hc rfl hr hs
theorem az_ins1 {idx : Nat} {N : az_Me} {a1 : az_V} (hd : decode M.2.1 pc = .ok (.invokestatic idx, 3)) (hk : Cond.methodLink M.1.cls idx N.1 ∈ az_tb) (hN : az_OS N 1) (hr : rest.length ≤ 8)
    (hs : az_Sp X d N [a1] mem (fun r mem' => az_Ev X (d + 1) M (pc + 3) L (az_ps r rest) mem' Q)) : az_Ev X (d + 1) M pc L (a1 :: rest) mem Q := az_callS [a1] hd hk hN rfl hr hs
theorem az_ins2 {idx : Nat} {N : az_Me} {a1 a2 : az_V} (hd : decode M.2.1 pc = .ok (.invokestatic idx, 3)) (hk : Cond.methodLink M.1.cls idx N.1 ∈ az_tb) (hN : az_OS N 2) (hr : rest.length ≤ 8)
    (hs : az_Sp X d N [a1, a2] mem (fun r mem' => az_Ev X (d + 1) M (pc + 3) L (az_ps r rest) mem' Q)) : az_Ev X (d + 1) M pc L (a2 :: a1 :: rest) mem Q := az_callS [a1, a2] hd hk hN rfl hr hs
/-- System.arraycopy between two different or equal int rows of the world -/
theorem az_copy {idx k0 k1 n0 n1 : Nat} (hd : decode M.2.1 pc = .ok (.invokestatic idx, 3)) (hk : Cond.methodLink M.1.cls idx arraycopyName ∈ az_tb) (h0 : az_Ar k0 n0) (h1 : az_Ar k1 n1) (sp dp n : Nat) (hsp : sp + n ≤ n0) (hdp : dp + n ≤ n1) (hn0 : n0 < 2 ^ 31) (hn1 : n1 < 2 ^ 31) {vs vd vn : Int32} (es : vs = nI sp) (ed : vd = nI dp) (en : vn = nI n) (hr : rest.length ≤ 8) (hdd : 2 ≤ d)
    (hw : Cond.native arraycopyName ∈ az_tb ∧ Cond.static arraycopyName ∈ az_tb ∧ Cond.initialized "java/lang/System" ∈ az_tb) (kk : az_Ev X d M (pc + 3) L rest (az_st mem k1 (va_cpy (mem k0) (mem k1) sp dp n)) Q) : az_Ev X d M pc L (.inl vn :: .inl vd :: .inr k1 :: .inl vs :: .inr k0 :: rest) mem Q := by
  intro p e s m args below meth c H locs ls hx hb hml hown hrt hlk hts hnw hK hW hS hL
  subst es; subst ed; subst en
  have he0 : (az_wl X mem)[k0]? = some (X.2.2.2 k0, .inl (X.2.2.1.1, n0, .inl (mem k0))) := by rw [az_wl_at h0.1, az_ce_ar h0]
  have he1 : (az_wl X mem)[k1]? = some (X.2.2.2 k1, .inl (X.2.2.1.1, n1, .inl (mem k1))) := by rw [az_wl_at h1.1, az_ce_ar h1]
  have c1 : (nI sp).toNatClampNeg = sp := nI_clamp (by omega)
  have c2 : (nI dp).toNatClampNeg = dp := nI_clamp (by omega)
  have c3 : (nI n).toNatClampNeg = n := nI_clamp (by omega)
  have hset : (az_wl X mem).set k1 (X.2.2.2 k1, .inl (X.2.2.1.1, n1, .inl (va_cpy (mem k0) (mem k1) (nI sp).toNatClampNeg (nI dp).toNatClampNeg (nI n).toNatClampNeg))) = az_wl X (az_st mem k1 (va_cpy (mem k0) (mem k1) sp dp n)) := by
    rw [c1, c2, c3, ← az_ce_ar h1, az_wl_set h1.1]
  refine va_copyi (ty := .int) hx hb (hml.trans hL.1.symm) hown (hts _ hk) (hts _ hw.1) (hts _ hw.2.1) (hts _ hw.2.2) hK hW.1 hW.2 hS k0 k1 0 0 he0 he1 rfl rfl rfl (nI_pos (by omega)) (nI_pos (by omega)) (nI_pos (by omega)) (by rw [c1, c3]; exact hsp) (by rw [c2, c3]; exact hdp) (fun i hi => rfl) ?_ ?_ hd (fun H1 locs1 g1 g2 g3 => ?_)
  · show 1 ≤ d
    omega
  · rw [az_sum]
    have : nativeFrameWords "java/lang/System" "arraycopy" 5 + 11 ≤ 100 := by decide +kernel
    show _ ≤ 64 * d
    omega
  · rw [hset] at g1 g2
    exact kk p e s m args below meth c H1 locs1 ls hx hb hml hown hrt hlk hts hnw hK ⟨g1, g2⟩ g3 hL
end AZ3
end
section
/-! by program: methods, links, fields, shapes -/
abbrev mX0_init : az_Me := (yX0_init, cX0_init, 1, none)
abbrev mX0_prepare : az_Me := (yX0_prepare, cX0_prepare, 7, none)
abbrev mX0_findPlaces : az_Me := (yX0_findPlaces, cX0_findPlaces, 6, none)
abbrev mX0_placeOf : az_Me := (yX0_placeOf, cX0_placeOf, 4, (some .int))
abbrev mX0_groupPlaces : az_Me := (yX0_groupPlaces, cX0_groupPlaces, 8, none)
abbrev mX0_leastCost : az_Me := (yX0_leastCost, cX0_leastCost, 2, (some .int))
abbrev mX0_firstMark : az_Me := (yX0_firstMark, cX0_firstMark, 4, (some .int))
abbrev mX0_costOf : az_Me := (yX0_costOf, cX0_costOf, 5, (some .int))
abbrev mX0_costOfAsking : az_Me := (yX0_costOfAsking, cX0_costOfAsking, 8, (some .int))
abbrev mX0_chanceOf : az_Me := (yX0_chanceOf, cX0_chanceOf, 4, (some .int))
abbrev mX1_init : az_Me := (yX1_init, cX1_init, 1, none)
abbrev mX1_search : az_Me := (yX1_search, cX1_search, 5, none)
abbrev mX1_gatherDemands : az_Me := (yX1_gatherDemands, cX1_gatherDemands, 5, none)
abbrev mX1_demand : az_Me := (yX1_demand, cX1_demand, 5, none)
abbrev mX1_decide : az_Me := (yX1_decide, cX1_decide, 7, none)
abbrev mX1_canBeMet : az_Me := (yX1_canBeMet, cX1_canBeMet, 9, (some .boolean))
abbrev mX1_takeIfBest : az_Me := (yX1_takeIfBest, cX1_takeIfBest, 3, none)
abbrev mX2_init : az_Me := (yX2_init, cX2_init, 1, none)
abbrev mX2_become : az_Me := (yX2_become, cX2_become, 2, none)
abbrev mX2_isPost : az_Me := (yX2_isPost, cX2_isPost, 2, (some .boolean))
abbrev mX2_isSet : az_Me := (yX2_isSet, cX2_isSet, 2, (some .boolean))
abbrev mX2_hasRoad : az_Me := (yX2_hasRoad, cX2_hasRoad, 3, (some .boolean))
abbrev mX2_hasWord : az_Me := (yX2_hasWord, cX2_hasWord, 2, (some .boolean))
abbrev mX2_roadCanBe : az_Me := (yX2_roadCanBe, cX2_roadCanBe, 4, (some .boolean))
abbrev mX2_layRoad : az_Me := (yX2_layRoad, cX2_layRoad, 4, none)
abbrev mX2_besideBits : az_Me := (yX2_besideBits, cX2_besideBits, 4, (some .int))
abbrev mX2_countRoads : az_Me := (yX2_countRoads, cX2_countRoads, 3, (some .int))
abbrev mX2_need : az_Me := (yX2_need, cX2_need, 1, (some .int))
abbrev mX3_init : az_Me := (yX3_init, cX3_init, 2, none)
abbrev mX3_keep : az_Me := (yX3_keep, cX3_keep, 2, none)
abbrev mX3_goBack : az_Me := (yX3_goBack, cX3_goBack, 3, none)
abbrev mX4_init : az_Me := (yX4_init, cX4_init, 1, none)
abbrev mX4_fewestRounds : az_Me := (yX4_fewestRounds, cX4_fewestRounds, 5, (some .int))
abbrev mX4_prepare : az_Me := (yX4_prepare, cX4_prepare, 6, none)
abbrev mX4_findInRound : az_Me := (yX4_findInRound, cX4_findInRound, 6, (some .boolean))
abbrev mX4_someMarkFinds : az_Me := (yX4_someMarkFinds, cX4_someMarkFinds, 5, (some .boolean))
abbrev mX4_markFinds : az_Me := (yX4_markFinds, cX4_markFinds, 8, (some .boolean))
abbrev mX5_init : az_Me := (yX5_init, cX5_init, 1, none)
abbrev mX5_look : az_Me := (yX5_look, cX5_look, 4, none)
abbrev mX5_findWays : az_Me := (yX5_findWays, cX5_findWays, 5, none)
abbrev mX5_shortenWays : az_Me := (yX5_shortenWays, cX5_shortenWays, 6, none)
abbrev mX5_answerOf : az_Me := (yX5_answerOf, cX5_answerOf, 6, (some .int))
abbrev mX5_groupPosts : az_Me := (yX5_groupPosts, cX5_groupPosts, 6, none)
abbrev mX5_sameAnswer : az_Me := (yX5_sameAnswer, cX5_sameAnswer, 5, (some .int))
abbrev mX5_findParters : az_Me := (yX5_findParters, cX5_findParters, 5, none)
abbrev mX5_findYes : az_Me := (yX5_findYes, cX5_findYes, 5, none)
abbrev mX5_countBeside : az_Me := (yX5_countBeside, cX5_countBeside, 2, (some .int))
abbrev mX5_countReachedFrom : az_Me := (yX5_countReachedFrom, cX5_countReachedFrom, 4, (some .int))
abbrev mX5_leavesLessKnots : az_Me := (yX5_leavesLessKnots, cX5_leavesLessKnots, 4, (some .int))
abbrev mX5_knotOfLeaf : az_Me := (yX5_knotOfLeaf, cX5_knotOfLeaf, 7, (some .int))
abbrev mX5_areTwins : az_Me := (yX5_areTwins, cX5_areTwins, 3, (some .boolean))
abbrev mX5_twinPair : az_Me := (yX5_twinPair, cX5_twinPair, 5, (some .int))
abbrev mX5_pairLacks : az_Me := (yX5_pairLacks, cX5_pairLacks, 6, (some .boolean))
abbrev mX5_firstPairLacking : az_Me := (yX5_firstPairLacking, cX5_firstPairLacking, 5, (some .int))
abbrev mX5_countPairsLacking : az_Me := (yX5_countPairsLacking, cX5_countPairsLacking, 6, (some .int))
abbrev mX5_firstPostLacking : az_Me := (yX5_firstPostLacking, cX5_firstPostLacking, 4, (some .int))
abbrev mX5_countApartPairs : az_Me := (yX5_countApartPairs, cX5_countApartPairs, 1, (some .int))
abbrev mX5_apartPair : az_Me := (yX5_apartPair, cX5_apartPair, 2, (some .int))
abbrev mX5_goThroughApartPairs : az_Me := (yX5_goThroughApartPairs, cX5_goThroughApartPairs, 8, (some .int))
abbrev mX5_greedySet : az_Me := (yX5_greedySet, cX5_greedySet, 5, (some .int))
abbrev mX5_markPartingMost : az_Me := (yX5_markPartingMost, cX5_markPartingMost, 7, (some .int))
abbrev mX5_countLackingPartedBy : az_Me := (yX5_countLackingPartedBy, cX5_countLackingPartedBy, 8, (some .int))
abbrev mX6_init : az_Me := (yX6_init, cX6_init, 1, none)
abbrev mX6_hasRoomFor : az_Me := (yX6_hasRoomFor, cX6_hasRoomFor, 2, (some .boolean))
abbrev mX6_takeFour : az_Me := (yX6_takeFour, cX6_takeFour, 3, none)
abbrev mX6_byteAt : az_Me := (yX6_byteAt, cX6_byteAt, 2, (some .int))
abbrev mX7_init : az_Me := (yX7_init, cX7_init, 1, none)
abbrev mX7_post : az_Me := (yX7_post, cX7_post, 1, (some .int))
abbrev mX7_road : az_Me := (yX7_road, cX7_road, 4, (some .boolean))
abbrev mX7_cut : az_Me := (yX7_cut, cX7_cut, 3, (some .boolean))
abbrev mX7_feed : az_Me := (yX7_feed, cX7_feed, 6, (some .int))
abbrev mX7_roads : az_Me := (yX7_roads, cX7_roads, 7, (some .int))
abbrev mX7_reach : az_Me := (yX7_reach, cX7_reach, 3, (some .boolean))
abbrev mX7_price : az_Me := (yX7_price, cX7_price, 3, (some .boolean))
abbrev mX7_chance : az_Me := (yX7_chance, cX7_chance, 3, (some .boolean))
abbrev mX7_rule : az_Me := (yX7_rule, cX7_rule, 4, (some .boolean))
abbrev mX7_may : az_Me := (yX7_may, cX7_may, 3, (some .int))
abbrev mX7_want : az_Me := (yX7_want, cX7_want, 2, none)
abbrev mX7_way : az_Me := (yX7_way, cX7_way, 3, (some .int))
abbrev mX7_of : az_Me := (yX7_of, cX7_of, 3, (some .int))
abbrev mX7_answer : az_Me := (yX7_answer, cX7_answer, 3, (some .int))
abbrev mX7_parts : az_Me := (yX7_parts, cX7_parts, 5, (some .int))
abbrev mX7_clash : az_Me := (yX7_clash, cX7_clash, 5, (some .int))
abbrev mX7_twins : az_Me := (yX7_twins, cX7_twins, 2, (some .int))
abbrev mX7_least : az_Me := (yX7_least, cX7_least, 1, (some .int))
abbrev mX7_every : az_Me := (yX7_every, cX7_every, 1, (some .int))
abbrev mX7_cheapest : az_Me := (yX7_cheapest, cX7_cheapest, 1, (some .int))
abbrev mX7_set : az_Me := (yX7_set, cX7_set, 1, (some .int))
abbrev mX7_shown : az_Me := (yX7_shown, cX7_shown, 1, (some .int))
abbrev mX7_pair : az_Me := (yX7_pair, cX7_pair, 2, (some .int))
abbrev mX7_greedy : az_Me := (yX7_greedy, cX7_greedy, 5, (some .int))
abbrev mX7_word : az_Me := (yX7_word, cX7_word, 3, (some .int))
abbrev mX7_clear : az_Me := (yX7_clear, cX7_clear, 2, (some .int))
abbrev mX7_fits : az_Me := (yX7_fits, cX7_fits, 3, (some .int))
abbrev mX7_where : az_Me := (yX7_where, cX7_where, 4, (some .int))
abbrev mX7_against : az_Me := (yX7_against, cX7_against, 2, (some .int))
abbrev mX7_worst : az_Me := (yX7_worst, cX7_worst, 2, (some .int))
abbrev mX7_next : az_Me := (yX7_next, cX7_next, 2, (some .int))
abbrev mX7_mean : az_Me := (yX7_mean, cX7_mean, 2, (some .int))
abbrev mX7_seek : az_Me := (yX7_seek, cX7_seek, 2, (some .int))
abbrev mX7_tree : az_Me := (yX7_tree, cX7_tree, 3, (some .int))
abbrev mX7_undo : az_Me := (yX7_undo, cX7_undo, 2, (some .int))
abbrev mX7_about : az_Me := (yX7_about, cX7_about, 2, (some .int))
abbrev mX7_beforeAct : az_Me := (yX7_beforeAct, cX7_beforeAct, 1, none)
abbrev mX7_freshSight : az_Me := (yX7_freshSight, cX7_freshSight, 1, (some (.object "WayMarks$Sight")))
abbrev mX7_tellChoice : az_Me := (yX7_tellChoice, cX7_tellChoice, 1, (some .int))
abbrev mX7_wordsAgainst : az_Me := (yX7_wordsAgainst, cX7_wordsAgainst, 5, (some .int))
abbrev mX7_fitsWords : az_Me := (yX7_fitsWords, cX7_fitsWords, 3, (some .boolean))
abbrev mX7_canBeAsked : az_Me := (yX7_canBeAsked, cX7_canBeAsked, 2, (some .boolean))
abbrev mX8_init : az_Me := (yX8_init, cX8_init, 1, none)
abbrev mX8_first : az_Me := (yX8_first, cX8_first, 2, none)
abbrev mX8_act : az_Me := (yX8_act, cX8_act, 2, none)
abbrev mX8_undo : az_Me := (yX8_undo, cX8_undo, 4, (some .int))
abbrev mX8_n : az_Me := (yX8_n, cX8_n, 1, (some .int))
abbrev mX8_isPost : az_Me := (yX8_isPost, cX8_isPost, 2, (some .boolean))
abbrev mX8_isSet : az_Me := (yX8_isSet, cX8_isSet, 2, (some .boolean))
abbrev mX8_length : az_Me := (yX8_length, cX8_length, 3, (some .int))
abbrev mX8_isRoad : az_Me := (yX8_isRoad, cX8_isRoad, 4, (some .boolean))
abbrev mX8_lay : az_Me := (yX8_lay, cX8_lay, 4, none)
abbrev mX8_walk : az_Me := (yX8_walk, cX8_walk, 5, none)
abbrev mX8_says : az_Me := (yX8_says, cX8_says, 5, (some .int))
abbrev mX8_answerOf : az_Me := (yX8_answerOf, cX8_answerOf, 3, (some .int))
abbrev mX8_post : az_Me := (yX8_post, cX8_post, 1, (some .int))
abbrev mX8_road : az_Me := (yX8_road, cX8_road, 4, (some .boolean))
abbrev mX8_cut : az_Me := (yX8_cut, cX8_cut, 3, (some .boolean))
abbrev mX8_feed : az_Me := (yX8_feed, cX8_feed, 6, (some .int))
abbrev mX8_four : az_Me := (yX8_four, cX8_four, 3, none)
abbrev mX8_roads : az_Me := (yX8_roads, cX8_roads, 6, (some .int))
abbrev mX8_reach : az_Me := (yX8_reach, cX8_reach, 3, (some .boolean))
abbrev mX8_price : az_Me := (yX8_price, cX8_price, 3, (some .boolean))
abbrev mX8_chance : az_Me := (yX8_chance, cX8_chance, 3, (some .boolean))
abbrev mX8_rule : az_Me := (yX8_rule, cX8_rule, 3, (some .boolean))
abbrev mX8_need : az_Me := (yX8_need, cX8_need, 1, (some .int))
abbrev mX8_may : az_Me := (yX8_may, cX8_may, 3, (some .int))
abbrev mX8_want : az_Me := (yX8_want, cX8_want, 2, none)
abbrev mX8_way : az_Me := (yX8_way, cX8_way, 3, (some .int))
abbrev mX8_besideBits : az_Me := (yX8_besideBits, cX8_besideBits, 4, (some .int))
abbrev mX8_many : az_Me := (yX8_many, cX8_many, 3, (some .int))
abbrev mX8_of : az_Me := (yX8_of, cX8_of, 5, (some .int))
abbrev mX8_answer : az_Me := (yX8_answer, cX8_answer, 3, (some .int))
abbrev mX8_isParting : az_Me := (yX8_isParting, cX8_isParting, 4, (some .boolean))
abbrev mX8_parting : az_Me := (yX8_parting, cX8_parting, 5, (some .int))
abbrev mX8_areTwins : az_Me := (yX8_areTwins, cX8_areTwins, 3, (some .boolean))
abbrev mX8_isYes : az_Me := (yX8_isYes, cX8_isYes, 3, (some .boolean))
abbrev mX8_yes : az_Me := (yX8_yes, cX8_yes, 4, (some .int))
abbrev mX8_parts : az_Me := (yX8_parts, cX8_parts, 4, (some .int))
abbrev mX8_gather : az_Me := (yX8_gather, cX8_gather, 3, none)
abbrev mX8_clashOf : az_Me := (yX8_clashOf, cX8_clashOf, 6, (some .int))
abbrev mX8_clash : az_Me := (yX8_clash, cX8_clash, 2, (some .int))
abbrev mX8_twins : az_Me := (yX8_twins, cX8_twins, 5, (some .int))
abbrev mX8_best : az_Me := (yX8_best, cX8_best, 6, (some .int))
abbrev mX8_price_ : az_Me := (yX8_price_, cX8_price_, 4, (some .int))
abbrev mX8_least : az_Me := (yX8_least, cX8_least, 2, (some .int))
abbrev mX8_every : az_Me := (yX8_every, cX8_every, 4, (some .int))
abbrev mX8_cheapest : az_Me := (yX8_cheapest, cX8_cheapest, 2, (some .int))
abbrev mX8_set : az_Me := (yX8_set, cX8_set, 1, (some .int))
abbrev mX8_show : az_Me := (yX8_show, cX8_show, 6, (some .int))
abbrev mX8_shown : az_Me := (yX8_shown, cX8_shown, 1, (some .int))
abbrev mX8_pair : az_Me := (yX8_pair, cX8_pair, 3, (some .int))
abbrev mX8_lacks : az_Me := (yX8_lacks, cX8_lacks, 3, (some .boolean))
abbrev mX8_greedy : az_Me := (yX8_greedy, cX8_greedy, 10, (some .int))
abbrev mX8_word : az_Me := (yX8_word, cX8_word, 3, (some .int))
abbrev mX8_clear : az_Me := (yX8_clear, cX8_clear, 3, (some .int))
abbrev mX8_againstBits : az_Me := (yX8_againstBits, cX8_againstBits, 4, (some .int))
abbrev mX8_isFit : az_Me := (yX8_isFit, cX8_isFit, 2, (some .boolean))
abbrev mX8_fits : az_Me := (yX8_fits, cX8_fits, 3, (some .int))
abbrev mX8_where : az_Me := (yX8_where, cX8_where, 4, (some .int))
abbrev mX8_against : az_Me := (yX8_against, cX8_against, 2, (some .int))
abbrev mX8_isDone : az_Me := (yX8_isDone, cX8_isDone, 5, (some .boolean))
abbrev mX8_staying : az_Me := (yX8_staying, cX8_staying, 6, (some .int))
abbrev mX8_isAsked : az_Me := (yX8_isAsked, cX8_isAsked, 2, (some .boolean))
abbrev mX8_fill : az_Me := (yX8_fill, cX8_fill, 3, none)
abbrev mX8_fillOne : az_Me := (yX8_fillOne, cX8_fillOne, 10, none)
abbrev mX8_worst : az_Me := (yX8_worst, cX8_worst, 2, (some .int))
abbrev mX8_next : az_Me := (yX8_next, cX8_next, 2, (some .int))
abbrev mX8_mean : az_Me := (yX8_mean, cX8_mean, 2, (some .int))
abbrev mX8_moved : az_Me := (yX8_moved, cX8_moved, 4, (some .int))
abbrev mX8_seek : az_Me := (yX8_seek, cX8_seek, 6, (some .int))
abbrev mX8_isFoundIn : az_Me := (yX8_isFoundIn, cX8_isFoundIn, 8, (some .boolean))
abbrev mX8_tree : az_Me := (yX8_tree, cX8_tree, 5, (some .int))
abbrev mX8_isLed : az_Me := (yX8_isLed, cX8_isLed, 7, (some .boolean))
abbrev mX8_only : az_Me := (yX8_only, cX8_only, 2, (some .int))
abbrev mX8_about : az_Me := (yX8_about, cX8_about, 4, (some .int))
abbrev mJ6_numberOfTrailingZeros_0f7a4 : az_Me := (yJ6_numberOfTrailingZeros_0f7a4, cJ6_numberOfTrailingZeros_0f7a4, 2, (some .int))
abbrev mJ6_bitCount_0f7a4 : az_Me := (yJ6_bitCount_0f7a4, cJ6_bitCount_0f7a4, 1, (some .int))
abbrev mJ9_floorMod_7cf53 : az_Me := (yJ9_floorMod_7cf53, cJ9_floorMod_7cf53, 3, (some .int))
abbrev mJ9_max_7cf53 : az_Me := (yJ9_max_7cf53, cJ9_max_7cf53, 2, (some .int))
abbrev mJ9_min_7cf53 : az_Me := (yJ9_min_7cf53, cJ9_min_7cf53, 2, (some .int))
abbrev mJ7_fill_53178 : az_Me := (yJ7_fill_53178, cJ7_fill_53178, 4, none)
theorem okX0_prepare : az_OV mX0_prepare 4 := ⟨⟨az_in 718 (by decide +kernel) (by decide +kernel), az_in 108 (by decide +kernel) (by decide +kernel), ⟨by decide +kernel, by decide +kernel, by decide +kernel⟩, by decide +kernel⟩, az_in 717 (by decide +kernel) (by decide +kernel), az_in 46 (by decide +kernel) (by decide +kernel)⟩
theorem okX0_findPlaces : az_OV mX0_findPlaces 3 := ⟨⟨az_in 722 (by decide +kernel) (by decide +kernel), az_in 108 (by decide +kernel) (by decide +kernel), ⟨by decide +kernel, by decide +kernel, by decide +kernel⟩, by decide +kernel⟩, az_in 721 (by decide +kernel) (by decide +kernel), az_in 47 (by decide +kernel) (by decide +kernel)⟩
theorem okX0_placeOf : az_OV mX0_placeOf 2 := ⟨⟨az_in 726 (by decide +kernel) (by decide +kernel), az_in 108 (by decide +kernel) (by decide +kernel), ⟨by decide +kernel, by decide +kernel, by decide +kernel⟩, by decide +kernel⟩, az_in 725 (by decide +kernel) (by decide +kernel), az_in 48 (by decide +kernel) (by decide +kernel)⟩
theorem okX0_groupPlaces : az_OV mX0_groupPlaces 2 := ⟨⟨az_in 731 (by decide +kernel) (by decide +kernel), az_in 108 (by decide +kernel) (by decide +kernel), ⟨by decide +kernel, by decide +kernel, by decide +kernel⟩, by decide +kernel⟩, az_in 730 (by decide +kernel) (by decide +kernel), az_in 49 (by decide +kernel) (by decide +kernel)⟩
theorem okX0_leastCost : az_OV mX0_leastCost 0 := ⟨⟨az_in 735 (by decide +kernel) (by decide +kernel), az_in 108 (by decide +kernel) (by decide +kernel), ⟨by decide +kernel, by decide +kernel, by decide +kernel⟩, by decide +kernel⟩, az_in 734 (by decide +kernel) (by decide +kernel), az_in 50 (by decide +kernel) (by decide +kernel)⟩
theorem okX0_firstMark : az_OV mX0_firstMark 0 := ⟨⟨az_in 758 (by decide +kernel) (by decide +kernel), az_in 108 (by decide +kernel) (by decide +kernel), ⟨by decide +kernel, by decide +kernel, by decide +kernel⟩, by decide +kernel⟩, az_in 757 (by decide +kernel) (by decide +kernel), az_in 54 (by decide +kernel) (by decide +kernel)⟩
theorem okX0_costOf : az_OV mX0_costOf 2 := ⟨⟨az_in 739 (by decide +kernel) (by decide +kernel), az_in 108 (by decide +kernel) (by decide +kernel), ⟨by decide +kernel, by decide +kernel, by decide +kernel⟩, by decide +kernel⟩, az_in 738 (by decide +kernel) (by decide +kernel), az_in 51 (by decide +kernel) (by decide +kernel)⟩
theorem okX0_costOfAsking : az_OV mX0_costOfAsking 3 := ⟨⟨az_in 744 (by decide +kernel) (by decide +kernel), az_in 108 (by decide +kernel) (by decide +kernel), ⟨by decide +kernel, by decide +kernel, by decide +kernel⟩, by decide +kernel⟩, az_in 743 (by decide +kernel) (by decide +kernel), az_in 52 (by decide +kernel) (by decide +kernel)⟩
theorem okX0_chanceOf : az_OV mX0_chanceOf 1 := ⟨⟨az_in 749 (by decide +kernel) (by decide +kernel), az_in 108 (by decide +kernel) (by decide +kernel), ⟨by decide +kernel, by decide +kernel, by decide +kernel⟩, by decide +kernel⟩, az_in 748 (by decide +kernel) (by decide +kernel), az_in 53 (by decide +kernel) (by decide +kernel)⟩
theorem okX1_search : az_OV mX1_search 3 := ⟨⟨az_in 589 (by decide +kernel) (by decide +kernel), az_in 107 (by decide +kernel) (by decide +kernel), ⟨by decide +kernel, by decide +kernel, by decide +kernel⟩, by decide +kernel⟩, az_in 588 (by decide +kernel) (by decide +kernel), az_in 28 (by decide +kernel) (by decide +kernel)⟩
theorem okX1_gatherDemands : az_OV mX1_gatherDemands 2 := ⟨⟨az_in 595 (by decide +kernel) (by decide +kernel), az_in 107 (by decide +kernel) (by decide +kernel), ⟨by decide +kernel, by decide +kernel, by decide +kernel⟩, by decide +kernel⟩, az_in 594 (by decide +kernel) (by decide +kernel), az_in 29 (by decide +kernel) (by decide +kernel)⟩
theorem okX1_demand : az_OV mX1_demand 1 := ⟨⟨az_in 600 (by decide +kernel) (by decide +kernel), az_in 107 (by decide +kernel) (by decide +kernel), ⟨by decide +kernel, by decide +kernel, by decide +kernel⟩, by decide +kernel⟩, az_in 599 (by decide +kernel) (by decide +kernel), az_in 30 (by decide +kernel) (by decide +kernel)⟩
theorem okX1_decide : az_OV mX1_decide 4 := ⟨⟨az_in 605 (by decide +kernel) (by decide +kernel), az_in 107 (by decide +kernel) (by decide +kernel), ⟨by decide +kernel, by decide +kernel, by decide +kernel⟩, by decide +kernel⟩, az_in 604 (by decide +kernel) (by decide +kernel), az_in 31 (by decide +kernel) (by decide +kernel)⟩
theorem okX1_canBeMet : az_OV mX1_canBeMet 2 := ⟨⟨az_in 609 (by decide +kernel) (by decide +kernel), az_in 107 (by decide +kernel) (by decide +kernel), ⟨by decide +kernel, by decide +kernel, by decide +kernel⟩, by decide +kernel⟩, az_in 608 (by decide +kernel) (by decide +kernel), az_in 32 (by decide +kernel) (by decide +kernel)⟩
theorem okX1_takeIfBest : az_OV mX1_takeIfBest 2 := ⟨⟨az_in 614 (by decide +kernel) (by decide +kernel), az_in 107 (by decide +kernel) (by decide +kernel), ⟨by decide +kernel, by decide +kernel, by decide +kernel⟩, by decide +kernel⟩, az_in 613 (by decide +kernel) (by decide +kernel), az_in 33 (by decide +kernel) (by decide +kernel)⟩
theorem okX2_become : az_OV mX2_become 1 := ⟨⟨az_in 393 (by decide +kernel) (by decide +kernel), az_in 102 (by decide +kernel) (by decide +kernel), ⟨by decide +kernel, by decide +kernel, by decide +kernel⟩, by decide +kernel⟩, az_in 392 (by decide +kernel) (by decide +kernel), az_in 2 (by decide +kernel) (by decide +kernel)⟩
theorem okX2_isPost : az_OV mX2_isPost 1 := ⟨⟨az_in 411 (by decide +kernel) (by decide +kernel), az_in 102 (by decide +kernel) (by decide +kernel), ⟨by decide +kernel, by decide +kernel, by decide +kernel⟩, by decide +kernel⟩, az_in 410 (by decide +kernel) (by decide +kernel), az_in 4 (by decide +kernel) (by decide +kernel)⟩
theorem okX2_isSet : az_OV mX2_isSet 1 := ⟨⟨az_in 546 (by decide +kernel) (by decide +kernel), az_in 102 (by decide +kernel) (by decide +kernel), ⟨by decide +kernel, by decide +kernel, by decide +kernel⟩, by decide +kernel⟩, az_in 545 (by decide +kernel) (by decide +kernel), az_in 22 (by decide +kernel) (by decide +kernel)⟩
theorem okX2_hasRoad : az_OV mX2_hasRoad 2 := ⟨⟨az_in 415 (by decide +kernel) (by decide +kernel), az_in 102 (by decide +kernel) (by decide +kernel), ⟨by decide +kernel, by decide +kernel, by decide +kernel⟩, by decide +kernel⟩, az_in 414 (by decide +kernel) (by decide +kernel), az_in 5 (by decide +kernel) (by decide +kernel)⟩
theorem okX2_hasWord : az_OV mX2_hasWord 1 := ⟨⟨az_in 682 (by decide +kernel) (by decide +kernel), az_in 102 (by decide +kernel) (by decide +kernel), ⟨by decide +kernel, by decide +kernel, by decide +kernel⟩, by decide +kernel⟩, az_in 681 (by decide +kernel) (by decide +kernel), az_in 42 (by decide +kernel) (by decide +kernel)⟩
theorem okX2_roadCanBe : az_OV mX2_roadCanBe 3 := ⟨⟨az_in 407 (by decide +kernel) (by decide +kernel), az_in 102 (by decide +kernel) (by decide +kernel), ⟨by decide +kernel, by decide +kernel, by decide +kernel⟩, by decide +kernel⟩, az_in 406 (by decide +kernel) (by decide +kernel), az_in 3 (by decide +kernel) (by decide +kernel)⟩
theorem okX2_layRoad : az_OV mX2_layRoad 3 := ⟨⟨az_in 419 (by decide +kernel) (by decide +kernel), az_in 102 (by decide +kernel) (by decide +kernel), ⟨by decide +kernel, by decide +kernel, by decide +kernel⟩, by decide +kernel⟩, az_in 418 (by decide +kernel) (by decide +kernel), az_in 6 (by decide +kernel) (by decide +kernel)⟩
theorem okX2_besideBits : az_OV mX2_besideBits 1 := ⟨⟨az_in 489 (by decide +kernel) (by decide +kernel), az_in 102 (by decide +kernel) (by decide +kernel), ⟨by decide +kernel, by decide +kernel, by decide +kernel⟩, by decide +kernel⟩, az_in 488 (by decide +kernel) (by decide +kernel), az_in 13 (by decide +kernel) (by decide +kernel)⟩
theorem okX2_countRoads : az_OV mX2_countRoads 0 := ⟨⟨az_in 796 (by decide +kernel) (by decide +kernel), az_in 102 (by decide +kernel) (by decide +kernel), ⟨by decide +kernel, by decide +kernel, by decide +kernel⟩, by decide +kernel⟩, az_in 795 (by decide +kernel) (by decide +kernel), az_in 60 (by decide +kernel) (by decide +kernel)⟩
theorem okX2_need : az_OV mX2_need 0 := ⟨⟨az_in 469 (by decide +kernel) (by decide +kernel), az_in 102 (by decide +kernel) (by decide +kernel), ⟨by decide +kernel, by decide +kernel, by decide +kernel⟩, by decide +kernel⟩, az_in 468 (by decide +kernel) (by decide +kernel), az_in 10 (by decide +kernel) (by decide +kernel)⟩
theorem okX3_keep : az_OV mX3_keep 1 := ⟨⟨az_in 389 (by decide +kernel) (by decide +kernel), az_in 104 (by decide +kernel) (by decide +kernel), ⟨by decide +kernel, by decide +kernel, by decide +kernel⟩, by decide +kernel⟩, az_in 388 (by decide +kernel) (by decide +kernel), az_in 1 (by decide +kernel) (by decide +kernel)⟩
theorem okX3_goBack : az_OV mX3_goBack 2 := ⟨⟨az_in 819 (by decide +kernel) (by decide +kernel), az_in 104 (by decide +kernel) (by decide +kernel), ⟨by decide +kernel, by decide +kernel, by decide +kernel⟩, by decide +kernel⟩, az_in 818 (by decide +kernel) (by decide +kernel), az_in 64 (by decide +kernel) (by decide +kernel)⟩
theorem okX4_fewestRounds : az_OV mX4_fewestRounds 2 := ⟨⟨az_in 770 (by decide +kernel) (by decide +kernel), az_in 109 (by decide +kernel) (by decide +kernel), ⟨by decide +kernel, by decide +kernel, by decide +kernel⟩, by decide +kernel⟩, az_in 769 (by decide +kernel) (by decide +kernel), az_in 55 (by decide +kernel) (by decide +kernel)⟩
theorem okX4_prepare : az_OV mX4_prepare 2 := ⟨⟨az_in 775 (by decide +kernel) (by decide +kernel), az_in 109 (by decide +kernel) (by decide +kernel), ⟨by decide +kernel, by decide +kernel, by decide +kernel⟩, by decide +kernel⟩, az_in 774 (by decide +kernel) (by decide +kernel), az_in 56 (by decide +kernel) (by decide +kernel)⟩
theorem okX4_findInRound : az_OV mX4_findInRound 3 := ⟨⟨az_in 780 (by decide +kernel) (by decide +kernel), az_in 109 (by decide +kernel) (by decide +kernel), ⟨by decide +kernel, by decide +kernel, by decide +kernel⟩, by decide +kernel⟩, az_in 779 (by decide +kernel) (by decide +kernel), az_in 57 (by decide +kernel) (by decide +kernel)⟩
theorem okX4_someMarkFinds : az_OV mX4_someMarkFinds 3 := ⟨⟨az_in 784 (by decide +kernel) (by decide +kernel), az_in 109 (by decide +kernel) (by decide +kernel), ⟨by decide +kernel, by decide +kernel, by decide +kernel⟩, by decide +kernel⟩, az_in 783 (by decide +kernel) (by decide +kernel), az_in 58 (by decide +kernel) (by decide +kernel)⟩
theorem okX4_markFinds : az_OV mX4_markFinds 4 := ⟨⟨az_in 788 (by decide +kernel) (by decide +kernel), az_in 109 (by decide +kernel) (by decide +kernel), ⟨by decide +kernel, by decide +kernel, by decide +kernel⟩, by decide +kernel⟩, az_in 787 (by decide +kernel) (by decide +kernel), az_in 59 (by decide +kernel) (by decide +kernel)⟩
theorem okX5_look : az_OV mX5_look 1 := ⟨⟨az_in 485 (by decide +kernel) (by decide +kernel), az_in 106 (by decide +kernel) (by decide +kernel), ⟨by decide +kernel, by decide +kernel, by decide +kernel⟩, by decide +kernel⟩, az_in 484 (by decide +kernel) (by decide +kernel), az_in 12 (by decide +kernel) (by decide +kernel)⟩
theorem okX5_findWays : az_OV mX5_findWays 1 := ⟨⟨az_in 493 (by decide +kernel) (by decide +kernel), az_in 106 (by decide +kernel) (by decide +kernel), ⟨by decide +kernel, by decide +kernel, by decide +kernel⟩, by decide +kernel⟩, az_in 492 (by decide +kernel) (by decide +kernel), az_in 14 (by decide +kernel) (by decide +kernel)⟩
theorem okX5_shortenWays : az_OV mX5_shortenWays 2 := ⟨⟨az_in 499 (by decide +kernel) (by decide +kernel), az_in 106 (by decide +kernel) (by decide +kernel), ⟨by decide +kernel, by decide +kernel, by decide +kernel⟩, by decide +kernel⟩, az_in 498 (by decide +kernel) (by decide +kernel), az_in 15 (by decide +kernel) (by decide +kernel)⟩
theorem okX5_answerOf : az_OV mX5_answerOf 3 := ⟨⟨az_in 503 (by decide +kernel) (by decide +kernel), az_in 106 (by decide +kernel) (by decide +kernel), ⟨by decide +kernel, by decide +kernel, by decide +kernel⟩, by decide +kernel⟩, az_in 502 (by decide +kernel) (by decide +kernel), az_in 16 (by decide +kernel) (by decide +kernel)⟩
theorem okX5_groupPosts : az_OV mX5_groupPosts 1 := ⟨⟨az_in 507 (by decide +kernel) (by decide +kernel), az_in 106 (by decide +kernel) (by decide +kernel), ⟨by decide +kernel, by decide +kernel, by decide +kernel⟩, by decide +kernel⟩, az_in 506 (by decide +kernel) (by decide +kernel), az_in 17 (by decide +kernel) (by decide +kernel)⟩
theorem okX5_sameAnswer : az_OV mX5_sameAnswer 2 := ⟨⟨az_in 511 (by decide +kernel) (by decide +kernel), az_in 106 (by decide +kernel) (by decide +kernel), ⟨by decide +kernel, by decide +kernel, by decide +kernel⟩, by decide +kernel⟩, az_in 510 (by decide +kernel) (by decide +kernel), az_in 18 (by decide +kernel) (by decide +kernel)⟩
theorem okX5_findParters : az_OV mX5_findParters 0 := ⟨⟨az_in 515 (by decide +kernel) (by decide +kernel), az_in 106 (by decide +kernel) (by decide +kernel), ⟨by decide +kernel, by decide +kernel, by decide +kernel⟩, by decide +kernel⟩, az_in 514 (by decide +kernel) (by decide +kernel), az_in 19 (by decide +kernel) (by decide +kernel)⟩
theorem okX5_findYes : az_OV mX5_findYes 1 := ⟨⟨az_in 519 (by decide +kernel) (by decide +kernel), az_in 106 (by decide +kernel) (by decide +kernel), ⟨by decide +kernel, by decide +kernel, by decide +kernel⟩, by decide +kernel⟩, az_in 518 (by decide +kernel) (by decide +kernel), az_in 20 (by decide +kernel) (by decide +kernel)⟩
theorem okX5_countBeside : az_OV mX5_countBeside 1 := ⟨⟨az_in 806 (by decide +kernel) (by decide +kernel), az_in 106 (by decide +kernel) (by decide +kernel), ⟨by decide +kernel, by decide +kernel, by decide +kernel⟩, by decide +kernel⟩, az_in 805 (by decide +kernel) (by decide +kernel), az_in 62 (by decide +kernel) (by decide +kernel)⟩
theorem okX5_countReachedFrom : az_OV mX5_countReachedFrom 1 := ⟨⟨az_in 534 (by decide +kernel) (by decide +kernel), az_in 106 (by decide +kernel) (by decide +kernel), ⟨by decide +kernel, by decide +kernel, by decide +kernel⟩, by decide +kernel⟩, az_in 533 (by decide +kernel) (by decide +kernel), az_in 21 (by decide +kernel) (by decide +kernel)⟩
theorem okX5_leavesLessKnots : az_OV mX5_leavesLessKnots 0 := ⟨⟨az_in 802 (by decide +kernel) (by decide +kernel), az_in 106 (by decide +kernel) (by decide +kernel), ⟨by decide +kernel, by decide +kernel, by decide +kernel⟩, by decide +kernel⟩, az_in 801 (by decide +kernel) (by decide +kernel), az_in 61 (by decide +kernel) (by decide +kernel)⟩
theorem okX5_knotOfLeaf : az_OV mX5_knotOfLeaf 1 := ⟨⟨az_in 810 (by decide +kernel) (by decide +kernel), az_in 106 (by decide +kernel) (by decide +kernel), ⟨by decide +kernel, by decide +kernel, by decide +kernel⟩, by decide +kernel⟩, az_in 809 (by decide +kernel) (by decide +kernel), az_in 63 (by decide +kernel) (by decide +kernel)⟩
theorem okX5_areTwins : az_OV mX5_areTwins 2 := ⟨⟨az_in 579 (by decide +kernel) (by decide +kernel), az_in 106 (by decide +kernel) (by decide +kernel), ⟨by decide +kernel, by decide +kernel, by decide +kernel⟩, by decide +kernel⟩, az_in 578 (by decide +kernel) (by decide +kernel), az_in 27 (by decide +kernel) (by decide +kernel)⟩
theorem okX5_twinPair : az_OV mX5_twinPair 1 := ⟨⟨az_in 575 (by decide +kernel) (by decide +kernel), az_in 106 (by decide +kernel) (by decide +kernel), ⟨by decide +kernel, by decide +kernel, by decide +kernel⟩, by decide +kernel⟩, az_in 574 (by decide +kernel) (by decide +kernel), az_in 26 (by decide +kernel) (by decide +kernel)⟩
theorem okX5_pairLacks : az_OV mX5_pairLacks 4 := ⟨⟨az_in 562 (by decide +kernel) (by decide +kernel), az_in 106 (by decide +kernel) (by decide +kernel), ⟨by decide +kernel, by decide +kernel, by decide +kernel⟩, by decide +kernel⟩, az_in 561 (by decide +kernel) (by decide +kernel), az_in 24 (by decide +kernel) (by decide +kernel)⟩
theorem okX5_firstPairLacking : az_OV mX5_firstPairLacking 2 := ⟨⟨az_in 558 (by decide +kernel) (by decide +kernel), az_in 106 (by decide +kernel) (by decide +kernel), ⟨by decide +kernel, by decide +kernel, by decide +kernel⟩, by decide +kernel⟩, az_in 557 (by decide +kernel) (by decide +kernel), az_in 23 (by decide +kernel) (by decide +kernel)⟩
theorem okX5_countPairsLacking : az_OV mX5_countPairsLacking 2 := ⟨⟨az_in 674 (by decide +kernel) (by decide +kernel), az_in 106 (by decide +kernel) (by decide +kernel), ⟨by decide +kernel, by decide +kernel, by decide +kernel⟩, by decide +kernel⟩, az_in 673 (by decide +kernel) (by decide +kernel), az_in 41 (by decide +kernel) (by decide +kernel)⟩
theorem okX5_firstPostLacking : az_OV mX5_firstPostLacking 2 := ⟨⟨az_in 567 (by decide +kernel) (by decide +kernel), az_in 106 (by decide +kernel) (by decide +kernel), ⟨by decide +kernel, by decide +kernel, by decide +kernel⟩, by decide +kernel⟩, az_in 566 (by decide +kernel) (by decide +kernel), az_in 25 (by decide +kernel) (by decide +kernel)⟩
theorem okX5_countApartPairs : az_OV mX5_countApartPairs 0 := ⟨⟨az_in 642 (by decide +kernel) (by decide +kernel), az_in 106 (by decide +kernel) (by decide +kernel), ⟨by decide +kernel, by decide +kernel, by decide +kernel⟩, by decide +kernel⟩, az_in 641 (by decide +kernel) (by decide +kernel), az_in 35 (by decide +kernel) (by decide +kernel)⟩
theorem okX5_apartPair : az_OV mX5_apartPair 1 := ⟨⟨az_in 654 (by decide +kernel) (by decide +kernel), az_in 106 (by decide +kernel) (by decide +kernel), ⟨by decide +kernel, by decide +kernel, by decide +kernel⟩, by decide +kernel⟩, az_in 653 (by decide +kernel) (by decide +kernel), az_in 37 (by decide +kernel) (by decide +kernel)⟩
theorem okX5_goThroughApartPairs : az_OV mX5_goThroughApartPairs 2 := ⟨⟨az_in 646 (by decide +kernel) (by decide +kernel), az_in 106 (by decide +kernel) (by decide +kernel), ⟨by decide +kernel, by decide +kernel, by decide +kernel⟩, by decide +kernel⟩, az_in 645 (by decide +kernel) (by decide +kernel), az_in 36 (by decide +kernel) (by decide +kernel)⟩
theorem okX5_greedySet : az_OV mX5_greedySet 1 := ⟨⟨az_in 662 (by decide +kernel) (by decide +kernel), az_in 106 (by decide +kernel) (by decide +kernel), ⟨by decide +kernel, by decide +kernel, by decide +kernel⟩, by decide +kernel⟩, az_in 661 (by decide +kernel) (by decide +kernel), az_in 38 (by decide +kernel) (by decide +kernel)⟩
theorem okX5_markPartingMost : az_OV mX5_markPartingMost 2 := ⟨⟨az_in 666 (by decide +kernel) (by decide +kernel), az_in 106 (by decide +kernel) (by decide +kernel), ⟨by decide +kernel, by decide +kernel, by decide +kernel⟩, by decide +kernel⟩, az_in 665 (by decide +kernel) (by decide +kernel), az_in 39 (by decide +kernel) (by decide +kernel)⟩
theorem okX5_countLackingPartedBy : az_OV mX5_countLackingPartedBy 3 := ⟨⟨az_in 670 (by decide +kernel) (by decide +kernel), az_in 106 (by decide +kernel) (by decide +kernel), ⟨by decide +kernel, by decide +kernel, by decide +kernel⟩, by decide +kernel⟩, az_in 669 (by decide +kernel) (by decide +kernel), az_in 40 (by decide +kernel) (by decide +kernel)⟩
theorem okX6_hasRoomFor : az_OV mX6_hasRoomFor 1 := ⟨⟨az_in 433 (by decide +kernel) (by decide +kernel), az_in 105 (by decide +kernel) (by decide +kernel), ⟨by decide +kernel, by decide +kernel, by decide +kernel⟩, by decide +kernel⟩, az_in 432 (by decide +kernel) (by decide +kernel), az_in 7 (by decide +kernel) (by decide +kernel)⟩
theorem okX6_takeFour : az_OV mX6_takeFour 1 := ⟨⟨az_in 437 (by decide +kernel) (by decide +kernel), az_in 105 (by decide +kernel) (by decide +kernel), ⟨by decide +kernel, by decide +kernel, by decide +kernel⟩, by decide +kernel⟩, az_in 436 (by decide +kernel) (by decide +kernel), az_in 8 (by decide +kernel) (by decide +kernel)⟩
theorem okX6_byteAt : az_OV mX6_byteAt 1 := ⟨⟨az_in 445 (by decide +kernel) (by decide +kernel), az_in 105 (by decide +kernel) (by decide +kernel), ⟨by decide +kernel, by decide +kernel, by decide +kernel⟩, by decide +kernel⟩, az_in 444 (by decide +kernel) (by decide +kernel), az_in 9 (by decide +kernel) (by decide +kernel)⟩
theorem okX7_post : az_OV mX7_post 0 := ⟨⟨az_in 381 (by decide +kernel) (by decide +kernel), az_in 101 (by decide +kernel) (by decide +kernel), ⟨by decide +kernel, by decide +kernel, by decide +kernel⟩, by decide +kernel⟩, az_in 379 (by decide +kernel) (by decide +kernel), az_in 380 (by decide +kernel) (by decide +kernel)⟩
theorem okX7_road : az_OV mX7_road 3 := ⟨⟨az_in 403 (by decide +kernel) (by decide +kernel), az_in 101 (by decide +kernel) (by decide +kernel), ⟨by decide +kernel, by decide +kernel, by decide +kernel⟩, by decide +kernel⟩, az_in 401 (by decide +kernel) (by decide +kernel), az_in 402 (by decide +kernel) (by decide +kernel)⟩
theorem okX7_cut : az_OV mX7_cut 2 := ⟨⟨az_in 423 (by decide +kernel) (by decide +kernel), az_in 101 (by decide +kernel) (by decide +kernel), ⟨by decide +kernel, by decide +kernel, by decide +kernel⟩, by decide +kernel⟩, az_in 421 (by decide +kernel) (by decide +kernel), az_in 422 (by decide +kernel) (by decide +kernel)⟩
theorem okX7_feed : az_OV mX7_feed 5 := ⟨⟨az_in 429 (by decide +kernel) (by decide +kernel), az_in 101 (by decide +kernel) (by decide +kernel), ⟨by decide +kernel, by decide +kernel, by decide +kernel⟩, by decide +kernel⟩, az_in 427 (by decide +kernel) (by decide +kernel), az_in 428 (by decide +kernel) (by decide +kernel)⟩
theorem okX7_roads : az_OV mX7_roads 1 := ⟨⟨az_in 441 (by decide +kernel) (by decide +kernel), az_in 101 (by decide +kernel) (by decide +kernel), ⟨by decide +kernel, by decide +kernel, by decide +kernel⟩, by decide +kernel⟩, az_in 439 (by decide +kernel) (by decide +kernel), az_in 440 (by decide +kernel) (by decide +kernel)⟩
theorem okX7_reach : az_OV mX7_reach 2 := ⟨⟨az_in 449 (by decide +kernel) (by decide +kernel), az_in 101 (by decide +kernel) (by decide +kernel), ⟨by decide +kernel, by decide +kernel, by decide +kernel⟩, by decide +kernel⟩, az_in 447 (by decide +kernel) (by decide +kernel), az_in 448 (by decide +kernel) (by decide +kernel)⟩
theorem okX7_price : az_OV mX7_price 2 := ⟨⟨az_in 453 (by decide +kernel) (by decide +kernel), az_in 101 (by decide +kernel) (by decide +kernel), ⟨by decide +kernel, by decide +kernel, by decide +kernel⟩, by decide +kernel⟩, az_in 451 (by decide +kernel) (by decide +kernel), az_in 452 (by decide +kernel) (by decide +kernel)⟩
theorem okX7_chance : az_OV mX7_chance 2 := ⟨⟨az_in 457 (by decide +kernel) (by decide +kernel), az_in 101 (by decide +kernel) (by decide +kernel), ⟨by decide +kernel, by decide +kernel, by decide +kernel⟩, by decide +kernel⟩, az_in 455 (by decide +kernel) (by decide +kernel), az_in 456 (by decide +kernel) (by decide +kernel)⟩
theorem okX7_rule : az_OV mX7_rule 2 := ⟨⟨az_in 461 (by decide +kernel) (by decide +kernel), az_in 101 (by decide +kernel) (by decide +kernel), ⟨by decide +kernel, by decide +kernel, by decide +kernel⟩, by decide +kernel⟩, az_in 459 (by decide +kernel) (by decide +kernel), az_in 460 (by decide +kernel) (by decide +kernel)⟩
theorem okX7_may : az_OV mX7_may 2 := ⟨⟨az_in 465 (by decide +kernel) (by decide +kernel), az_in 101 (by decide +kernel) (by decide +kernel), ⟨by decide +kernel, by decide +kernel, by decide +kernel⟩, by decide +kernel⟩, az_in 463 (by decide +kernel) (by decide +kernel), az_in 464 (by decide +kernel) (by decide +kernel)⟩
theorem okX7_want : az_OV mX7_want 1 := ⟨⟨az_in 473 (by decide +kernel) (by decide +kernel), az_in 101 (by decide +kernel) (by decide +kernel), ⟨by decide +kernel, by decide +kernel, by decide +kernel⟩, by decide +kernel⟩, az_in 471 (by decide +kernel) (by decide +kernel), az_in 472 (by decide +kernel) (by decide +kernel)⟩
theorem okX7_way : az_OV mX7_way 2 := ⟨⟨az_in 477 (by decide +kernel) (by decide +kernel), az_in 101 (by decide +kernel) (by decide +kernel), ⟨by decide +kernel, by decide +kernel, by decide +kernel⟩, by decide +kernel⟩, az_in 475 (by decide +kernel) (by decide +kernel), az_in 476 (by decide +kernel) (by decide +kernel)⟩
theorem okX7_of : az_OV mX7_of 2 := ⟨⟨az_in 523 (by decide +kernel) (by decide +kernel), az_in 101 (by decide +kernel) (by decide +kernel), ⟨by decide +kernel, by decide +kernel, by decide +kernel⟩, by decide +kernel⟩, az_in 521 (by decide +kernel) (by decide +kernel), az_in 522 (by decide +kernel) (by decide +kernel)⟩
theorem okX7_answer : az_OV mX7_answer 2 := ⟨⟨az_in 538 (by decide +kernel) (by decide +kernel), az_in 101 (by decide +kernel) (by decide +kernel), ⟨by decide +kernel, by decide +kernel, by decide +kernel⟩, by decide +kernel⟩, az_in 536 (by decide +kernel) (by decide +kernel), az_in 537 (by decide +kernel) (by decide +kernel)⟩
theorem okX7_parts : az_OV mX7_parts 3 := ⟨⟨az_in 542 (by decide +kernel) (by decide +kernel), az_in 101 (by decide +kernel) (by decide +kernel), ⟨by decide +kernel, by decide +kernel, by decide +kernel⟩, by decide +kernel⟩, az_in 540 (by decide +kernel) (by decide +kernel), az_in 541 (by decide +kernel) (by decide +kernel)⟩
theorem okX7_clash : az_OV mX7_clash 1 := ⟨⟨az_in 554 (by decide +kernel) (by decide +kernel), az_in 101 (by decide +kernel) (by decide +kernel), ⟨by decide +kernel, by decide +kernel, by decide +kernel⟩, by decide +kernel⟩, az_in 552 (by decide +kernel) (by decide +kernel), az_in 553 (by decide +kernel) (by decide +kernel)⟩
theorem okX7_twins : az_OV mX7_twins 1 := ⟨⟨az_in 571 (by decide +kernel) (by decide +kernel), az_in 101 (by decide +kernel) (by decide +kernel), ⟨by decide +kernel, by decide +kernel, by decide +kernel⟩, by decide +kernel⟩, az_in 569 (by decide +kernel) (by decide +kernel), az_in 570 (by decide +kernel) (by decide +kernel)⟩
theorem okX7_least : az_OV mX7_least 0 := ⟨⟨az_in 585 (by decide +kernel) (by decide +kernel), az_in 101 (by decide +kernel) (by decide +kernel), ⟨by decide +kernel, by decide +kernel, by decide +kernel⟩, by decide +kernel⟩, az_in 583 (by decide +kernel) (by decide +kernel), az_in 584 (by decide +kernel) (by decide +kernel)⟩
theorem okX7_every : az_OV mX7_every 0 := ⟨⟨az_in 626 (by decide +kernel) (by decide +kernel), az_in 101 (by decide +kernel) (by decide +kernel), ⟨by decide +kernel, by decide +kernel, by decide +kernel⟩, by decide +kernel⟩, az_in 624 (by decide +kernel) (by decide +kernel), az_in 625 (by decide +kernel) (by decide +kernel)⟩
theorem okX7_cheapest : az_OV mX7_cheapest 0 := ⟨⟨az_in 630 (by decide +kernel) (by decide +kernel), az_in 101 (by decide +kernel) (by decide +kernel), ⟨by decide +kernel, by decide +kernel, by decide +kernel⟩, by decide +kernel⟩, az_in 628 (by decide +kernel) (by decide +kernel), az_in 629 (by decide +kernel) (by decide +kernel)⟩
theorem okX7_set : az_OV mX7_set 0 := ⟨⟨az_in 634 (by decide +kernel) (by decide +kernel), az_in 101 (by decide +kernel) (by decide +kernel), ⟨by decide +kernel, by decide +kernel, by decide +kernel⟩, by decide +kernel⟩, az_in 632 (by decide +kernel) (by decide +kernel), az_in 633 (by decide +kernel) (by decide +kernel)⟩
theorem okX7_shown : az_OV mX7_shown 0 := ⟨⟨az_in 638 (by decide +kernel) (by decide +kernel), az_in 101 (by decide +kernel) (by decide +kernel), ⟨by decide +kernel, by decide +kernel, by decide +kernel⟩, by decide +kernel⟩, az_in 636 (by decide +kernel) (by decide +kernel), az_in 637 (by decide +kernel) (by decide +kernel)⟩
theorem okX7_pair : az_OV mX7_pair 1 := ⟨⟨az_in 650 (by decide +kernel) (by decide +kernel), az_in 101 (by decide +kernel) (by decide +kernel), ⟨by decide +kernel, by decide +kernel, by decide +kernel⟩, by decide +kernel⟩, az_in 648 (by decide +kernel) (by decide +kernel), az_in 649 (by decide +kernel) (by decide +kernel)⟩
theorem okX7_greedy : az_OV mX7_greedy 0 := ⟨⟨az_in 658 (by decide +kernel) (by decide +kernel), az_in 101 (by decide +kernel) (by decide +kernel), ⟨by decide +kernel, by decide +kernel, by decide +kernel⟩, by decide +kernel⟩, az_in 656 (by decide +kernel) (by decide +kernel), az_in 657 (by decide +kernel) (by decide +kernel)⟩
theorem okX7_word : az_OV mX7_word 2 := ⟨⟨az_in 678 (by decide +kernel) (by decide +kernel), az_in 101 (by decide +kernel) (by decide +kernel), ⟨by decide +kernel, by decide +kernel, by decide +kernel⟩, by decide +kernel⟩, az_in 676 (by decide +kernel) (by decide +kernel), az_in 677 (by decide +kernel) (by decide +kernel)⟩
theorem okX7_clear : az_OV mX7_clear 0 := ⟨⟨az_in 686 (by decide +kernel) (by decide +kernel), az_in 101 (by decide +kernel) (by decide +kernel), ⟨by decide +kernel, by decide +kernel, by decide +kernel⟩, by decide +kernel⟩, az_in 684 (by decide +kernel) (by decide +kernel), az_in 685 (by decide +kernel) (by decide +kernel)⟩
theorem okX7_fits : az_OV mX7_fits 0 := ⟨⟨az_in 690 (by decide +kernel) (by decide +kernel), az_in 101 (by decide +kernel) (by decide +kernel), ⟨by decide +kernel, by decide +kernel, by decide +kernel⟩, by decide +kernel⟩, az_in 688 (by decide +kernel) (by decide +kernel), az_in 689 (by decide +kernel) (by decide +kernel)⟩
theorem okX7_where : az_OV mX7_where 1 := ⟨⟨az_in 702 (by decide +kernel) (by decide +kernel), az_in 101 (by decide +kernel) (by decide +kernel), ⟨by decide +kernel, by decide +kernel, by decide +kernel⟩, by decide +kernel⟩, az_in 700 (by decide +kernel) (by decide +kernel), az_in 701 (by decide +kernel) (by decide +kernel)⟩
theorem okX7_against : az_OV mX7_against 1 := ⟨⟨az_in 706 (by decide +kernel) (by decide +kernel), az_in 101 (by decide +kernel) (by decide +kernel), ⟨by decide +kernel, by decide +kernel, by decide +kernel⟩, by decide +kernel⟩, az_in 704 (by decide +kernel) (by decide +kernel), az_in 705 (by decide +kernel) (by decide +kernel)⟩
theorem okX7_worst : az_OV mX7_worst 1 := ⟨⟨az_in 710 (by decide +kernel) (by decide +kernel), az_in 101 (by decide +kernel) (by decide +kernel), ⟨by decide +kernel, by decide +kernel, by decide +kernel⟩, by decide +kernel⟩, az_in 708 (by decide +kernel) (by decide +kernel), az_in 709 (by decide +kernel) (by decide +kernel)⟩
theorem okX7_next : az_OV mX7_next 1 := ⟨⟨az_in 754 (by decide +kernel) (by decide +kernel), az_in 101 (by decide +kernel) (by decide +kernel), ⟨by decide +kernel, by decide +kernel, by decide +kernel⟩, by decide +kernel⟩, az_in 752 (by decide +kernel) (by decide +kernel), az_in 753 (by decide +kernel) (by decide +kernel)⟩
theorem okX7_mean : az_OV mX7_mean 1 := ⟨⟨az_in 762 (by decide +kernel) (by decide +kernel), az_in 101 (by decide +kernel) (by decide +kernel), ⟨by decide +kernel, by decide +kernel, by decide +kernel⟩, by decide +kernel⟩, az_in 760 (by decide +kernel) (by decide +kernel), az_in 761 (by decide +kernel) (by decide +kernel)⟩
theorem okX7_seek : az_OV mX7_seek 1 := ⟨⟨az_in 766 (by decide +kernel) (by decide +kernel), az_in 101 (by decide +kernel) (by decide +kernel), ⟨by decide +kernel, by decide +kernel, by decide +kernel⟩, by decide +kernel⟩, az_in 764 (by decide +kernel) (by decide +kernel), az_in 765 (by decide +kernel) (by decide +kernel)⟩
theorem okX7_tree : az_OV mX7_tree 0 := ⟨⟨az_in 792 (by decide +kernel) (by decide +kernel), az_in 101 (by decide +kernel) (by decide +kernel), ⟨by decide +kernel, by decide +kernel, by decide +kernel⟩, by decide +kernel⟩, az_in 790 (by decide +kernel) (by decide +kernel), az_in 791 (by decide +kernel) (by decide +kernel)⟩
theorem okX7_undo : az_OV mX7_undo 1 := ⟨⟨az_in 815 (by decide +kernel) (by decide +kernel), az_in 101 (by decide +kernel) (by decide +kernel), ⟨by decide +kernel, by decide +kernel, by decide +kernel⟩, by decide +kernel⟩, az_in 813 (by decide +kernel) (by decide +kernel), az_in 814 (by decide +kernel) (by decide +kernel)⟩
theorem okX7_about : az_OV mX7_about 1 := ⟨⟨az_in 826 (by decide +kernel) (by decide +kernel), az_in 101 (by decide +kernel) (by decide +kernel), ⟨by decide +kernel, by decide +kernel, by decide +kernel⟩, by decide +kernel⟩, az_in 824 (by decide +kernel) (by decide +kernel), az_in 825 (by decide +kernel) (by decide +kernel)⟩
theorem okX7_beforeAct : az_OV mX7_beforeAct 0 := ⟨⟨az_in 385 (by decide +kernel) (by decide +kernel), az_in 101 (by decide +kernel) (by decide +kernel), ⟨by decide +kernel, by decide +kernel, by decide +kernel⟩, by decide +kernel⟩, az_in 384 (by decide +kernel) (by decide +kernel), az_in 0 (by decide +kernel) (by decide +kernel)⟩
theorem okX7_freshSight : az_OV mX7_freshSight 0 := ⟨⟨az_in 481 (by decide +kernel) (by decide +kernel), az_in 101 (by decide +kernel) (by decide +kernel), ⟨by decide +kernel, by decide +kernel, by decide +kernel⟩, by decide +kernel⟩, az_in 480 (by decide +kernel) (by decide +kernel), az_in 11 (by decide +kernel) (by decide +kernel)⟩
theorem okX7_tellChoice : az_OV mX7_tellChoice 0 := ⟨⟨az_in 622 (by decide +kernel) (by decide +kernel), az_in 101 (by decide +kernel) (by decide +kernel), ⟨by decide +kernel, by decide +kernel, by decide +kernel⟩, by decide +kernel⟩, az_in 621 (by decide +kernel) (by decide +kernel), az_in 34 (by decide +kernel) (by decide +kernel)⟩
theorem okX7_wordsAgainst : az_OV mX7_wordsAgainst 1 := ⟨⟨az_in 698 (by decide +kernel) (by decide +kernel), az_in 101 (by decide +kernel) (by decide +kernel), ⟨by decide +kernel, by decide +kernel, by decide +kernel⟩, by decide +kernel⟩, az_in 697 (by decide +kernel) (by decide +kernel), az_in 44 (by decide +kernel) (by decide +kernel)⟩
theorem okX7_fitsWords : az_OV mX7_fitsWords 1 := ⟨⟨az_in 694 (by decide +kernel) (by decide +kernel), az_in 101 (by decide +kernel) (by decide +kernel), ⟨by decide +kernel, by decide +kernel, by decide +kernel⟩, by decide +kernel⟩, az_in 693 (by decide +kernel) (by decide +kernel), az_in 43 (by decide +kernel) (by decide +kernel)⟩
theorem okX7_canBeAsked : az_OV mX7_canBeAsked 1 := ⟨⟨az_in 714 (by decide +kernel) (by decide +kernel), az_in 101 (by decide +kernel) (by decide +kernel), ⟨by decide +kernel, by decide +kernel, by decide +kernel⟩, by decide +kernel⟩, az_in 713 (by decide +kernel) (by decide +kernel), az_in 45 (by decide +kernel) (by decide +kernel)⟩
theorem okX8_first : az_OV mX8_first 1 := ⟨⟨az_in 838 (by decide +kernel) (by decide +kernel), az_in 110 (by decide +kernel) (by decide +kernel), ⟨by decide +kernel, by decide +kernel, by decide +kernel⟩, by decide +kernel⟩, az_in 837 (by decide +kernel) (by decide +kernel), az_in 65 (by decide +kernel) (by decide +kernel)⟩
theorem okX8_act : az_OV mX8_act 0 := ⟨⟨az_in 916 (by decide +kernel) (by decide +kernel), az_in 110 (by decide +kernel) (by decide +kernel), ⟨by decide +kernel, by decide +kernel, by decide +kernel⟩, by decide +kernel⟩, az_in 915 (by decide +kernel) (by decide +kernel), az_in 70 (by decide +kernel) (by decide +kernel)⟩
theorem okX8_undo : az_OV mX8_undo 1 := ⟨⟨az_in 908 (by decide +kernel) (by decide +kernel), az_in 110 (by decide +kernel) (by decide +kernel), ⟨by decide +kernel, by decide +kernel, by decide +kernel⟩, by decide +kernel⟩, az_in 906 (by decide +kernel) (by decide +kernel), az_in 907 (by decide +kernel) (by decide +kernel)⟩
theorem okX8_n : az_OV mX8_n 0 := ⟨⟨az_in 851 (by decide +kernel) (by decide +kernel), az_in 110 (by decide +kernel) (by decide +kernel), ⟨by decide +kernel, by decide +kernel, by decide +kernel⟩, by decide +kernel⟩, az_in 850 (by decide +kernel) (by decide +kernel), az_in 68 (by decide +kernel) (by decide +kernel)⟩
theorem okX8_isPost : az_OV mX8_isPost 1 := ⟨⟨az_in 928 (by decide +kernel) (by decide +kernel), az_in 110 (by decide +kernel) (by decide +kernel), ⟨by decide +kernel, by decide +kernel, by decide +kernel⟩, by decide +kernel⟩, az_in 927 (by decide +kernel) (by decide +kernel), az_in 72 (by decide +kernel) (by decide +kernel)⟩
theorem okX8_isSet : az_OV mX8_isSet 1 := ⟨⟨az_in 1007 (by decide +kernel) (by decide +kernel), az_in 110 (by decide +kernel) (by decide +kernel), ⟨by decide +kernel, by decide +kernel, by decide +kernel⟩, by decide +kernel⟩, az_in 1006 (by decide +kernel) (by decide +kernel), az_in 78 (by decide +kernel) (by decide +kernel)⟩
theorem okX8_length : az_OV mX8_length 2 := ⟨⟨az_in 846 (by decide +kernel) (by decide +kernel), az_in 110 (by decide +kernel) (by decide +kernel), ⟨by decide +kernel, by decide +kernel, by decide +kernel⟩, by decide +kernel⟩, az_in 845 (by decide +kernel) (by decide +kernel), az_in 67 (by decide +kernel) (by decide +kernel)⟩
theorem okX8_isRoad : az_OV mX8_isRoad 3 := ⟨⟨az_in 924 (by decide +kernel) (by decide +kernel), az_in 110 (by decide +kernel) (by decide +kernel), ⟨by decide +kernel, by decide +kernel, by decide +kernel⟩, by decide +kernel⟩, az_in 923 (by decide +kernel) (by decide +kernel), az_in 71 (by decide +kernel) (by decide +kernel)⟩
theorem okX8_lay : az_OV mX8_lay 3 := ⟨⟨az_in 932 (by decide +kernel) (by decide +kernel), az_in 110 (by decide +kernel) (by decide +kernel), ⟨by decide +kernel, by decide +kernel, by decide +kernel⟩, by decide +kernel⟩, az_in 931 (by decide +kernel) (by decide +kernel), az_in 73 (by decide +kernel) (by decide +kernel)⟩
theorem okX8_walk : az_OV mX8_walk 0 := ⟨⟨az_in 842 (by decide +kernel) (by decide +kernel), az_in 110 (by decide +kernel) (by decide +kernel), ⟨by decide +kernel, by decide +kernel, by decide +kernel⟩, by decide +kernel⟩, az_in 841 (by decide +kernel) (by decide +kernel), az_in 66 (by decide +kernel) (by decide +kernel)⟩
theorem okX8_says : az_OV mX8_says 2 := ⟨⟨az_in 855 (by decide +kernel) (by decide +kernel), az_in 110 (by decide +kernel) (by decide +kernel), ⟨by decide +kernel, by decide +kernel, by decide +kernel⟩, by decide +kernel⟩, az_in 854 (by decide +kernel) (by decide +kernel), az_in 69 (by decide +kernel) (by decide +kernel)⟩
theorem okX8_answerOf : az_OV mX8_answerOf 2 := ⟨⟨az_in 999 (by decide +kernel) (by decide +kernel), az_in 110 (by decide +kernel) (by decide +kernel), ⟨by decide +kernel, by decide +kernel, by decide +kernel⟩, by decide +kernel⟩, az_in 998 (by decide +kernel) (by decide +kernel), az_in 77 (by decide +kernel) (by decide +kernel)⟩
theorem okX8_post : az_OV mX8_post 0 := ⟨⟨az_in 912 (by decide +kernel) (by decide +kernel), az_in 110 (by decide +kernel) (by decide +kernel), ⟨by decide +kernel, by decide +kernel, by decide +kernel⟩, by decide +kernel⟩, az_in 910 (by decide +kernel) (by decide +kernel), az_in 911 (by decide +kernel) (by decide +kernel)⟩
theorem okX8_road : az_OV mX8_road 3 := ⟨⟨az_in 920 (by decide +kernel) (by decide +kernel), az_in 110 (by decide +kernel) (by decide +kernel), ⟨by decide +kernel, by decide +kernel, by decide +kernel⟩, by decide +kernel⟩, az_in 918 (by decide +kernel) (by decide +kernel), az_in 919 (by decide +kernel) (by decide +kernel)⟩
theorem okX8_cut : az_OV mX8_cut 2 := ⟨⟨az_in 936 (by decide +kernel) (by decide +kernel), az_in 110 (by decide +kernel) (by decide +kernel), ⟨by decide +kernel, by decide +kernel, by decide +kernel⟩, by decide +kernel⟩, az_in 934 (by decide +kernel) (by decide +kernel), az_in 935 (by decide +kernel) (by decide +kernel)⟩
theorem okX8_feed : az_OV mX8_feed 5 := ⟨⟨az_in 940 (by decide +kernel) (by decide +kernel), az_in 110 (by decide +kernel) (by decide +kernel), ⟨by decide +kernel, by decide +kernel, by decide +kernel⟩, by decide +kernel⟩, az_in 938 (by decide +kernel) (by decide +kernel), az_in 939 (by decide +kernel) (by decide +kernel)⟩
theorem okX8_four : az_OV mX8_four 1 := ⟨⟨az_in 944 (by decide +kernel) (by decide +kernel), az_in 110 (by decide +kernel) (by decide +kernel), ⟨by decide +kernel, by decide +kernel, by decide +kernel⟩, by decide +kernel⟩, az_in 943 (by decide +kernel) (by decide +kernel), az_in 74 (by decide +kernel) (by decide +kernel)⟩
theorem okX8_roads : az_OV mX8_roads 1 := ⟨⟨az_in 948 (by decide +kernel) (by decide +kernel), az_in 110 (by decide +kernel) (by decide +kernel), ⟨by decide +kernel, by decide +kernel, by decide +kernel⟩, by decide +kernel⟩, az_in 946 (by decide +kernel) (by decide +kernel), az_in 947 (by decide +kernel) (by decide +kernel)⟩
theorem okX8_reach : az_OV mX8_reach 2 := ⟨⟨az_in 952 (by decide +kernel) (by decide +kernel), az_in 110 (by decide +kernel) (by decide +kernel), ⟨by decide +kernel, by decide +kernel, by decide +kernel⟩, by decide +kernel⟩, az_in 950 (by decide +kernel) (by decide +kernel), az_in 951 (by decide +kernel) (by decide +kernel)⟩
theorem okX8_price : az_OV mX8_price 2 := ⟨⟨az_in 956 (by decide +kernel) (by decide +kernel), az_in 110 (by decide +kernel) (by decide +kernel), ⟨by decide +kernel, by decide +kernel, by decide +kernel⟩, by decide +kernel⟩, az_in 954 (by decide +kernel) (by decide +kernel), az_in 955 (by decide +kernel) (by decide +kernel)⟩
theorem okX8_chance : az_OV mX8_chance 2 := ⟨⟨az_in 960 (by decide +kernel) (by decide +kernel), az_in 110 (by decide +kernel) (by decide +kernel), ⟨by decide +kernel, by decide +kernel, by decide +kernel⟩, by decide +kernel⟩, az_in 958 (by decide +kernel) (by decide +kernel), az_in 959 (by decide +kernel) (by decide +kernel)⟩
theorem okX8_rule : az_OV mX8_rule 2 := ⟨⟨az_in 964 (by decide +kernel) (by decide +kernel), az_in 110 (by decide +kernel) (by decide +kernel), ⟨by decide +kernel, by decide +kernel, by decide +kernel⟩, by decide +kernel⟩, az_in 962 (by decide +kernel) (by decide +kernel), az_in 963 (by decide +kernel) (by decide +kernel)⟩
theorem okX8_need : az_OV mX8_need 0 := ⟨⟨az_in 972 (by decide +kernel) (by decide +kernel), az_in 110 (by decide +kernel) (by decide +kernel), ⟨by decide +kernel, by decide +kernel, by decide +kernel⟩, by decide +kernel⟩, az_in 971 (by decide +kernel) (by decide +kernel), az_in 75 (by decide +kernel) (by decide +kernel)⟩
theorem okX8_may : az_OV mX8_may 2 := ⟨⟨az_in 968 (by decide +kernel) (by decide +kernel), az_in 110 (by decide +kernel) (by decide +kernel), ⟨by decide +kernel, by decide +kernel, by decide +kernel⟩, by decide +kernel⟩, az_in 966 (by decide +kernel) (by decide +kernel), az_in 967 (by decide +kernel) (by decide +kernel)⟩
theorem okX8_want : az_OV mX8_want 1 := ⟨⟨az_in 976 (by decide +kernel) (by decide +kernel), az_in 110 (by decide +kernel) (by decide +kernel), ⟨by decide +kernel, by decide +kernel, by decide +kernel⟩, by decide +kernel⟩, az_in 974 (by decide +kernel) (by decide +kernel), az_in 975 (by decide +kernel) (by decide +kernel)⟩
theorem okX8_way : az_OV mX8_way 2 := ⟨⟨az_in 980 (by decide +kernel) (by decide +kernel), az_in 110 (by decide +kernel) (by decide +kernel), ⟨by decide +kernel, by decide +kernel, by decide +kernel⟩, by decide +kernel⟩, az_in 978 (by decide +kernel) (by decide +kernel), az_in 979 (by decide +kernel) (by decide +kernel)⟩
theorem okX8_besideBits : az_OV mX8_besideBits 1 := ⟨⟨az_in 988 (by decide +kernel) (by decide +kernel), az_in 110 (by decide +kernel) (by decide +kernel), ⟨by decide +kernel, by decide +kernel, by decide +kernel⟩, by decide +kernel⟩, az_in 987 (by decide +kernel) (by decide +kernel), az_in 76 (by decide +kernel) (by decide +kernel)⟩
theorem okX8_many : az_OS mX8_many 1 := ⟨⟨az_in 991 (by decide +kernel) (by decide +kernel), az_in 110 (by decide +kernel) (by decide +kernel), ⟨by decide +kernel, by decide +kernel, by decide +kernel⟩, by decide +kernel⟩, az_in 990 (by decide +kernel) (by decide +kernel)⟩
theorem okX8_of : az_OV mX8_of 2 := ⟨⟨az_in 984 (by decide +kernel) (by decide +kernel), az_in 110 (by decide +kernel) (by decide +kernel), ⟨by decide +kernel, by decide +kernel, by decide +kernel⟩, by decide +kernel⟩, az_in 982 (by decide +kernel) (by decide +kernel), az_in 983 (by decide +kernel) (by decide +kernel)⟩
theorem okX8_answer : az_OV mX8_answer 2 := ⟨⟨az_in 995 (by decide +kernel) (by decide +kernel), az_in 110 (by decide +kernel) (by decide +kernel), ⟨by decide +kernel, by decide +kernel, by decide +kernel⟩, by decide +kernel⟩, az_in 993 (by decide +kernel) (by decide +kernel), az_in 994 (by decide +kernel) (by decide +kernel)⟩
theorem okX8_isParting : az_OV mX8_isParting 3 := ⟨⟨az_in 1015 (by decide +kernel) (by decide +kernel), az_in 110 (by decide +kernel) (by decide +kernel), ⟨by decide +kernel, by decide +kernel, by decide +kernel⟩, by decide +kernel⟩, az_in 1014 (by decide +kernel) (by decide +kernel), az_in 80 (by decide +kernel) (by decide +kernel)⟩
theorem okX8_parting : az_OV mX8_parting 2 := ⟨⟨az_in 1011 (by decide +kernel) (by decide +kernel), az_in 110 (by decide +kernel) (by decide +kernel), ⟨by decide +kernel, by decide +kernel, by decide +kernel⟩, by decide +kernel⟩, az_in 1010 (by decide +kernel) (by decide +kernel), az_in 79 (by decide +kernel) (by decide +kernel)⟩
theorem okX8_areTwins : az_OV mX8_areTwins 2 := ⟨⟨az_in 1043 (by decide +kernel) (by decide +kernel), az_in 110 (by decide +kernel) (by decide +kernel), ⟨by decide +kernel, by decide +kernel, by decide +kernel⟩, by decide +kernel⟩, az_in 1042 (by decide +kernel) (by decide +kernel), az_in 85 (by decide +kernel) (by decide +kernel)⟩
theorem okX8_isYes : az_OV mX8_isYes 2 := ⟨⟨az_in 1031 (by decide +kernel) (by decide +kernel), az_in 110 (by decide +kernel) (by decide +kernel), ⟨by decide +kernel, by decide +kernel, by decide +kernel⟩, by decide +kernel⟩, az_in 1030 (by decide +kernel) (by decide +kernel), az_in 83 (by decide +kernel) (by decide +kernel)⟩
theorem okX8_yes : az_OV mX8_yes 1 := ⟨⟨az_in 1027 (by decide +kernel) (by decide +kernel), az_in 110 (by decide +kernel) (by decide +kernel), ⟨by decide +kernel, by decide +kernel, by decide +kernel⟩, by decide +kernel⟩, az_in 1026 (by decide +kernel) (by decide +kernel), az_in 82 (by decide +kernel) (by decide +kernel)⟩
theorem okX8_parts : az_OV mX8_parts 3 := ⟨⟨az_in 1003 (by decide +kernel) (by decide +kernel), az_in 110 (by decide +kernel) (by decide +kernel), ⟨by decide +kernel, by decide +kernel, by decide +kernel⟩, by decide +kernel⟩, az_in 1001 (by decide +kernel) (by decide +kernel), az_in 1002 (by decide +kernel) (by decide +kernel)⟩
theorem okX8_gather : az_OV mX8_gather 0 := ⟨⟨az_in 1023 (by decide +kernel) (by decide +kernel), az_in 110 (by decide +kernel) (by decide +kernel), ⟨by decide +kernel, by decide +kernel, by decide +kernel⟩, by decide +kernel⟩, az_in 1022 (by decide +kernel) (by decide +kernel), az_in 81 (by decide +kernel) (by decide +kernel)⟩
theorem okX8_clashOf : az_OV mX8_clashOf 1 := ⟨⟨az_in 1035 (by decide +kernel) (by decide +kernel), az_in 110 (by decide +kernel) (by decide +kernel), ⟨by decide +kernel, by decide +kernel, by decide +kernel⟩, by decide +kernel⟩, az_in 1034 (by decide +kernel) (by decide +kernel), az_in 84 (by decide +kernel) (by decide +kernel)⟩
theorem okX8_clash : az_OV mX8_clash 1 := ⟨⟨az_in 1019 (by decide +kernel) (by decide +kernel), az_in 110 (by decide +kernel) (by decide +kernel), ⟨by decide +kernel, by decide +kernel, by decide +kernel⟩, by decide +kernel⟩, az_in 1017 (by decide +kernel) (by decide +kernel), az_in 1018 (by decide +kernel) (by decide +kernel)⟩
theorem okX8_twins : az_OV mX8_twins 1 := ⟨⟨az_in 1039 (by decide +kernel) (by decide +kernel), az_in 110 (by decide +kernel) (by decide +kernel), ⟨by decide +kernel, by decide +kernel, by decide +kernel⟩, by decide +kernel⟩, az_in 1037 (by decide +kernel) (by decide +kernel), az_in 1038 (by decide +kernel) (by decide +kernel)⟩
theorem okX8_best : az_OV mX8_best 1 := ⟨⟨az_in 1051 (by decide +kernel) (by decide +kernel), az_in 110 (by decide +kernel) (by decide +kernel), ⟨by decide +kernel, by decide +kernel, by decide +kernel⟩, by decide +kernel⟩, az_in 1050 (by decide +kernel) (by decide +kernel), az_in 86 (by decide +kernel) (by decide +kernel)⟩
theorem okX8_price_ : az_OV mX8_price_ 1 := ⟨⟨az_in 1055 (by decide +kernel) (by decide +kernel), az_in 110 (by decide +kernel) (by decide +kernel), ⟨by decide +kernel, by decide +kernel, by decide +kernel⟩, by decide +kernel⟩, az_in 1054 (by decide +kernel) (by decide +kernel), az_in 87 (by decide +kernel) (by decide +kernel)⟩
theorem okX8_least : az_OV mX8_least 0 := ⟨⟨az_in 1047 (by decide +kernel) (by decide +kernel), az_in 110 (by decide +kernel) (by decide +kernel), ⟨by decide +kernel, by decide +kernel, by decide +kernel⟩, by decide +kernel⟩, az_in 1045 (by decide +kernel) (by decide +kernel), az_in 1046 (by decide +kernel) (by decide +kernel)⟩
theorem okX8_every : az_OV mX8_every 0 := ⟨⟨az_in 1059 (by decide +kernel) (by decide +kernel), az_in 110 (by decide +kernel) (by decide +kernel), ⟨by decide +kernel, by decide +kernel, by decide +kernel⟩, by decide +kernel⟩, az_in 1057 (by decide +kernel) (by decide +kernel), az_in 1058 (by decide +kernel) (by decide +kernel)⟩
theorem okX8_cheapest : az_OV mX8_cheapest 0 := ⟨⟨az_in 1063 (by decide +kernel) (by decide +kernel), az_in 110 (by decide +kernel) (by decide +kernel), ⟨by decide +kernel, by decide +kernel, by decide +kernel⟩, by decide +kernel⟩, az_in 1061 (by decide +kernel) (by decide +kernel), az_in 1062 (by decide +kernel) (by decide +kernel)⟩
theorem okX8_set : az_OV mX8_set 0 := ⟨⟨az_in 1067 (by decide +kernel) (by decide +kernel), az_in 110 (by decide +kernel) (by decide +kernel), ⟨by decide +kernel, by decide +kernel, by decide +kernel⟩, by decide +kernel⟩, az_in 1065 (by decide +kernel) (by decide +kernel), az_in 1066 (by decide +kernel) (by decide +kernel)⟩
theorem okX8_show : az_OV mX8_show 0 := ⟨⟨az_in 1075 (by decide +kernel) (by decide +kernel), az_in 110 (by decide +kernel) (by decide +kernel), ⟨by decide +kernel, by decide +kernel, by decide +kernel⟩, by decide +kernel⟩, az_in 1074 (by decide +kernel) (by decide +kernel), az_in 88 (by decide +kernel) (by decide +kernel)⟩
theorem okX8_shown : az_OV mX8_shown 0 := ⟨⟨az_in 1071 (by decide +kernel) (by decide +kernel), az_in 110 (by decide +kernel) (by decide +kernel), ⟨by decide +kernel, by decide +kernel, by decide +kernel⟩, by decide +kernel⟩, az_in 1069 (by decide +kernel) (by decide +kernel), az_in 1070 (by decide +kernel) (by decide +kernel)⟩
theorem okX8_pair : az_OV mX8_pair 1 := ⟨⟨az_in 1079 (by decide +kernel) (by decide +kernel), az_in 110 (by decide +kernel) (by decide +kernel), ⟨by decide +kernel, by decide +kernel, by decide +kernel⟩, by decide +kernel⟩, az_in 1077 (by decide +kernel) (by decide +kernel), az_in 1078 (by decide +kernel) (by decide +kernel)⟩
theorem okX8_lacks : az_OV mX8_lacks 2 := ⟨⟨az_in 1087 (by decide +kernel) (by decide +kernel), az_in 110 (by decide +kernel) (by decide +kernel), ⟨by decide +kernel, by decide +kernel, by decide +kernel⟩, by decide +kernel⟩, az_in 1086 (by decide +kernel) (by decide +kernel), az_in 89 (by decide +kernel) (by decide +kernel)⟩
theorem okX8_greedy : az_OV mX8_greedy 0 := ⟨⟨az_in 1083 (by decide +kernel) (by decide +kernel), az_in 110 (by decide +kernel) (by decide +kernel), ⟨by decide +kernel, by decide +kernel, by decide +kernel⟩, by decide +kernel⟩, az_in 1081 (by decide +kernel) (by decide +kernel), az_in 1082 (by decide +kernel) (by decide +kernel)⟩
theorem okX8_word : az_OV mX8_word 2 := ⟨⟨az_in 1091 (by decide +kernel) (by decide +kernel), az_in 110 (by decide +kernel) (by decide +kernel), ⟨by decide +kernel, by decide +kernel, by decide +kernel⟩, by decide +kernel⟩, az_in 1089 (by decide +kernel) (by decide +kernel), az_in 1090 (by decide +kernel) (by decide +kernel)⟩
theorem okX8_clear : az_OV mX8_clear 0 := ⟨⟨az_in 1095 (by decide +kernel) (by decide +kernel), az_in 110 (by decide +kernel) (by decide +kernel), ⟨by decide +kernel, by decide +kernel, by decide +kernel⟩, by decide +kernel⟩, az_in 1093 (by decide +kernel) (by decide +kernel), az_in 1094 (by decide +kernel) (by decide +kernel)⟩
theorem okX8_againstBits : az_OV mX8_againstBits 1 := ⟨⟨az_in 1107 (by decide +kernel) (by decide +kernel), az_in 110 (by decide +kernel) (by decide +kernel), ⟨by decide +kernel, by decide +kernel, by decide +kernel⟩, by decide +kernel⟩, az_in 1106 (by decide +kernel) (by decide +kernel), az_in 91 (by decide +kernel) (by decide +kernel)⟩
theorem okX8_isFit : az_OV mX8_isFit 1 := ⟨⟨az_in 1103 (by decide +kernel) (by decide +kernel), az_in 110 (by decide +kernel) (by decide +kernel), ⟨by decide +kernel, by decide +kernel, by decide +kernel⟩, by decide +kernel⟩, az_in 1102 (by decide +kernel) (by decide +kernel), az_in 90 (by decide +kernel) (by decide +kernel)⟩
theorem okX8_fits : az_OV mX8_fits 0 := ⟨⟨az_in 1099 (by decide +kernel) (by decide +kernel), az_in 110 (by decide +kernel) (by decide +kernel), ⟨by decide +kernel, by decide +kernel, by decide +kernel⟩, by decide +kernel⟩, az_in 1097 (by decide +kernel) (by decide +kernel), az_in 1098 (by decide +kernel) (by decide +kernel)⟩
theorem okX8_where : az_OV mX8_where 1 := ⟨⟨az_in 1111 (by decide +kernel) (by decide +kernel), az_in 110 (by decide +kernel) (by decide +kernel), ⟨by decide +kernel, by decide +kernel, by decide +kernel⟩, by decide +kernel⟩, az_in 1109 (by decide +kernel) (by decide +kernel), az_in 1110 (by decide +kernel) (by decide +kernel)⟩
theorem okX8_against : az_OV mX8_against 1 := ⟨⟨az_in 1115 (by decide +kernel) (by decide +kernel), az_in 110 (by decide +kernel) (by decide +kernel), ⟨by decide +kernel, by decide +kernel, by decide +kernel⟩, by decide +kernel⟩, az_in 1113 (by decide +kernel) (by decide +kernel), az_in 1114 (by decide +kernel) (by decide +kernel)⟩
theorem okX8_isDone : az_OV mX8_isDone 1 := ⟨⟨az_in 1135 (by decide +kernel) (by decide +kernel), az_in 110 (by decide +kernel) (by decide +kernel), ⟨by decide +kernel, by decide +kernel, by decide +kernel⟩, by decide +kernel⟩, az_in 1134 (by decide +kernel) (by decide +kernel), az_in 95 (by decide +kernel) (by decide +kernel)⟩
theorem okX8_staying : az_OV mX8_staying 3 := ⟨⟨az_in 1140 (by decide +kernel) (by decide +kernel), az_in 110 (by decide +kernel) (by decide +kernel), ⟨by decide +kernel, by decide +kernel, by decide +kernel⟩, by decide +kernel⟩, az_in 1139 (by decide +kernel) (by decide +kernel), az_in 96 (by decide +kernel) (by decide +kernel)⟩
theorem okX8_isAsked : az_OV mX8_isAsked 1 := ⟨⟨az_in 1123 (by decide +kernel) (by decide +kernel), az_in 110 (by decide +kernel) (by decide +kernel), ⟨by decide +kernel, by decide +kernel, by decide +kernel⟩, by decide +kernel⟩, az_in 1122 (by decide +kernel) (by decide +kernel), az_in 92 (by decide +kernel) (by decide +kernel)⟩
theorem okX8_fill : az_OV mX8_fill 1 := ⟨⟨az_in 1127 (by decide +kernel) (by decide +kernel), az_in 110 (by decide +kernel) (by decide +kernel), ⟨by decide +kernel, by decide +kernel, by decide +kernel⟩, by decide +kernel⟩, az_in 1126 (by decide +kernel) (by decide +kernel), az_in 93 (by decide +kernel) (by decide +kernel)⟩
theorem okX8_fillOne : az_OV mX8_fillOne 1 := ⟨⟨az_in 1131 (by decide +kernel) (by decide +kernel), az_in 110 (by decide +kernel) (by decide +kernel), ⟨by decide +kernel, by decide +kernel, by decide +kernel⟩, by decide +kernel⟩, az_in 1130 (by decide +kernel) (by decide +kernel), az_in 94 (by decide +kernel) (by decide +kernel)⟩
theorem okX8_worst : az_OV mX8_worst 1 := ⟨⟨az_in 1119 (by decide +kernel) (by decide +kernel), az_in 110 (by decide +kernel) (by decide +kernel), ⟨by decide +kernel, by decide +kernel, by decide +kernel⟩, by decide +kernel⟩, az_in 1117 (by decide +kernel) (by decide +kernel), az_in 1118 (by decide +kernel) (by decide +kernel)⟩
theorem okX8_next : az_OV mX8_next 1 := ⟨⟨az_in 1144 (by decide +kernel) (by decide +kernel), az_in 110 (by decide +kernel) (by decide +kernel), ⟨by decide +kernel, by decide +kernel, by decide +kernel⟩, by decide +kernel⟩, az_in 1142 (by decide +kernel) (by decide +kernel), az_in 1143 (by decide +kernel) (by decide +kernel)⟩
theorem okX8_mean : az_OV mX8_mean 1 := ⟨⟨az_in 1148 (by decide +kernel) (by decide +kernel), az_in 110 (by decide +kernel) (by decide +kernel), ⟨by decide +kernel, by decide +kernel, by decide +kernel⟩, by decide +kernel⟩, az_in 1146 (by decide +kernel) (by decide +kernel), az_in 1147 (by decide +kernel) (by decide +kernel)⟩
theorem okX8_moved : az_OV mX8_moved 1 := ⟨⟨az_in 1160 (by decide +kernel) (by decide +kernel), az_in 110 (by decide +kernel) (by decide +kernel), ⟨by decide +kernel, by decide +kernel, by decide +kernel⟩, by decide +kernel⟩, az_in 1159 (by decide +kernel) (by decide +kernel), az_in 98 (by decide +kernel) (by decide +kernel)⟩
theorem okX8_seek : az_OV mX8_seek 1 := ⟨⟨az_in 1152 (by decide +kernel) (by decide +kernel), az_in 110 (by decide +kernel) (by decide +kernel), ⟨by decide +kernel, by decide +kernel, by decide +kernel⟩, by decide +kernel⟩, az_in 1150 (by decide +kernel) (by decide +kernel), az_in 1151 (by decide +kernel) (by decide +kernel)⟩
theorem okX8_isFoundIn : az_OV mX8_isFoundIn 2 := ⟨⟨az_in 1156 (by decide +kernel) (by decide +kernel), az_in 110 (by decide +kernel) (by decide +kernel), ⟨by decide +kernel, by decide +kernel, by decide +kernel⟩, by decide +kernel⟩, az_in 1155 (by decide +kernel) (by decide +kernel), az_in 97 (by decide +kernel) (by decide +kernel)⟩
theorem okX8_tree : az_OV mX8_tree 0 := ⟨⟨az_in 1164 (by decide +kernel) (by decide +kernel), az_in 110 (by decide +kernel) (by decide +kernel), ⟨by decide +kernel, by decide +kernel, by decide +kernel⟩, by decide +kernel⟩, az_in 1162 (by decide +kernel) (by decide +kernel), az_in 1163 (by decide +kernel) (by decide +kernel)⟩
theorem okX8_isLed : az_OV mX8_isLed 1 := ⟨⟨az_in 1169 (by decide +kernel) (by decide +kernel), az_in 110 (by decide +kernel) (by decide +kernel), ⟨by decide +kernel, by decide +kernel, by decide +kernel⟩, by decide +kernel⟩, az_in 1168 (by decide +kernel) (by decide +kernel), az_in 99 (by decide +kernel) (by decide +kernel)⟩
theorem okX8_only : az_OS mX8_only 1 := ⟨⟨az_in 1172 (by decide +kernel) (by decide +kernel), az_in 110 (by decide +kernel) (by decide +kernel), ⟨by decide +kernel, by decide +kernel, by decide +kernel⟩, by decide +kernel⟩, az_in 1171 (by decide +kernel) (by decide +kernel)⟩
theorem okX8_about : az_OV mX8_about 1 := ⟨⟨az_in 1176 (by decide +kernel) (by decide +kernel), az_in 110 (by decide +kernel) (by decide +kernel), ⟨by decide +kernel, by decide +kernel, by decide +kernel⟩, by decide +kernel⟩, az_in 1174 (by decide +kernel) (by decide +kernel), az_in 1175 (by decide +kernel) (by decide +kernel)⟩
theorem okJ6_numberOfTrailingZeros_0f7a4 : az_OS mJ6_numberOfTrailingZeros_0f7a4 1 := ⟨⟨az_in 617 (by decide +kernel) (by decide +kernel), az_in 113 (by decide +kernel) (by decide +kernel), ⟨by decide +kernel, by decide +kernel, by decide +kernel⟩, by decide +kernel⟩, az_in 616 (by decide +kernel) (by decide +kernel)⟩
theorem okJ6_bitCount_0f7a4 : az_OS mJ6_bitCount_0f7a4 1 := ⟨⟨az_in 527 (by decide +kernel) (by decide +kernel), az_in 113 (by decide +kernel) (by decide +kernel), ⟨by decide +kernel, by decide +kernel, by decide +kernel⟩, by decide +kernel⟩, az_in 526 (by decide +kernel) (by decide +kernel)⟩
theorem okJ9_floorMod_7cf53 : az_OS mJ9_floorMod_7cf53 2 := ⟨⟨az_in 822 (by decide +kernel) (by decide +kernel), az_in 112 (by decide +kernel) (by decide +kernel), ⟨by decide +kernel, by decide +kernel, by decide +kernel⟩, by decide +kernel⟩, az_in 821 (by decide +kernel) (by decide +kernel)⟩
theorem okJ9_max_7cf53 : az_OS mJ9_max_7cf53 2 := ⟨⟨az_in 550 (by decide +kernel) (by decide +kernel), az_in 112 (by decide +kernel) (by decide +kernel), ⟨by decide +kernel, by decide +kernel, by decide +kernel⟩, by decide +kernel⟩, az_in 549 (by decide +kernel) (by decide +kernel)⟩
theorem okJ9_min_7cf53 : az_OS mJ9_min_7cf53 2 := ⟨⟨az_in 399 (by decide +kernel) (by decide +kernel), az_in 112 (by decide +kernel) (by decide +kernel), ⟨by decide +kernel, by decide +kernel, by decide +kernel⟩, by decide +kernel⟩, az_in 398 (by decide +kernel) (by decide +kernel)⟩
theorem okJ7_fill_53178 : az_OS mJ7_fill_53178 2 := ⟨⟨az_in 130 (by decide +kernel) (by decide +kernel), az_in 103 (by decide +kernel) (by decide +kernel), ⟨by decide +kernel, by decide +kernel, by decide +kernel⟩, by decide +kernel⟩, az_in 129 (by decide +kernel) (by decide +kernel)⟩
set_option maxRecDepth 100000 in
theorem iaX0 : ∀ w ∈ u_ws RX0 TX0 8, w ∈ az_tb := by decide +kernel
set_option maxRecDepth 100000 in
theorem iaX1 : ∀ w ∈ u_ws RX1 TX1 10, w ∈ az_tb := by decide +kernel
set_option maxRecDepth 100000 in
theorem iaX2 : ∀ w ∈ u_ws RX2 TX2 12, w ∈ az_tb := by decide +kernel
set_option maxRecDepth 100000 in
theorem iaX3 : ∀ w ∈ u_ws RX3 TX3 3, w ∈ az_tb := by decide +kernel
set_option maxRecDepth 100000 in
theorem iaX4 : ∀ w ∈ u_ws RX4 TX4 2, w ∈ az_tb := by decide +kernel
set_option maxRecDepth 100000 in
theorem iaX5 : ∀ w ∈ u_ws RX5 TX5 8, w ∈ az_tb := by decide +kernel
set_option maxRecDepth 100000 in
theorem iaX6 : ∀ w ∈ u_ws RX6 TX6 2, w ∈ az_tb := by decide +kernel
set_option maxRecDepth 100000 in
theorem iaX7 : ∀ w ∈ u_ws RX7 TX7 9, w ∈ az_tb := by decide +kernel
set_option maxRecDepth 100000 in
theorem iaX8 : ∀ w ∈ u_ws RX8 TX8 16, w ∈ az_tb := by decide +kernel
theorem flX2_9 : az_FL RX2 9 2 0 := ⟨RX2, TX2, 12, rfl, by decide +kernel, iaX2, rfl, Or.inl (az_in 131 (by decide +kernel) (by decide +kernel))⟩
theorem plX2_9 : az_PL RX2 9 2 0 .int := ⟨RX2, TX2, 12, tyX2, rfl, by decide +kernel, iaX2, rfl, Or.inl (az_in 131 (by decide +kernel) (by decide +kernel)), tyX2_ok, nmX2, rfl, rfl⟩
theorem flX5_37 : az_FL RX5 37 2 0 := ⟨RX2, TX2, 12, rfl, by decide +kernel, iaX2, rfl, Or.inr ⟨"WayMarks", az_inN 132 (by decide +kernel) (by decide +kernel)⟩⟩
theorem plX5_37 : az_PL RX5 37 2 0 .int := ⟨RX2, TX2, 12, tyX2, rfl, by decide +kernel, iaX2, rfl, Or.inr ⟨"WayMarks", az_inN 132 (by decide +kernel) (by decide +kernel)⟩, tyX2_ok, nmX2, rfl, rfl⟩
theorem flX7_66 : az_FL RX7 66 2 0 := ⟨RX2, TX2, 12, rfl, by decide +kernel, iaX2, rfl, Or.inr ⟨"WayMarks", az_inN 133 (by decide +kernel) (by decide +kernel)⟩⟩
theorem plX7_66 : az_PL RX7 66 2 0 .int := ⟨RX2, TX2, 12, tyX2, rfl, by decide +kernel, iaX2, rfl, Or.inr ⟨"WayMarks", az_inN 133 (by decide +kernel) (by decide +kernel)⟩, tyX2_ok, nmX2, rfl, rfl⟩
theorem flX0_38 : az_FL RX0 38 2 0 := ⟨RX2, TX2, 12, rfl, by decide +kernel, iaX2, rfl, Or.inr ⟨"WayMarks", az_inN 134 (by decide +kernel) (by decide +kernel)⟩⟩
theorem plX0_38 : az_PL RX0 38 2 0 .int := ⟨RX2, TX2, 12, tyX2, rfl, by decide +kernel, iaX2, rfl, Or.inr ⟨"WayMarks", az_inN 134 (by decide +kernel) (by decide +kernel)⟩, tyX2_ok, nmX2, rfl, rfl⟩
theorem flX1_48 : az_FL RX1 48 2 0 := ⟨RX2, TX2, 12, rfl, by decide +kernel, iaX2, rfl, Or.inr ⟨"WayMarks", az_inN 135 (by decide +kernel) (by decide +kernel)⟩⟩
theorem plX1_48 : az_PL RX1 48 2 0 .int := ⟨RX2, TX2, 12, tyX2, rfl, by decide +kernel, iaX2, rfl, Or.inr ⟨"WayMarks", az_inN 135 (by decide +kernel) (by decide +kernel)⟩, tyX2_ok, nmX2, rfl, rfl⟩
theorem flX2_15 : az_FL RX2 15 2 1 := ⟨RX2, TX2, 12, rfl, by decide +kernel, iaX2, rfl, Or.inl (az_in 136 (by decide +kernel) (by decide +kernel))⟩
theorem plX2_15 : az_PL RX2 15 2 1 .int := ⟨RX2, TX2, 12, tyX2, rfl, by decide +kernel, iaX2, rfl, Or.inl (az_in 136 (by decide +kernel) (by decide +kernel)), tyX2_ok, nmX2, rfl, rfl⟩
theorem flX5_59 : az_FL RX5 59 2 1 := ⟨RX2, TX2, 12, rfl, by decide +kernel, iaX2, rfl, Or.inr ⟨"WayMarks", az_inN 137 (by decide +kernel) (by decide +kernel)⟩⟩
theorem plX5_59 : az_PL RX5 59 2 1 .int := ⟨RX2, TX2, 12, tyX2, rfl, by decide +kernel, iaX2, rfl, Or.inr ⟨"WayMarks", az_inN 137 (by decide +kernel) (by decide +kernel)⟩, tyX2_ok, nmX2, rfl, rfl⟩
theorem flX7_112 : az_FL RX7 112 2 1 := ⟨RX2, TX2, 12, rfl, by decide +kernel, iaX2, rfl, Or.inr ⟨"WayMarks", az_inN 138 (by decide +kernel) (by decide +kernel)⟩⟩
theorem plX7_112 : az_PL RX7 112 2 1 .int := ⟨RX2, TX2, 12, tyX2, rfl, by decide +kernel, iaX2, rfl, Or.inr ⟨"WayMarks", az_inN 138 (by decide +kernel) (by decide +kernel)⟩, tyX2_ok, nmX2, rfl, rfl⟩
theorem flX2_18 : az_FL RX2 18 2 2 := ⟨RX2, TX2, 12, rfl, by decide +kernel, iaX2, rfl, Or.inl (az_in 139 (by decide +kernel) (by decide +kernel))⟩
theorem plX2_18 : az_PL RX2 18 2 2 .int := ⟨RX2, TX2, 12, tyX2, rfl, by decide +kernel, iaX2, rfl, Or.inl (az_in 139 (by decide +kernel) (by decide +kernel)), tyX2_ok, nmX2, rfl, rfl⟩
theorem flX5_77 : az_FL RX5 77 2 2 := ⟨RX2, TX2, 12, rfl, by decide +kernel, iaX2, rfl, Or.inr ⟨"WayMarks", az_inN 140 (by decide +kernel) (by decide +kernel)⟩⟩
theorem plX5_77 : az_PL RX5 77 2 2 .int := ⟨RX2, TX2, 12, tyX2, rfl, by decide +kernel, iaX2, rfl, Or.inr ⟨"WayMarks", az_inN 140 (by decide +kernel) (by decide +kernel)⟩, tyX2_ok, nmX2, rfl, rfl⟩
theorem flX7_115 : az_FL RX7 115 2 2 := ⟨RX2, TX2, 12, rfl, by decide +kernel, iaX2, rfl, Or.inr ⟨"WayMarks", az_inN 141 (by decide +kernel) (by decide +kernel)⟩⟩
theorem plX7_115 : az_PL RX7 115 2 2 .int := ⟨RX2, TX2, 12, tyX2, rfl, by decide +kernel, iaX2, rfl, Or.inr ⟨"WayMarks", az_inN 141 (by decide +kernel) (by decide +kernel)⟩, tyX2_ok, nmX2, rfl, rfl⟩
theorem flX2_21 : az_FL RX2 21 2 3 := ⟨RX2, TX2, 12, rfl, by decide +kernel, iaX2, rfl, Or.inl (az_in 142 (by decide +kernel) (by decide +kernel))⟩
theorem plX2_21 : az_PL RX2 21 2 3 .int := ⟨RX2, TX2, 12, tyX2, rfl, by decide +kernel, iaX2, rfl, Or.inl (az_in 142 (by decide +kernel) (by decide +kernel)), tyX2_ok, nmX2, rfl, rfl⟩
theorem flX7_118 : az_FL RX7 118 2 3 := ⟨RX2, TX2, 12, rfl, by decide +kernel, iaX2, rfl, Or.inr ⟨"WayMarks", az_inN 143 (by decide +kernel) (by decide +kernel)⟩⟩
theorem plX7_118 : az_PL RX7 118 2 3 .int := ⟨RX2, TX2, 12, tyX2, rfl, by decide +kernel, iaX2, rfl, Or.inr ⟨"WayMarks", az_inN 143 (by decide +kernel) (by decide +kernel)⟩, tyX2_ok, nmX2, rfl, rfl⟩
theorem flX2_24 : az_FL RX2 24 2 4 := ⟨RX2, TX2, 12, rfl, by decide +kernel, iaX2, rfl, Or.inl (az_in 144 (by decide +kernel) (by decide +kernel))⟩
theorem plX2_24 : az_PL RX2 24 2 4 .boolean := ⟨RX2, TX2, 12, tyX2, rfl, by decide +kernel, iaX2, rfl, Or.inl (az_in 144 (by decide +kernel) (by decide +kernel)), tyX2_ok, nmX2, rfl, rfl⟩
theorem flX7_121 : az_FL RX7 121 2 4 := ⟨RX2, TX2, 12, rfl, by decide +kernel, iaX2, rfl, Or.inr ⟨"WayMarks", az_inN 145 (by decide +kernel) (by decide +kernel)⟩⟩
theorem plX7_121 : az_PL RX7 121 2 4 .boolean := ⟨RX2, TX2, 12, tyX2, rfl, by decide +kernel, iaX2, rfl, Or.inr ⟨"WayMarks", az_inN 145 (by decide +kernel) (by decide +kernel)⟩, tyX2_ok, nmX2, rfl, rfl⟩
theorem flX2_28 : az_FL RX2 28 2 5 := ⟨RX2, TX2, 12, rfl, by decide +kernel, iaX2, rfl, Or.inl (az_in 146 (by decide +kernel) (by decide +kernel))⟩
theorem plX2_28 : az_PL RX2 28 2 5 .boolean := ⟨RX2, TX2, 12, tyX2, rfl, by decide +kernel, iaX2, rfl, Or.inl (az_in 146 (by decide +kernel) (by decide +kernel)), tyX2_ok, nmX2, rfl, rfl⟩
theorem flX1_82 : az_FL RX1 82 2 5 := ⟨RX2, TX2, 12, rfl, by decide +kernel, iaX2, rfl, Or.inr ⟨"WayMarks", az_inN 147 (by decide +kernel) (by decide +kernel)⟩⟩
theorem plX1_82 : az_PL RX1 82 2 5 .boolean := ⟨RX2, TX2, 12, tyX2, rfl, by decide +kernel, iaX2, rfl, Or.inr ⟨"WayMarks", az_inN 147 (by decide +kernel) (by decide +kernel)⟩, tyX2_ok, nmX2, rfl, rfl⟩
theorem flX7_128 : az_FL RX7 128 2 5 := ⟨RX2, TX2, 12, rfl, by decide +kernel, iaX2, rfl, Or.inr ⟨"WayMarks", az_inN 148 (by decide +kernel) (by decide +kernel)⟩⟩
theorem plX7_128 : az_PL RX7 128 2 5 .boolean := ⟨RX2, TX2, 12, tyX2, rfl, by decide +kernel, iaX2, rfl, Or.inr ⟨"WayMarks", az_inN 148 (by decide +kernel) (by decide +kernel)⟩, tyX2_ok, nmX2, rfl, rfl⟩
theorem flX2_31 : az_FL RX2 31 2 6 := ⟨RX2, TX2, 12, rfl, by decide +kernel, iaX2, rfl, Or.inl (az_in 149 (by decide +kernel) (by decide +kernel))⟩
theorem plX2_31 : az_PL RX2 31 2 6 .int := ⟨RX2, TX2, 12, tyX2, rfl, by decide +kernel, iaX2, rfl, Or.inl (az_in 149 (by decide +kernel) (by decide +kernel)), tyX2_ok, nmX2, rfl, rfl⟩
theorem flX7_201 : az_FL RX7 201 2 6 := ⟨RX2, TX2, 12, rfl, by decide +kernel, iaX2, rfl, Or.inr ⟨"WayMarks", az_inN 150 (by decide +kernel) (by decide +kernel)⟩⟩
theorem plX7_201 : az_PL RX7 201 2 6 .int := ⟨RX2, TX2, 12, tyX2, rfl, by decide +kernel, iaX2, rfl, Or.inr ⟨"WayMarks", az_inN 150 (by decide +kernel) (by decide +kernel)⟩, tyX2_ok, nmX2, rfl, rfl⟩
theorem flX2_34 : az_FL RX2 34 2 7 := ⟨RX2, TX2, 12, rfl, by decide +kernel, iaX2, rfl, Or.inl (az_in 151 (by decide +kernel) (by decide +kernel))⟩
theorem flX5_70 : az_FL RX5 70 2 7 := ⟨RX2, TX2, 12, rfl, by decide +kernel, iaX2, rfl, Or.inr ⟨"WayMarks", az_inN 152 (by decide +kernel) (by decide +kernel)⟩⟩
theorem flX2_38 : az_FL RX2 38 2 8 := ⟨RX2, TX2, 12, rfl, by decide +kernel, iaX2, rfl, Or.inl (az_in 153 (by decide +kernel) (by decide +kernel))⟩
theorem flX5_80 : az_FL RX5 80 2 8 := ⟨RX2, TX2, 12, rfl, by decide +kernel, iaX2, rfl, Or.inr ⟨"WayMarks", az_inN 154 (by decide +kernel) (by decide +kernel)⟩⟩
theorem flX7_102 : az_FL RX7 102 2 8 := ⟨RX2, TX2, 12, rfl, by decide +kernel, iaX2, rfl, Or.inr ⟨"WayMarks", az_inN 155 (by decide +kernel) (by decide +kernel)⟩⟩
theorem flX2_41 : az_FL RX2 41 2 9 := ⟨RX2, TX2, 12, rfl, by decide +kernel, iaX2, rfl, Or.inl (az_in 156 (by decide +kernel) (by decide +kernel))⟩
theorem flX1_51 : az_FL RX1 51 2 9 := ⟨RX2, TX2, 12, rfl, by decide +kernel, iaX2, rfl, Or.inr ⟨"WayMarks", az_inN 157 (by decide +kernel) (by decide +kernel)⟩⟩
theorem flX7_106 : az_FL RX7 106 2 9 := ⟨RX2, TX2, 12, rfl, by decide +kernel, iaX2, rfl, Or.inr ⟨"WayMarks", az_inN 158 (by decide +kernel) (by decide +kernel)⟩⟩
theorem flX2_44 : az_FL RX2 44 2 10 := ⟨RX2, TX2, 12, rfl, by decide +kernel, iaX2, rfl, Or.inl (az_in 159 (by decide +kernel) (by decide +kernel))⟩
theorem flX0_55 : az_FL RX0 55 2 10 := ⟨RX2, TX2, 12, rfl, by decide +kernel, iaX2, rfl, Or.inr ⟨"WayMarks", az_inN 160 (by decide +kernel) (by decide +kernel)⟩⟩
theorem flX7_109 : az_FL RX7 109 2 10 := ⟨RX2, TX2, 12, rfl, by decide +kernel, iaX2, rfl, Or.inr ⟨"WayMarks", az_inN 161 (by decide +kernel) (by decide +kernel)⟩⟩
theorem flX2_47 : az_FL RX2 47 2 11 := ⟨RX2, TX2, 12, rfl, by decide +kernel, iaX2, rfl, Or.inl (az_in 162 (by decide +kernel) (by decide +kernel))⟩
theorem flX7_204 : az_FL RX7 204 2 11 := ⟨RX2, TX2, 12, rfl, by decide +kernel, iaX2, rfl, Or.inr ⟨"WayMarks", az_inN 163 (by decide +kernel) (by decide +kernel)⟩⟩
theorem flX3_11 : az_FL RX3 11 3 0 := ⟨RX3, TX3, 3, rfl, by decide +kernel, iaX3, rfl, Or.inl (az_in 199 (by decide +kernel) (by decide +kernel))⟩
theorem flX3_17 : az_FL RX3 17 3 1 := ⟨RX3, TX3, 3, rfl, by decide +kernel, iaX3, rfl, Or.inl (az_in 200 (by decide +kernel) (by decide +kernel))⟩
theorem plX3_17 : az_PL RX3 17 3 1 .int := ⟨RX3, TX3, 3, tyX3, rfl, by decide +kernel, iaX3, rfl, Or.inl (az_in 200 (by decide +kernel) (by decide +kernel)), tyX3_ok, nmX3, rfl, rfl⟩
theorem flX3_21 : az_FL RX3 21 3 2 := ⟨RX3, TX3, 3, rfl, by decide +kernel, iaX3, rfl, Or.inl (az_in 201 (by decide +kernel) (by decide +kernel))⟩
theorem plX3_21 : az_PL RX3 21 3 2 .int := ⟨RX3, TX3, 3, tyX3, rfl, by decide +kernel, iaX3, rfl, Or.inl (az_in 201 (by decide +kernel) (by decide +kernel)), tyX3_ok, nmX3, rfl, rfl⟩
theorem flX7_236 : az_FL RX7 236 3 2 := ⟨RX3, TX3, 3, rfl, by decide +kernel, iaX3, rfl, Or.inr ⟨"WayMarks", az_inN 202 (by decide +kernel) (by decide +kernel)⟩⟩
theorem plX7_236 : az_PL RX7 236 3 2 .int := ⟨RX3, TX3, 3, tyX3, rfl, by decide +kernel, iaX3, rfl, Or.inr ⟨"WayMarks", az_inN 202 (by decide +kernel) (by decide +kernel)⟩, tyX3_ok, nmX3, rfl, rfl⟩
theorem flX6_9 : az_FL RX6 9 6 0 := ⟨RX6, TX6, 2, rfl, by decide +kernel, iaX6, rfl, Or.inl (az_in 216 (by decide +kernel) (by decide +kernel))⟩
theorem flX6_15 : az_FL RX6 15 6 1 := ⟨RX6, TX6, 2, rfl, by decide +kernel, iaX6, rfl, Or.inl (az_in 217 (by decide +kernel) (by decide +kernel))⟩
theorem plX6_15 : az_PL RX6 15 6 1 .int := ⟨RX6, TX6, 2, tyX6, rfl, by decide +kernel, iaX6, rfl, Or.inl (az_in 217 (by decide +kernel) (by decide +kernel)), tyX6_ok, nmX6, rfl, rfl⟩
theorem flX7_95 : az_FL RX7 95 6 1 := ⟨RX6, TX6, 2, rfl, by decide +kernel, iaX6, rfl, Or.inr ⟨"WayMarks", az_inN 218 (by decide +kernel) (by decide +kernel)⟩⟩
theorem plX7_95 : az_PL RX7 95 6 1 .int := ⟨RX6, TX6, 2, tyX6, rfl, by decide +kernel, iaX6, rfl, Or.inr ⟨"WayMarks", az_inN 218 (by decide +kernel) (by decide +kernel)⟩, tyX6_ok, nmX6, rfl, rfl⟩
theorem flX5_9 : az_FL RX5 9 5 0 := ⟨RX5, TX5, 8, rfl, by decide +kernel, iaX5, rfl, Or.inl (az_in 230 (by decide +kernel) (by decide +kernel))⟩
theorem plX5_9 : az_PL RX5 9 5 0 .int := ⟨RX5, TX5, 8, tyX5, rfl, by decide +kernel, iaX5, rfl, Or.inl (az_in 230 (by decide +kernel) (by decide +kernel)), tyX5_ok, nmX5, rfl, rfl⟩
theorem flX4_18 : az_FL RX4 18 5 0 := ⟨RX5, TX5, 8, rfl, by decide +kernel, iaX5, rfl, Or.inr ⟨"WayMarks", az_inN 231 (by decide +kernel) (by decide +kernel)⟩⟩
theorem plX4_18 : az_PL RX4 18 5 0 .int := ⟨RX5, TX5, 8, tyX5, rfl, by decide +kernel, iaX5, rfl, Or.inr ⟨"WayMarks", az_inN 231 (by decide +kernel) (by decide +kernel)⟩, tyX5_ok, nmX5, rfl, rfl⟩
theorem flX5_15 : az_FL RX5 15 5 1 := ⟨RX5, TX5, 8, rfl, by decide +kernel, iaX5, rfl, Or.inl (az_in 232 (by decide +kernel) (by decide +kernel))⟩
theorem flX4_44 : az_FL RX4 44 5 1 := ⟨RX5, TX5, 8, rfl, by decide +kernel, iaX5, rfl, Or.inr ⟨"WayMarks", az_inN 233 (by decide +kernel) (by decide +kernel)⟩⟩
theorem flX5_19 : az_FL RX5 19 5 2 := ⟨RX5, TX5, 8, rfl, by decide +kernel, iaX5, rfl, Or.inl (az_in 234 (by decide +kernel) (by decide +kernel))⟩
theorem flX7_135 : az_FL RX7 135 5 2 := ⟨RX5, TX5, 8, rfl, by decide +kernel, iaX5, rfl, Or.inr ⟨"WayMarks", az_inN 235 (by decide +kernel) (by decide +kernel)⟩⟩
theorem flX5_22 : az_FL RX5 22 5 3 := ⟨RX5, TX5, 8, rfl, by decide +kernel, iaX5, rfl, Or.inl (az_in 236 (by decide +kernel) (by decide +kernel))⟩
theorem flX7_149 : az_FL RX7 149 5 3 := ⟨RX5, TX5, 8, rfl, by decide +kernel, iaX5, rfl, Or.inr ⟨"WayMarks", az_inN 237 (by decide +kernel) (by decide +kernel)⟩⟩
theorem flX5_25 : az_FL RX5 25 5 4 := ⟨RX5, TX5, 8, rfl, by decide +kernel, iaX5, rfl, Or.inl (az_in 238 (by decide +kernel) (by decide +kernel))⟩
theorem flX1_75 : az_FL RX1 75 5 4 := ⟨RX5, TX5, 8, rfl, by decide +kernel, iaX5, rfl, Or.inr ⟨"WayMarks", az_inN 239 (by decide +kernel) (by decide +kernel)⟩⟩
theorem flX7_164 : az_FL RX7 164 5 4 := ⟨RX5, TX5, 8, rfl, by decide +kernel, iaX5, rfl, Or.inr ⟨"WayMarks", az_inN 240 (by decide +kernel) (by decide +kernel)⟩⟩
theorem flX5_28 : az_FL RX5 28 5 5 := ⟨RX5, TX5, 8, rfl, by decide +kernel, iaX5, rfl, Or.inl (az_in 241 (by decide +kernel) (by decide +kernel))⟩
theorem flX1_86 : az_FL RX1 86 5 5 := ⟨RX5, TX5, 8, rfl, by decide +kernel, iaX5, rfl, Or.inr ⟨"WayMarks", az_inN 242 (by decide +kernel) (by decide +kernel)⟩⟩
theorem flX5_31 : az_FL RX5 31 5 6 := ⟨RX5, TX5, 8, rfl, by decide +kernel, iaX5, rfl, Or.inl (az_in 243 (by decide +kernel) (by decide +kernel))⟩
theorem flX0_63 : az_FL RX0 63 5 6 := ⟨RX5, TX5, 8, rfl, by decide +kernel, iaX5, rfl, Or.inr ⟨"WayMarks", az_inN 244 (by decide +kernel) (by decide +kernel)⟩⟩
theorem flX4_57 : az_FL RX4 57 5 6 := ⟨RX5, TX5, 8, rfl, by decide +kernel, iaX5, rfl, Or.inr ⟨"WayMarks", az_inN 245 (by decide +kernel) (by decide +kernel)⟩⟩
theorem flX5_34 : az_FL RX5 34 5 7 := ⟨RX5, TX5, 8, rfl, by decide +kernel, iaX5, rfl, Or.inl (az_in 246 (by decide +kernel) (by decide +kernel))⟩
theorem flX0_62 : az_FL RX0 62 5 7 := ⟨RX5, TX5, 8, rfl, by decide +kernel, iaX5, rfl, Or.inr ⟨"WayMarks", az_inN 247 (by decide +kernel) (by decide +kernel)⟩⟩
theorem flX4_54 : az_FL RX4 54 5 7 := ⟨RX5, TX5, 8, rfl, by decide +kernel, iaX5, rfl, Or.inr ⟨"WayMarks", az_inN 248 (by decide +kernel) (by decide +kernel)⟩⟩
theorem flX1_9 : az_FL RX1 9 1 0 := ⟨RX1, TX1, 10, rfl, by decide +kernel, iaX1, rfl, Or.inl (az_in 272 (by decide +kernel) (by decide +kernel))⟩
theorem flX1_15 : az_FL RX1 15 1 1 := ⟨RX1, TX1, 10, rfl, by decide +kernel, iaX1, rfl, Or.inl (az_in 273 (by decide +kernel) (by decide +kernel))⟩
theorem plX1_15 : az_PL RX1 15 1 1 .int := ⟨RX1, TX1, 10, tyX1, rfl, by decide +kernel, iaX1, rfl, Or.inl (az_in 273 (by decide +kernel) (by decide +kernel)), tyX1_ok, nmX1, rfl, rfl⟩
theorem flX1_19 : az_FL RX1 19 1 2 := ⟨RX1, TX1, 10, rfl, by decide +kernel, iaX1, rfl, Or.inl (az_in 274 (by decide +kernel) (by decide +kernel))⟩
theorem plX1_19 : az_PL RX1 19 1 2 .int := ⟨RX1, TX1, 10, tyX1, rfl, by decide +kernel, iaX1, rfl, Or.inl (az_in 274 (by decide +kernel) (by decide +kernel)), tyX1_ok, nmX1, rfl, rfl⟩
theorem flX1_22 : az_FL RX1 22 1 3 := ⟨RX1, TX1, 10, rfl, by decide +kernel, iaX1, rfl, Or.inl (az_in 275 (by decide +kernel) (by decide +kernel))⟩
theorem flX1_25 : az_FL RX1 25 1 4 := ⟨RX1, TX1, 10, rfl, by decide +kernel, iaX1, rfl, Or.inl (az_in 276 (by decide +kernel) (by decide +kernel))⟩
theorem plX1_25 : az_PL RX1 25 1 4 .int := ⟨RX1, TX1, 10, tyX1, rfl, by decide +kernel, iaX1, rfl, Or.inl (az_in 276 (by decide +kernel) (by decide +kernel)), tyX1_ok, nmX1, rfl, rfl⟩
theorem flX1_28 : az_FL RX1 28 1 5 := ⟨RX1, TX1, 10, rfl, by decide +kernel, iaX1, rfl, Or.inl (az_in 277 (by decide +kernel) (by decide +kernel))⟩
theorem plX1_28 : az_PL RX1 28 1 5 .int := ⟨RX1, TX1, 10, tyX1, rfl, by decide +kernel, iaX1, rfl, Or.inl (az_in 277 (by decide +kernel) (by decide +kernel)), tyX1_ok, nmX1, rfl, rfl⟩
theorem flX1_31 : az_FL RX1 31 1 6 := ⟨RX1, TX1, 10, rfl, by decide +kernel, iaX1, rfl, Or.inl (az_in 278 (by decide +kernel) (by decide +kernel))⟩
theorem plX1_31 : az_PL RX1 31 1 6 .int := ⟨RX1, TX1, 10, tyX1, rfl, by decide +kernel, iaX1, rfl, Or.inl (az_in 278 (by decide +kernel) (by decide +kernel)), tyX1_ok, nmX1, rfl, rfl⟩
theorem flX1_34 : az_FL RX1 34 1 7 := ⟨RX1, TX1, 10, rfl, by decide +kernel, iaX1, rfl, Or.inl (az_in 279 (by decide +kernel) (by decide +kernel))⟩
theorem plX1_34 : az_PL RX1 34 1 7 .int := ⟨RX1, TX1, 10, tyX1, rfl, by decide +kernel, iaX1, rfl, Or.inl (az_in 279 (by decide +kernel) (by decide +kernel)), tyX1_ok, nmX1, rfl, rfl⟩
theorem flX7_251 : az_FL RX7 251 1 7 := ⟨RX1, TX1, 10, rfl, by decide +kernel, iaX1, rfl, Or.inr ⟨"WayMarks", az_inN 280 (by decide +kernel) (by decide +kernel)⟩⟩
theorem plX7_251 : az_PL RX7 251 1 7 .int := ⟨RX1, TX1, 10, tyX1, rfl, by decide +kernel, iaX1, rfl, Or.inr ⟨"WayMarks", az_inN 280 (by decide +kernel) (by decide +kernel)⟩, tyX1_ok, nmX1, rfl, rfl⟩
theorem flX1_37 : az_FL RX1 37 1 8 := ⟨RX1, TX1, 10, rfl, by decide +kernel, iaX1, rfl, Or.inl (az_in 281 (by decide +kernel) (by decide +kernel))⟩
theorem plX1_37 : az_PL RX1 37 1 8 .int := ⟨RX1, TX1, 10, tyX1, rfl, by decide +kernel, iaX1, rfl, Or.inl (az_in 281 (by decide +kernel) (by decide +kernel)), tyX1_ok, nmX1, rfl, rfl⟩
theorem flX7_248 : az_FL RX7 248 1 8 := ⟨RX1, TX1, 10, rfl, by decide +kernel, iaX1, rfl, Or.inr ⟨"WayMarks", az_inN 282 (by decide +kernel) (by decide +kernel)⟩⟩
theorem plX7_248 : az_PL RX7 248 1 8 .int := ⟨RX1, TX1, 10, tyX1, rfl, by decide +kernel, iaX1, rfl, Or.inr ⟨"WayMarks", az_inN 282 (by decide +kernel) (by decide +kernel)⟩, tyX1_ok, nmX1, rfl, rfl⟩
theorem flX1_40 : az_FL RX1 40 1 9 := ⟨RX1, TX1, 10, rfl, by decide +kernel, iaX1, rfl, Or.inl (az_in 283 (by decide +kernel) (by decide +kernel))⟩
theorem plX1_40 : az_PL RX1 40 1 9 .int := ⟨RX1, TX1, 10, tyX1, rfl, by decide +kernel, iaX1, rfl, Or.inl (az_in 283 (by decide +kernel) (by decide +kernel)), tyX1_ok, nmX1, rfl, rfl⟩
theorem flX7_183 : az_FL RX7 183 1 9 := ⟨RX1, TX1, 10, rfl, by decide +kernel, iaX1, rfl, Or.inr ⟨"WayMarks", az_inN 284 (by decide +kernel) (by decide +kernel)⟩⟩
theorem plX7_183 : az_PL RX7 183 1 9 .int := ⟨RX1, TX1, 10, tyX1, rfl, by decide +kernel, iaX1, rfl, Or.inr ⟨"WayMarks", az_inN 284 (by decide +kernel) (by decide +kernel)⟩, tyX1_ok, nmX1, rfl, rfl⟩
theorem flX0_9 : az_FL RX0 9 0 0 := ⟨RX0, TX0, 8, rfl, by decide +kernel, iaX0, rfl, Or.inl (az_in 312 (by decide +kernel) (by decide +kernel))⟩
theorem flX0_15 : az_FL RX0 15 0 1 := ⟨RX0, TX0, 8, rfl, by decide +kernel, iaX0, rfl, Or.inl (az_in 313 (by decide +kernel) (by decide +kernel))⟩
theorem flX0_18 : az_FL RX0 18 0 2 := ⟨RX0, TX0, 8, rfl, by decide +kernel, iaX0, rfl, Or.inl (az_in 314 (by decide +kernel) (by decide +kernel))⟩
theorem flX0_21 : az_FL RX0 21 0 3 := ⟨RX0, TX0, 8, rfl, by decide +kernel, iaX0, rfl, Or.inl (az_in 315 (by decide +kernel) (by decide +kernel))⟩
theorem plX0_21 : az_PL RX0 21 0 3 .int := ⟨RX0, TX0, 8, tyX0, rfl, by decide +kernel, iaX0, rfl, Or.inl (az_in 315 (by decide +kernel) (by decide +kernel)), tyX0_ok, nmX0, rfl, rfl⟩
theorem flX0_25 : az_FL RX0 25 0 4 := ⟨RX0, TX0, 8, rfl, by decide +kernel, iaX0, rfl, Or.inl (az_in 316 (by decide +kernel) (by decide +kernel))⟩
theorem plX0_25 : az_PL RX0 25 0 4 .int := ⟨RX0, TX0, 8, tyX0, rfl, by decide +kernel, iaX0, rfl, Or.inl (az_in 316 (by decide +kernel) (by decide +kernel)), tyX0_ok, nmX0, rfl, rfl⟩
theorem flX0_28 : az_FL RX0 28 0 5 := ⟨RX0, TX0, 8, rfl, by decide +kernel, iaX0, rfl, Or.inl (az_in 317 (by decide +kernel) (by decide +kernel))⟩
theorem plX0_28 : az_PL RX0 28 0 5 .boolean := ⟨RX0, TX0, 8, tyX0, rfl, by decide +kernel, iaX0, rfl, Or.inl (az_in 317 (by decide +kernel) (by decide +kernel)), tyX0_ok, nmX0, rfl, rfl⟩
theorem flX0_32 : az_FL RX0 32 0 6 := ⟨RX0, TX0, 8, rfl, by decide +kernel, iaX0, rfl, Or.inl (az_in 318 (by decide +kernel) (by decide +kernel))⟩
theorem flX0_35 : az_FL RX0 35 0 7 := ⟨RX0, TX0, 8, rfl, by decide +kernel, iaX0, rfl, Or.inl (az_in 319 (by decide +kernel) (by decide +kernel))⟩
theorem flX4_11 : az_FL RX4 11 4 0 := ⟨RX4, TX4, 2, rfl, by decide +kernel, iaX4, rfl, Or.inl (az_in 343 (by decide +kernel) (by decide +kernel))⟩
theorem flX4_15 : az_FL RX4 15 4 1 := ⟨RX4, TX4, 2, rfl, by decide +kernel, iaX4, rfl, Or.inl (az_in 344 (by decide +kernel) (by decide +kernel))⟩
theorem flX7_12 : az_FL RX7 12 7 0 := ⟨RX7, TX7, 9, rfl, by decide +kernel, iaX7, rfl, Or.inl (az_in 350 (by decide +kernel) (by decide +kernel))⟩
theorem flX7_19 : az_FL RX7 19 7 1 := ⟨RX7, TX7, 9, rfl, by decide +kernel, iaX7, rfl, Or.inl (az_in 351 (by decide +kernel) (by decide +kernel))⟩
theorem flX7_26 : az_FL RX7 26 7 2 := ⟨RX7, TX7, 9, rfl, by decide +kernel, iaX7, rfl, Or.inl (az_in 352 (by decide +kernel) (by decide +kernel))⟩
theorem flX7_33 : az_FL RX7 33 7 3 := ⟨RX7, TX7, 9, rfl, by decide +kernel, iaX7, rfl, Or.inl (az_in 353 (by decide +kernel) (by decide +kernel))⟩
theorem flX7_40 : az_FL RX7 40 7 4 := ⟨RX7, TX7, 9, rfl, by decide +kernel, iaX7, rfl, Or.inl (az_in 354 (by decide +kernel) (by decide +kernel))⟩
theorem flX7_47 : az_FL RX7 47 7 5 := ⟨RX7, TX7, 9, rfl, by decide +kernel, iaX7, rfl, Or.inl (az_in 355 (by decide +kernel) (by decide +kernel))⟩
theorem flX7_54 : az_FL RX7 54 7 6 := ⟨RX7, TX7, 9, rfl, by decide +kernel, iaX7, rfl, Or.inl (az_in 356 (by decide +kernel) (by decide +kernel))⟩
theorem flX7_58 : az_FL RX7 58 7 7 := ⟨RX7, TX7, 9, rfl, by decide +kernel, iaX7, rfl, Or.inl (az_in 357 (by decide +kernel) (by decide +kernel))⟩
theorem plX7_58 : az_PL RX7 58 7 7 .boolean := ⟨RX7, TX7, 9, tyX7, rfl, by decide +kernel, iaX7, rfl, Or.inl (az_in 357 (by decide +kernel) (by decide +kernel)), tyX7_ok, nmX7, rfl, rfl⟩
theorem flX7_62 : az_FL RX7 62 7 8 := ⟨RX7, TX7, 9, rfl, by decide +kernel, iaX7, rfl, Or.inl (az_in 358 (by decide +kernel) (by decide +kernel))⟩
theorem plX7_62 : az_PL RX7 62 7 8 .int := ⟨RX7, TX7, 9, tyX7, rfl, by decide +kernel, iaX7, rfl, Or.inl (az_in 358 (by decide +kernel) (by decide +kernel)), tyX7_ok, nmX7, rfl, rfl⟩
theorem flX8_7 : az_FL RX8 7 8 0 := ⟨RX8, TX8, 16, rfl, by decide +kernel, iaX8, rfl, Or.inl (az_in 856 (by decide +kernel) (by decide +kernel))⟩
theorem flX8_14 : az_FL RX8 14 8 1 := ⟨RX8, TX8, 16, rfl, by decide +kernel, iaX8, rfl, Or.inl (az_in 857 (by decide +kernel) (by decide +kernel))⟩
theorem flX8_59 : az_FL RX8 59 8 2 := ⟨RX8, TX8, 16, rfl, by decide +kernel, iaX8, rfl, Or.inl (az_in 858 (by decide +kernel) (by decide +kernel))⟩
theorem plX8_59 : az_PL RX8 59 8 2 .int := ⟨RX8, TX8, 16, tyX8, rfl, by decide +kernel, iaX8, rfl, Or.inl (az_in 858 (by decide +kernel) (by decide +kernel)), tyX8_ok, nmX8, rfl, rfl⟩
theorem flX8_55 : az_FL RX8 55 8 3 := ⟨RX8, TX8, 16, rfl, by decide +kernel, iaX8, rfl, Or.inl (az_in 859 (by decide +kernel) (by decide +kernel))⟩
theorem plX8_55 : az_PL RX8 55 8 3 .int := ⟨RX8, TX8, 16, tyX8, rfl, by decide +kernel, iaX8, rfl, Or.inl (az_in 859 (by decide +kernel) (by decide +kernel)), tyX8_ok, nmX8, rfl, rfl⟩
theorem flX8_17 : az_FL RX8 17 8 4 := ⟨RX8, TX8, 16, rfl, by decide +kernel, iaX8, rfl, Or.inl (az_in 860 (by decide +kernel) (by decide +kernel))⟩
theorem flX8_89 : az_FL RX8 89 8 5 := ⟨RX8, TX8, 16, rfl, by decide +kernel, iaX8, rfl, Or.inl (az_in 861 (by decide +kernel) (by decide +kernel))⟩
theorem plX8_89 : az_PL RX8 89 8 5 .int := ⟨RX8, TX8, 16, tyX8, rfl, by decide +kernel, iaX8, rfl, Or.inl (az_in 861 (by decide +kernel) (by decide +kernel)), tyX8_ok, nmX8, rfl, rfl⟩
theorem flX8_140 : az_FL RX8 140 8 6 := ⟨RX8, TX8, 16, rfl, by decide +kernel, iaX8, rfl, Or.inl (az_in 862 (by decide +kernel) (by decide +kernel))⟩
theorem plX8_140 : az_PL RX8 140 8 6 .int := ⟨RX8, TX8, 16, tyX8, rfl, by decide +kernel, iaX8, rfl, Or.inl (az_in 862 (by decide +kernel) (by decide +kernel)), tyX8_ok, nmX8, rfl, rfl⟩
theorem flX8_20 : az_FL RX8 20 8 7 := ⟨RX8, TX8, 16, rfl, by decide +kernel, iaX8, rfl, Or.inl (az_in 863 (by decide +kernel) (by decide +kernel))⟩
theorem flX8_23 : az_FL RX8 23 8 8 := ⟨RX8, TX8, 16, rfl, by decide +kernel, iaX8, rfl, Or.inl (az_in 864 (by decide +kernel) (by decide +kernel))⟩
theorem flX8_26 : az_FL RX8 26 8 9 := ⟨RX8, TX8, 16, rfl, by decide +kernel, iaX8, rfl, Or.inl (az_in 865 (by decide +kernel) (by decide +kernel))⟩
theorem flX8_29 : az_FL RX8 29 8 10 := ⟨RX8, TX8, 16, rfl, by decide +kernel, iaX8, rfl, Or.inl (az_in 866 (by decide +kernel) (by decide +kernel))⟩
theorem flX8_32 : az_FL RX8 32 8 11 := ⟨RX8, TX8, 16, rfl, by decide +kernel, iaX8, rfl, Or.inl (az_in 867 (by decide +kernel) (by decide +kernel))⟩
theorem flX8_36 : az_FL RX8 36 8 12 := ⟨RX8, TX8, 16, rfl, by decide +kernel, iaX8, rfl, Or.inl (az_in 868 (by decide +kernel) (by decide +kernel))⟩
theorem flX8_39 : az_FL RX8 39 8 13 := ⟨RX8, TX8, 16, rfl, by decide +kernel, iaX8, rfl, Or.inl (az_in 869 (by decide +kernel) (by decide +kernel))⟩
theorem flX8_42 : az_FL RX8 42 8 14 := ⟨RX8, TX8, 16, rfl, by decide +kernel, iaX8, rfl, Or.inl (az_in 870 (by decide +kernel) (by decide +kernel))⟩
theorem flX8_45 : az_FL RX8 45 8 15 := ⟨RX8, TX8, 16, rfl, by decide +kernel, iaX8, rfl, Or.inl (az_in 871 (by decide +kernel) (by decide +kernel))⟩
theorem lsX2_50 : Cond.methodLink RX2 50 yJ7_fill_53178 ∈ az_tb := az_in 128 (by decide +kernel) (by decide +kernel)
theorem lkL_13 : az_Lk RL 13 yX7_post := Or.inl (az_in 378 (by decide +kernel) (by decide +kernel))
theorem lkX7_69 : az_Lk RX7 69 yX7_beforeAct := Or.inl (az_in 382 (by decide +kernel) (by decide +kernel))
theorem lkX7_241 : az_Lk RX7 241 yX3_keep := Or.inr ⟨"WayMarks", az_inN 386 (by decide +kernel) (by decide +kernel)⟩
theorem lkX3_25 : az_Lk RX3 25 yX2_become := Or.inr ⟨"WayMarks", az_inN 390 (by decide +kernel) (by decide +kernel)⟩
theorem lsX2_56 : Cond.methodLink RX2 56 arraycopyName ∈ az_tb := az_in 394 (by decide +kernel) (by decide +kernel)
theorem lsX3_29 : Cond.methodLink RX3 29 yJ9_min_7cf53 ∈ az_tb := az_in 397 (by decide +kernel) (by decide +kernel)
theorem lkL_18 : az_Lk RL 18 yX7_road := Or.inl (az_in 400 (by decide +kernel) (by decide +kernel))
theorem lkX7_72 : az_Lk RX7 72 yX2_roadCanBe := Or.inr ⟨"WayMarks", az_inN 404 (by decide +kernel) (by decide +kernel)⟩
theorem lkX2_62 : az_Lk RX2 62 yX2_isPost := Or.inl (az_in 408 (by decide +kernel) (by decide +kernel))
theorem lkX2_66 : az_Lk RX2 66 yX2_hasRoad := Or.inl (az_in 412 (by decide +kernel) (by decide +kernel))
theorem lkX7_76 : az_Lk RX7 76 yX2_layRoad := Or.inr ⟨"WayMarks", az_inN 416 (by decide +kernel) (by decide +kernel)⟩
theorem lkL_23 : az_Lk RL 23 yX7_cut := Or.inl (az_in 420 (by decide +kernel) (by decide +kernel))
theorem lkX7_80 : az_Lk RX7 80 yX2_isPost := Or.inr ⟨"WayMarks", az_inN 424 (by decide +kernel) (by decide +kernel)⟩
theorem lkX7_84 : az_Lk RX7 84 yX2_hasRoad := Or.inr ⟨"WayMarks", az_inN 425 (by decide +kernel) (by decide +kernel)⟩
theorem lkL_28 : az_Lk RL 28 yX7_feed := Or.inl (az_in 426 (by decide +kernel) (by decide +kernel))
theorem lkX7_88 : az_Lk RX7 88 yX6_hasRoomFor := Or.inr ⟨"WayMarks", az_inN 430 (by decide +kernel) (by decide +kernel)⟩
theorem lkX7_91 : az_Lk RX7 91 yX6_takeFour := Or.inr ⟨"WayMarks", az_inN 434 (by decide +kernel) (by decide +kernel)⟩
theorem lkL_33 : az_Lk RL 33 yX7_roads := Or.inl (az_in 438 (by decide +kernel) (by decide +kernel))
theorem lkX7_98 : az_Lk RX7 98 yX6_byteAt := Or.inr ⟨"WayMarks", az_inN 442 (by decide +kernel) (by decide +kernel)⟩
theorem lkL_38 : az_Lk RL 38 yX7_reach := Or.inl (az_in 446 (by decide +kernel) (by decide +kernel))
theorem lkL_42 : az_Lk RL 42 yX7_price := Or.inl (az_in 450 (by decide +kernel) (by decide +kernel))
theorem lkL_46 : az_Lk RL 46 yX7_chance := Or.inl (az_in 454 (by decide +kernel) (by decide +kernel))
theorem lkL_50 : az_Lk RL 50 yX7_rule := Or.inl (az_in 458 (by decide +kernel) (by decide +kernel))
theorem lkL_54 : az_Lk RL 54 yX7_may := Or.inl (az_in 462 (by decide +kernel) (by decide +kernel))
theorem lkX7_124 : az_Lk RX7 124 yX2_need := Or.inr ⟨"WayMarks", az_inN 466 (by decide +kernel) (by decide +kernel)⟩
theorem lkL_59 : az_Lk RL 59 yX7_want := Or.inl (az_in 470 (by decide +kernel) (by decide +kernel))
theorem lkL_64 : az_Lk RL 64 yX7_way := Or.inl (az_in 474 (by decide +kernel) (by decide +kernel))
theorem lkX7_131 : az_Lk RX7 131 yX7_freshSight := Or.inl (az_in 478 (by decide +kernel) (by decide +kernel))
theorem lkX7_245 : az_Lk RX7 245 yX5_look := Or.inr ⟨"WayMarks", az_inN 482 (by decide +kernel) (by decide +kernel)⟩
theorem lkX5_40 : az_Lk RX5 40 yX2_besideBits := Or.inr ⟨"WayMarks", az_inN 486 (by decide +kernel) (by decide +kernel)⟩
theorem lkX5_44 : az_Lk RX5 44 yX5_findWays := Or.inl (az_in 490 (by decide +kernel) (by decide +kernel))
theorem lkX5_66 : az_Lk RX5 66 yX2_hasRoad := Or.inr ⟨"WayMarks", az_inN 494 (by decide +kernel) (by decide +kernel)⟩
theorem lkX5_73 : az_Lk RX5 73 yX5_shortenWays := Or.inl (az_in 496 (by decide +kernel) (by decide +kernel))
theorem lkX5_48 : az_Lk RX5 48 yX5_answerOf := Or.inl (az_in 500 (by decide +kernel) (by decide +kernel))
theorem lkX5_52 : az_Lk RX5 52 yX5_groupPosts := Or.inl (az_in 504 (by decide +kernel) (by decide +kernel))
theorem lkX5_83 : az_Lk RX5 83 yX5_sameAnswer := Or.inl (az_in 508 (by decide +kernel) (by decide +kernel))
theorem lkX5_56 : az_Lk RX5 56 yX5_findParters := Or.inl (az_in 512 (by decide +kernel) (by decide +kernel))
theorem lkX5_63 : az_Lk RX5 63 yX5_findYes := Or.inl (az_in 516 (by decide +kernel) (by decide +kernel))
theorem lkL_69 : az_Lk RL 69 yX7_of := Or.inl (az_in 520 (by decide +kernel) (by decide +kernel))
theorem lkX7_138 : az_Lk RX7 138 yX2_besideBits := Or.inr ⟨"WayMarks", az_inN 524 (by decide +kernel) (by decide +kernel)⟩
theorem lsX7_141 : Cond.methodLink RX7 141 yJ6_bitCount_0f7a4 ∈ az_tb := az_in 525 (by decide +kernel) (by decide +kernel)
theorem lkX7_146 : az_Lk RX7 146 yX5_countReachedFrom := Or.inr ⟨"WayMarks", az_inN 531 (by decide +kernel) (by decide +kernel)⟩
theorem lkL_73 : az_Lk RL 73 yX7_answer := Or.inl (az_in 535 (by decide +kernel) (by decide +kernel))
theorem lkL_77 : az_Lk RL 77 yX7_parts := Or.inl (az_in 539 (by decide +kernel) (by decide +kernel))
theorem lkX7_152 : az_Lk RX7 152 yX2_isSet := Or.inr ⟨"WayMarks", az_inN 543 (by decide +kernel) (by decide +kernel)⟩
theorem lsX7_155 : Cond.methodLink RX7 155 yJ9_min_7cf53 ∈ az_tb := az_in 547 (by decide +kernel) (by decide +kernel)
theorem lsX7_161 : Cond.methodLink RX7 161 yJ9_max_7cf53 ∈ az_tb := az_in 548 (by decide +kernel) (by decide +kernel)
theorem lkL_82 : az_Lk RL 82 yX7_clash := Or.inl (az_in 551 (by decide +kernel) (by decide +kernel))
theorem lkX7_167 : az_Lk RX7 167 yX5_firstPairLacking := Or.inr ⟨"WayMarks", az_inN 555 (by decide +kernel) (by decide +kernel)⟩
theorem lkX5_112 : az_Lk RX5 112 yX5_pairLacks := Or.inl (az_in 559 (by decide +kernel) (by decide +kernel))
theorem lsX5_87 : Cond.methodLink RX5 87 yJ6_bitCount_0f7a4 ∈ az_tb := az_in 563 (by decide +kernel) (by decide +kernel)
theorem lkX7_170 : az_Lk RX7 170 yX5_firstPostLacking := Or.inr ⟨"WayMarks", az_inN 564 (by decide +kernel) (by decide +kernel)⟩
theorem lkL_86 : az_Lk RL 86 yX7_twins := Or.inl (az_in 568 (by decide +kernel) (by decide +kernel))
theorem lkX7_173 : az_Lk RX7 173 yX5_twinPair := Or.inr ⟨"WayMarks", az_inN 572 (by decide +kernel) (by decide +kernel)⟩
theorem lkX5_109 : az_Lk RX5 109 yX5_areTwins := Or.inl (az_in 576 (by decide +kernel) (by decide +kernel))
theorem lsX5_101 : Cond.methodLink RX5 101 yJ9_min_7cf53 ∈ az_tb := az_in 580 (by decide +kernel) (by decide +kernel)
theorem lsX5_106 : Cond.methodLink RX5 106 yJ9_max_7cf53 ∈ az_tb := az_in 581 (by decide +kernel) (by decide +kernel)
theorem lkL_90 : az_Lk RL 90 yX7_least := Or.inl (az_in 582 (by decide +kernel) (by decide +kernel))
theorem lkX7_176 : az_Lk RX7 176 yX1_search := Or.inr ⟨"WayMarks", az_inN 586 (by decide +kernel) (by decide +kernel)⟩
theorem lkX1_43 : az_Lk RX1 43 yX2_need := Or.inr ⟨"WayMarks", az_inN 590 (by decide +kernel) (by decide +kernel)⟩
theorem lsX1_54 : Cond.methodLink RX1 54 yJ9_min_7cf53 ∈ az_tb := az_in 591 (by decide +kernel) (by decide +kernel)
theorem lkX1_60 : az_Lk RX1 60 yX1_gatherDemands := Or.inl (az_in 592 (by decide +kernel) (by decide +kernel))
theorem lkX1_69 : az_Lk RX1 69 yX5_areTwins := Or.inr ⟨"WayMarks", az_inN 596 (by decide +kernel) (by decide +kernel)⟩
theorem lkX1_78 : az_Lk RX1 78 yX1_demand := Or.inl (az_in 597 (by decide +kernel) (by decide +kernel))
theorem lkX1_65 : az_Lk RX1 65 yX1_decide := Or.inl (az_in 602 (by decide +kernel) (by decide +kernel))
theorem lkX1_89 : az_Lk RX1 89 yX1_canBeMet := Or.inl (az_in 606 (by decide +kernel) (by decide +kernel))
theorem lsX1_102 : Cond.methodLink RX1 102 yJ6_bitCount_0f7a4 ∈ az_tb := az_in 610 (by decide +kernel) (by decide +kernel)
theorem lkX1_92 : az_Lk RX1 92 yX1_takeIfBest := Or.inl (az_in 611 (by decide +kernel) (by decide +kernel))
theorem lsX1_96 : Cond.methodLink RX1 96 yJ6_numberOfTrailingZeros_0f7a4 ∈ az_tb := az_in 615 (by decide +kernel) (by decide +kernel)
theorem lkX7_180 : az_Lk RX7 180 yX7_tellChoice := Or.inl (az_in 619 (by decide +kernel) (by decide +kernel))
theorem lkL_94 : az_Lk RL 94 yX7_every := Or.inl (az_in 623 (by decide +kernel) (by decide +kernel))
theorem lkL_98 : az_Lk RL 98 yX7_cheapest := Or.inl (az_in 627 (by decide +kernel) (by decide +kernel))
theorem lkL_102 : az_Lk RL 102 yX7_set := Or.inl (az_in 631 (by decide +kernel) (by decide +kernel))
theorem lkL_106 : az_Lk RL 106 yX7_shown := Or.inl (az_in 635 (by decide +kernel) (by decide +kernel))
theorem lkX7_186 : az_Lk RX7 186 yX5_countApartPairs := Or.inr ⟨"WayMarks", az_inN 639 (by decide +kernel) (by decide +kernel)⟩
theorem lkX5_116 : az_Lk RX5 116 yX5_goThroughApartPairs := Or.inl (az_in 643 (by decide +kernel) (by decide +kernel))
theorem lkL_110 : az_Lk RL 110 yX7_pair := Or.inl (az_in 647 (by decide +kernel) (by decide +kernel))
theorem lkX7_189 : az_Lk RX7 189 yX5_apartPair := Or.inr ⟨"WayMarks", az_inN 651 (by decide +kernel) (by decide +kernel)⟩
theorem lkL_114 : az_Lk RL 114 yX7_greedy := Or.inl (az_in 655 (by decide +kernel) (by decide +kernel))
theorem lkX7_192 : az_Lk RX7 192 yX5_greedySet := Or.inr ⟨"WayMarks", az_inN 659 (by decide +kernel) (by decide +kernel)⟩
theorem lkX5_120 : az_Lk RX5 120 yX5_markPartingMost := Or.inl (az_in 663 (by decide +kernel) (by decide +kernel))
theorem lkX5_123 : az_Lk RX5 123 yX5_countLackingPartedBy := Or.inl (az_in 667 (by decide +kernel) (by decide +kernel))
theorem lkX7_195 : az_Lk RX7 195 yX5_countPairsLacking := Or.inr ⟨"WayMarks", az_inN 671 (by decide +kernel) (by decide +kernel)⟩
theorem lkL_118 : az_Lk RL 118 yX7_word := Or.inl (az_in 675 (by decide +kernel) (by decide +kernel))
theorem lkX7_198 : az_Lk RX7 198 yX2_hasWord := Or.inr ⟨"WayMarks", az_inN 679 (by decide +kernel) (by decide +kernel)⟩
theorem lkL_122 : az_Lk RL 122 yX7_clear := Or.inl (az_in 683 (by decide +kernel) (by decide +kernel))
theorem lkL_126 : az_Lk RL 126 yX7_fits := Or.inl (az_in 687 (by decide +kernel) (by decide +kernel))
theorem lkX7_207 : az_Lk RX7 207 yX7_fitsWords := Or.inl (az_in 691 (by decide +kernel) (by decide +kernel))
theorem lkX7_210 : az_Lk RX7 210 yX7_wordsAgainst := Or.inl (az_in 695 (by decide +kernel) (by decide +kernel))
theorem lkL_130 : az_Lk RL 130 yX7_where := Or.inl (az_in 699 (by decide +kernel) (by decide +kernel))
theorem lkL_134 : az_Lk RL 134 yX7_against := Or.inl (az_in 703 (by decide +kernel) (by decide +kernel))
theorem lkL_138 : az_Lk RL 138 yX7_worst := Or.inl (az_in 707 (by decide +kernel) (by decide +kernel))
theorem lkX7_213 : az_Lk RX7 213 yX7_canBeAsked := Or.inl (az_in 711 (by decide +kernel) (by decide +kernel))
theorem lkX7_216 : az_Lk RX7 216 yX0_prepare := Or.inr ⟨"WayMarks", az_inN 715 (by decide +kernel) (by decide +kernel)⟩
theorem lkX0_43 : az_Lk RX0 43 yX0_findPlaces := Or.inl (az_in 719 (by decide +kernel) (by decide +kernel))
theorem lkX0_51 : az_Lk RX0 51 yX0_placeOf := Or.inl (az_in 723 (by decide +kernel) (by decide +kernel))
theorem lkX0_56 : az_Lk RX0 56 yX5_areTwins := Or.inr ⟨"WayMarks", az_inN 727 (by decide +kernel) (by decide +kernel)⟩
theorem lkX0_47 : az_Lk RX0 47 yX0_groupPlaces := Or.inl (az_in 728 (by decide +kernel) (by decide +kernel))
theorem lkX7_220 : az_Lk RX7 220 yX0_leastCost := Or.inr ⟨"WayMarks", az_inN 732 (by decide +kernel) (by decide +kernel)⟩
theorem lkX0_64 : az_Lk RX0 64 yX0_costOf := Or.inl (az_in 736 (by decide +kernel) (by decide +kernel))
theorem lkX0_69 : az_Lk RX0 69 yX0_costOfAsking := Or.inl (az_in 741 (by decide +kernel) (by decide +kernel))
theorem lsX0_78 : Cond.methodLink RX0 78 yJ9_max_7cf53 ∈ az_tb := az_in 745 (by decide +kernel) (by decide +kernel)
theorem lkX0_81 : az_Lk RX0 81 yX0_chanceOf := Or.inl (az_in 746 (by decide +kernel) (by decide +kernel))
theorem lsX0_73 : Cond.methodLink RX0 73 yJ9_min_7cf53 ∈ az_tb := az_in 750 (by decide +kernel) (by decide +kernel)
theorem lkL_142 : az_Lk RL 142 yX7_next := Or.inl (az_in 751 (by decide +kernel) (by decide +kernel))
theorem lkX7_223 : az_Lk RX7 223 yX0_firstMark := Or.inr ⟨"WayMarks", az_inN 755 (by decide +kernel) (by decide +kernel)⟩
theorem lkL_146 : az_Lk RL 146 yX7_mean := Or.inl (az_in 759 (by decide +kernel) (by decide +kernel))
theorem lkL_150 : az_Lk RL 150 yX7_seek := Or.inl (az_in 763 (by decide +kernel) (by decide +kernel))
theorem lkX7_226 : az_Lk RX7 226 yX4_fewestRounds := Or.inr ⟨"WayMarks", az_inN 767 (by decide +kernel) (by decide +kernel)⟩
theorem lsX4_24 : Cond.methodLink RX4 24 yJ9_min_7cf53 ∈ az_tb := az_in 771 (by decide +kernel) (by decide +kernel)
theorem lkX4_30 : az_Lk RX4 30 yX4_prepare := Or.inl (az_in 772 (by decide +kernel) (by decide +kernel))
theorem lsX4_38 : Cond.methodLink RX4 38 yJ6_numberOfTrailingZeros_0f7a4 ∈ az_tb := az_in 776 (by decide +kernel) (by decide +kernel)
theorem lkX4_34 : az_Lk RX4 34 yX4_findInRound := Or.inl (az_in 777 (by decide +kernel) (by decide +kernel))
theorem lkX4_47 : az_Lk RX4 47 yX4_someMarkFinds := Or.inl (az_in 781 (by decide +kernel) (by decide +kernel))
theorem lkX4_50 : az_Lk RX4 50 yX4_markFinds := Or.inl (az_in 785 (by decide +kernel) (by decide +kernel))
theorem lkL_154 : az_Lk RL 154 yX7_tree := Or.inl (az_in 789 (by decide +kernel) (by decide +kernel))
theorem lkX7_230 : az_Lk RX7 230 yX2_countRoads := Or.inr ⟨"WayMarks", az_inN 793 (by decide +kernel) (by decide +kernel)⟩
theorem lkX2_70 : az_Lk RX2 70 yX2_besideBits := Or.inl (az_in 797 (by decide +kernel) (by decide +kernel))
theorem lsX2_74 : Cond.methodLink RX2 74 yJ6_bitCount_0f7a4 ∈ az_tb := az_in 798 (by decide +kernel) (by decide +kernel)
theorem lkX7_233 : az_Lk RX7 233 yX5_leavesLessKnots := Or.inr ⟨"WayMarks", az_inN 799 (by decide +kernel) (by decide +kernel)⟩
theorem lkX5_92 : az_Lk RX5 92 yX5_countBeside := Or.inl (az_in 803 (by decide +kernel) (by decide +kernel))
theorem lkX5_95 : az_Lk RX5 95 yX5_knotOfLeaf := Or.inl (az_in 807 (by decide +kernel) (by decide +kernel))
theorem lsX5_98 : Cond.methodLink RX5 98 yJ6_numberOfTrailingZeros_0f7a4 ∈ az_tb := az_in 811 (by decide +kernel) (by decide +kernel)
theorem lkL_158 : az_Lk RL 158 yX7_undo := Or.inl (az_in 812 (by decide +kernel) (by decide +kernel))
theorem lkX7_237 : az_Lk RX7 237 yX3_goBack := Or.inr ⟨"WayMarks", az_inN 816 (by decide +kernel) (by decide +kernel)⟩
theorem lsX3_35 : Cond.methodLink RX3 35 yJ9_floorMod_7cf53 ∈ az_tb := az_in 820 (by decide +kernel) (by decide +kernel)
theorem lkL_162 : az_Lk RL 162 yX7_about := Or.inl (az_in 823 (by decide +kernel) (by decide +kernel))
theorem lkX8_48 : az_Lk RX8 48 yX8_first := Or.inl (az_in 835 (by decide +kernel) (by decide +kernel))
theorem lkX8_52 : az_Lk RX8 52 yX8_walk := Or.inl (az_in 839 (by decide +kernel) (by decide +kernel))
theorem lkX8_70 : az_Lk RX8 70 yX8_length := Or.inl (az_in 843 (by decide +kernel) (by decide +kernel))
theorem lkX8_62 : az_Lk RX8 62 yX8_n := Or.inl (az_in 848 (by decide +kernel) (by decide +kernel))
theorem lkX8_75 : az_Lk RX8 75 yX8_says := Or.inl (az_in 852 (by decide +kernel) (by decide +kernel))
theorem lkL_161 : az_Lk RL 161 yX8_undo := Or.inl (az_in 905 (by decide +kernel) (by decide +kernel))
theorem lkL_17 : az_Lk RL 17 yX8_post := Or.inl (az_in 909 (by decide +kernel) (by decide +kernel))
theorem lkX8_78 : az_Lk RX8 78 yX8_act := Or.inl (az_in 913 (by decide +kernel) (by decide +kernel))
theorem lkL_22 : az_Lk RL 22 yX8_road := Or.inl (az_in 917 (by decide +kernel) (by decide +kernel))
theorem lkX8_81 : az_Lk RX8 81 yX8_isRoad := Or.inl (az_in 921 (by decide +kernel) (by decide +kernel))
theorem lkX8_66 : az_Lk RX8 66 yX8_isPost := Or.inl (az_in 925 (by decide +kernel) (by decide +kernel))
theorem lkX8_85 : az_Lk RX8 85 yX8_lay := Or.inl (az_in 929 (by decide +kernel) (by decide +kernel))
theorem lkL_27 : az_Lk RL 27 yX8_cut := Or.inl (az_in 933 (by decide +kernel) (by decide +kernel))
theorem lkL_32 : az_Lk RL 32 yX8_feed := Or.inl (az_in 937 (by decide +kernel) (by decide +kernel))
theorem lkX8_92 : az_Lk RX8 92 yX8_four := Or.inl (az_in 941 (by decide +kernel) (by decide +kernel))
theorem lkL_37 : az_Lk RL 37 yX8_roads := Or.inl (az_in 945 (by decide +kernel) (by decide +kernel))
theorem lkL_41 : az_Lk RL 41 yX8_reach := Or.inl (az_in 949 (by decide +kernel) (by decide +kernel))
theorem lkL_45 : az_Lk RL 45 yX8_price := Or.inl (az_in 953 (by decide +kernel) (by decide +kernel))
theorem lkL_49 : az_Lk RL 49 yX8_chance := Or.inl (az_in 957 (by decide +kernel) (by decide +kernel))
theorem lkL_53 : az_Lk RL 53 yX8_rule := Or.inl (az_in 961 (by decide +kernel) (by decide +kernel))
theorem lkL_58 : az_Lk RL 58 yX8_may := Or.inl (az_in 965 (by decide +kernel) (by decide +kernel))
theorem lkX8_95 : az_Lk RX8 95 yX8_need := Or.inl (az_in 969 (by decide +kernel) (by decide +kernel))
theorem lkL_63 : az_Lk RL 63 yX8_want := Or.inl (az_in 973 (by decide +kernel) (by decide +kernel))
theorem lkL_68 : az_Lk RL 68 yX8_way := Or.inl (az_in 977 (by decide +kernel) (by decide +kernel))
theorem lkL_72 : az_Lk RL 72 yX8_of := Or.inl (az_in 981 (by decide +kernel) (by decide +kernel))
theorem lkX8_98 : az_Lk RX8 98 yX8_besideBits := Or.inl (az_in 985 (by decide +kernel) (by decide +kernel))
theorem lsX8_102 : Cond.methodLink RX8 102 yX8_many ∈ az_tb := az_in 989 (by decide +kernel) (by decide +kernel)
theorem lkL_76 : az_Lk RL 76 yX8_answer := Or.inl (az_in 992 (by decide +kernel) (by decide +kernel))
theorem lkX8_105 : az_Lk RX8 105 yX8_answerOf := Or.inl (az_in 996 (by decide +kernel) (by decide +kernel))
theorem lkL_81 : az_Lk RL 81 yX8_parts := Or.inl (az_in 1000 (by decide +kernel) (by decide +kernel))
theorem lkX8_118 : az_Lk RX8 118 yX8_isSet := Or.inl (az_in 1004 (by decide +kernel) (by decide +kernel))
theorem lkX8_111 : az_Lk RX8 111 yX8_parting := Or.inl (az_in 1008 (by decide +kernel) (by decide +kernel))
theorem lkX8_108 : az_Lk RX8 108 yX8_isParting := Or.inl (az_in 1012 (by decide +kernel) (by decide +kernel))
theorem lkL_85 : az_Lk RL 85 yX8_clash := Or.inl (az_in 1016 (by decide +kernel) (by decide +kernel))
theorem lkX8_124 : az_Lk RX8 124 yX8_gather := Or.inl (az_in 1020 (by decide +kernel) (by decide +kernel))
theorem lkX8_121 : az_Lk RX8 121 yX8_yes := Or.inl (az_in 1024 (by decide +kernel) (by decide +kernel))
theorem lkX8_114 : az_Lk RX8 114 yX8_isYes := Or.inl (az_in 1028 (by decide +kernel) (by decide +kernel))
theorem lkX8_127 : az_Lk RX8 127 yX8_clashOf := Or.inl (az_in 1032 (by decide +kernel) (by decide +kernel))
theorem lkL_89 : az_Lk RL 89 yX8_twins := Or.inl (az_in 1036 (by decide +kernel) (by decide +kernel))
theorem lkX8_130 : az_Lk RX8 130 yX8_areTwins := Or.inl (az_in 1040 (by decide +kernel) (by decide +kernel))
theorem lkL_93 : az_Lk RL 93 yX8_least := Or.inl (az_in 1044 (by decide +kernel) (by decide +kernel))
theorem lkX8_136 : az_Lk RX8 136 yX8_best := Or.inl (az_in 1048 (by decide +kernel) (by decide +kernel))
theorem lkX8_133 : az_Lk RX8 133 yX8_price_ := Or.inl (az_in 1052 (by decide +kernel) (by decide +kernel))
theorem lkL_97 : az_Lk RL 97 yX8_every := Or.inl (az_in 1056 (by decide +kernel) (by decide +kernel))
theorem lkL_101 : az_Lk RL 101 yX8_cheapest := Or.inl (az_in 1060 (by decide +kernel) (by decide +kernel))
theorem lkL_105 : az_Lk RL 105 yX8_set := Or.inl (az_in 1064 (by decide +kernel) (by decide +kernel))
theorem lkL_109 : az_Lk RL 109 yX8_shown := Or.inl (az_in 1068 (by decide +kernel) (by decide +kernel))
theorem lkX8_143 : az_Lk RX8 143 yX8_show := Or.inl (az_in 1072 (by decide +kernel) (by decide +kernel))
theorem lkL_113 : az_Lk RL 113 yX8_pair := Or.inl (az_in 1076 (by decide +kernel) (by decide +kernel))
theorem lkL_117 : az_Lk RL 117 yX8_greedy := Or.inl (az_in 1080 (by decide +kernel) (by decide +kernel))
theorem lkX8_146 : az_Lk RX8 146 yX8_lacks := Or.inl (az_in 1084 (by decide +kernel) (by decide +kernel))
theorem lkL_121 : az_Lk RL 121 yX8_word := Or.inl (az_in 1088 (by decide +kernel) (by decide +kernel))
theorem lkL_125 : az_Lk RL 125 yX8_clear := Or.inl (az_in 1092 (by decide +kernel) (by decide +kernel))
theorem lkL_129 : az_Lk RL 129 yX8_fits := Or.inl (az_in 1096 (by decide +kernel) (by decide +kernel))
theorem lkX8_152 : az_Lk RX8 152 yX8_isFit := Or.inl (az_in 1100 (by decide +kernel) (by decide +kernel))
theorem lkX8_149 : az_Lk RX8 149 yX8_againstBits := Or.inl (az_in 1104 (by decide +kernel) (by decide +kernel))
theorem lkL_133 : az_Lk RL 133 yX8_where := Or.inl (az_in 1108 (by decide +kernel) (by decide +kernel))
theorem lkL_137 : az_Lk RL 137 yX8_against := Or.inl (az_in 1112 (by decide +kernel) (by decide +kernel))
theorem lkL_141 : az_Lk RL 141 yX8_worst := Or.inl (az_in 1116 (by decide +kernel) (by decide +kernel))
theorem lkX8_166 : az_Lk RX8 166 yX8_isAsked := Or.inl (az_in 1120 (by decide +kernel) (by decide +kernel))
theorem lkX8_169 : az_Lk RX8 169 yX8_fill := Or.inl (az_in 1124 (by decide +kernel) (by decide +kernel))
theorem lkX8_155 : az_Lk RX8 155 yX8_fillOne := Or.inl (az_in 1128 (by decide +kernel) (by decide +kernel))
theorem lkX8_158 : az_Lk RX8 158 yX8_isDone := Or.inl (az_in 1132 (by decide +kernel) (by decide +kernel))
theorem lkX8_162 : az_Lk RX8 162 yX8_staying := Or.inl (az_in 1137 (by decide +kernel) (by decide +kernel))
theorem lkL_145 : az_Lk RL 145 yX8_next := Or.inl (az_in 1141 (by decide +kernel) (by decide +kernel))
theorem lkL_149 : az_Lk RL 149 yX8_mean := Or.inl (az_in 1145 (by decide +kernel) (by decide +kernel))
theorem lkL_153 : az_Lk RL 153 yX8_seek := Or.inl (az_in 1149 (by decide +kernel) (by decide +kernel))
theorem lkX8_172 : az_Lk RX8 172 yX8_isFoundIn := Or.inl (az_in 1153 (by decide +kernel) (by decide +kernel))
theorem lkX8_175 : az_Lk RX8 175 yX8_moved := Or.inl (az_in 1157 (by decide +kernel) (by decide +kernel))
theorem lkL_157 : az_Lk RL 157 yX8_tree := Or.inl (az_in 1161 (by decide +kernel) (by decide +kernel))
theorem lkX8_178 : az_Lk RX8 178 yX8_of := Or.inl (az_in 1165 (by decide +kernel) (by decide +kernel))
theorem lkX8_181 : az_Lk RX8 181 yX8_isLed := Or.inl (az_in 1166 (by decide +kernel) (by decide +kernel))
theorem lsX8_184 : Cond.methodLink RX8 184 yX8_only ∈ az_tb := az_in 1170 (by decide +kernel) (by decide +kernel)
theorem lkL_165 : az_Lk RL 165 yX8_about := Or.inl (az_in 1173 (by decide +kernel) (by decide +kernel))
theorem kcX5_62 : Cond.constant RX5 62 (1000000) ∈ az_tb := az_in 495 (by decide +kernel) (by decide +kernel)
theorem kcJ6_265 : Cond.constant RJ6 265 (1431655765) ∈ az_tb := az_in 528 (by decide +kernel) (by decide +kernel)
theorem kcJ6_266 : Cond.constant RJ6 266 (858993459) ∈ az_tb := az_in 529 (by decide +kernel) (by decide +kernel)
theorem kcJ6_267 : Cond.constant RJ6 267 (252645135) ∈ az_tb := az_in 530 (by decide +kernel) (by decide +kernel)
theorem kcX1_64 : Cond.constant RX1 64 (1000000) ∈ az_tb := az_in 601 (by decide +kernel) (by decide +kernel)
theorem kcJ6_264 : Cond.constant RJ6 264 (65536) ∈ az_tb := az_in 618 (by decide +kernel) (by decide +kernel)
theorem kcX0_68 : Cond.constant RX0 68 (1000000000) ∈ az_tb := az_in 740 (by decide +kernel) (by decide +kernel)
theorem kcX8_13 : Cond.constant RX8 13 (36000) ∈ az_tb := az_in 833 (by decide +kernel) (by decide +kernel)
theorem kcX8_35 : Cond.constant RX8 35 (65536) ∈ az_tb := az_in 834 (by decide +kernel) (by decide +kernel)
theorem kcX8_74 : Cond.constant RX8 74 (1000000) ∈ az_tb := az_in 847 (by decide +kernel) (by decide +kernel)
theorem kcX8_161 : Cond.constant RX8 161 (2147483647) ∈ az_tb := az_in 1136 (by decide +kernel) (by decide +kernel)
theorem az_acw : Cond.native arraycopyName ∈ az_tb ∧ Cond.static arraycopyName ∈ az_tb ∧ Cond.initialized "java/lang/System" ∈ az_tb := ⟨az_in 396 (by decide +kernel) (by decide +kernel), az_in 395 (by decide +kernel) (by decide +kernel), az_in 111 (by decide +kernel) (by decide +kernel)⟩
theorem sh_0 : az_Ob 0 7 ([some 1, some 7, some 369, some 371, some 379, some 382, some 388, none, none]) := ⟨by decide +kernel, by decide +kernel⟩
theorem sh_1 : az_Ob 1 2 (az_net 1) := ⟨by decide +kernel, by decide +kernel⟩
theorem sh_2 : az_Ar 2 256 := ⟨by decide +kernel, by decide +kernel⟩
theorem sh_3 : az_Ar 3 16 := ⟨by decide +kernel, by decide +kernel⟩
theorem sh_4 : az_Ar 4 16 := ⟨by decide +kernel, by decide +kernel⟩
theorem sh_5 : az_Ar 5 16 := ⟨by decide +kernel, by decide +kernel⟩
theorem sh_6 : az_Ar 6 16 := ⟨by decide +kernel, by decide +kernel⟩
theorem sh_7 : az_Ob 7 3 ([some 8, none, none]) := ⟨by decide +kernel, by decide +kernel⟩
theorem sh_8 : 8 < az_K ∧ az_sh 8 = .inr (.inr az_past) := ⟨by decide +kernel, by decide +kernel⟩
theorem sh_369 : az_Ob 369 6 ([some 370, none]) := ⟨by decide +kernel, by decide +kernel⟩
theorem sh_370 : az_Ar 370 400 := ⟨by decide +kernel, by decide +kernel⟩
theorem sh_371 : az_Ob 371 5 ([none, some 372, some 373, some 374, some 375, some 376, some 377, some 378]) := ⟨by decide +kernel, by decide +kernel⟩
theorem sh_372 : az_Ar 372 16 := ⟨by decide +kernel, by decide +kernel⟩
theorem sh_373 : az_Ar 373 256 := ⟨by decide +kernel, by decide +kernel⟩
theorem sh_374 : az_Ar 374 256 := ⟨by decide +kernel, by decide +kernel⟩
theorem sh_375 : az_Ar 375 256 := ⟨by decide +kernel, by decide +kernel⟩
theorem sh_376 : az_Ar 376 16 := ⟨by decide +kernel, by decide +kernel⟩
theorem sh_377 : az_Ar 377 256 := ⟨by decide +kernel, by decide +kernel⟩
theorem sh_378 : az_Ar 378 16 := ⟨by decide +kernel, by decide +kernel⟩
theorem sh_379 : az_Ob 379 1 ([some 380, none, none, some 381, none, none, none, none, none, none]) := ⟨by decide +kernel, by decide +kernel⟩
theorem sh_380 : az_Ar 380 256 := ⟨by decide +kernel, by decide +kernel⟩
theorem sh_381 : az_Ar 381 16 := ⟨by decide +kernel, by decide +kernel⟩
theorem sh_382 : az_Ob 382 0 ([some 383, some 384, some 385, none, none, none, some 386, some 387]) := ⟨by decide +kernel, by decide +kernel⟩
theorem sh_383 : az_Ar 383 4096 := ⟨by decide +kernel, by decide +kernel⟩
theorem sh_384 : az_Ar 384 12 := ⟨by decide +kernel, by decide +kernel⟩
theorem sh_385 : az_Ar 385 12 := ⟨by decide +kernel, by decide +kernel⟩
theorem sh_386 : az_Ar 386 256 := ⟨by decide +kernel, by decide +kernel⟩
theorem sh_387 : az_Ar 387 16 := ⟨by decide +kernel, by decide +kernel⟩
theorem sh_388 : az_Ob 388 4 ([some 389, some 390]) := ⟨by decide +kernel, by decide +kernel⟩
theorem sh_389 : az_Ar 389 1024 := ⟨by decide +kernel, by decide +kernel⟩
theorem sh_390 : az_Ar 390 1024 := ⟨by decide +kernel, by decide +kernel⟩
theorem sh_391 : az_Ob 391 8 ([some 392, some 393, none, none, some 394, none, none, some 395, some 396, some 397, some 398, some 399, some 400, some 401, some 402, some 403]) := ⟨by decide +kernel, by decide +kernel⟩
theorem sh_392 : az_Ar 392 600 := ⟨by decide +kernel, by decide +kernel⟩
theorem sh_393 : az_Ar 393 36000 := ⟨by decide +kernel, by decide +kernel⟩
theorem sh_394 : az_Ar 394 400 := ⟨by decide +kernel, by decide +kernel⟩
theorem sh_395 : az_Ar 395 256 := ⟨by decide +kernel, by decide +kernel⟩
theorem sh_396 : az_Ar 396 256 := ⟨by decide +kernel, by decide +kernel⟩
theorem sh_397 : az_Ar 397 256 := ⟨by decide +kernel, by decide +kernel⟩
theorem sh_398 : az_Ar 398 16 := ⟨by decide +kernel, by decide +kernel⟩
theorem sh_399 : az_Ar 399 120 := ⟨by decide +kernel, by decide +kernel⟩
theorem sh_400 : az_Ar 400 65536 := ⟨by decide +kernel, by decide +kernel⟩
theorem sh_401 : az_Ar 401 65536 := ⟨by decide +kernel, by decide +kernel⟩
theorem sh_402 : az_Ar 402 65536 := ⟨by decide +kernel, by decide +kernel⟩
theorem sh_403 : az_Ar 403 1024 := ⟨by decide +kernel, by decide +kernel⟩
end
section
theorem dJ6_numberOfTrailingZeros_0f7a4_0 : decode cJ6_numberOfTrailingZeros_0f7a4 0 = .ok (.iload_n 0, 1) := by decide +kernel
theorem dJ6_numberOfTrailingZeros_0f7a4_1 : decode cJ6_numberOfTrailingZeros_0f7a4 1 = .ok (.iconst (-1), 1) := by decide +kernel
theorem dJ6_numberOfTrailingZeros_0f7a4_2 : decode cJ6_numberOfTrailingZeros_0f7a4 2 = .ok (.ixor, 1) := by decide +kernel
theorem dJ6_numberOfTrailingZeros_0f7a4_3 : decode cJ6_numberOfTrailingZeros_0f7a4 3 = .ok (.iload_n 0, 1) := by decide +kernel
theorem dJ6_numberOfTrailingZeros_0f7a4_4 : decode cJ6_numberOfTrailingZeros_0f7a4 4 = .ok (.iconst 1, 1) := by decide +kernel
theorem dJ6_numberOfTrailingZeros_0f7a4_5 : decode cJ6_numberOfTrailingZeros_0f7a4 5 = .ok (.isub, 1) := by decide +kernel
theorem dJ6_numberOfTrailingZeros_0f7a4_6 : decode cJ6_numberOfTrailingZeros_0f7a4 6 = .ok (.iand, 1) := by decide +kernel
theorem dJ6_numberOfTrailingZeros_0f7a4_7 : decode cJ6_numberOfTrailingZeros_0f7a4 7 = .ok (.istore_n 0, 1) := by decide +kernel
theorem dJ6_numberOfTrailingZeros_0f7a4_8 : decode cJ6_numberOfTrailingZeros_0f7a4 8 = .ok (.iload_n 0, 1) := by decide +kernel
theorem dJ6_numberOfTrailingZeros_0f7a4_9 : decode cJ6_numberOfTrailingZeros_0f7a4 9 = .ok (.ifCond .gt 8, 3) := by decide +kernel
theorem dJ6_numberOfTrailingZeros_0f7a4_12 : decode cJ6_numberOfTrailingZeros_0f7a4 12 = .ok (.iload_n 0, 1) := by decide +kernel
theorem dJ6_numberOfTrailingZeros_0f7a4_13 : decode cJ6_numberOfTrailingZeros_0f7a4 13 = .ok (.bipush 32, 2) := by decide +kernel
theorem dJ6_numberOfTrailingZeros_0f7a4_15 : decode cJ6_numberOfTrailingZeros_0f7a4 15 = .ok (.iand, 1) := by decide +kernel
theorem dJ6_numberOfTrailingZeros_0f7a4_16 : decode cJ6_numberOfTrailingZeros_0f7a4 16 = .ok (.ireturn, 1) := by decide +kernel
theorem dJ6_numberOfTrailingZeros_0f7a4_17 : decode cJ6_numberOfTrailingZeros_0f7a4 17 = .ok (.iconst 1, 1) := by decide +kernel
theorem dJ6_numberOfTrailingZeros_0f7a4_18 : decode cJ6_numberOfTrailingZeros_0f7a4 18 = .ok (.istore_n 1, 1) := by decide +kernel
theorem dJ6_numberOfTrailingZeros_0f7a4_19 : decode cJ6_numberOfTrailingZeros_0f7a4 19 = .ok (.iload_n 0, 1) := by decide +kernel
theorem dJ6_numberOfTrailingZeros_0f7a4_20 : decode cJ6_numberOfTrailingZeros_0f7a4 20 = .ok (.ldc_w 264, 3) := by decide +kernel
theorem dJ6_numberOfTrailingZeros_0f7a4_23 : decode cJ6_numberOfTrailingZeros_0f7a4 23 = .ok (.if_icmp .le 11, 3) := by decide +kernel
theorem dJ6_numberOfTrailingZeros_0f7a4_26 : decode cJ6_numberOfTrailingZeros_0f7a4 26 = .ok (.iinc 1 16, 3) := by decide +kernel
theorem dJ6_numberOfTrailingZeros_0f7a4_29 : decode cJ6_numberOfTrailingZeros_0f7a4 29 = .ok (.iload_n 0, 1) := by decide +kernel
theorem dJ6_numberOfTrailingZeros_0f7a4_30 : decode cJ6_numberOfTrailingZeros_0f7a4 30 = .ok (.bipush 16, 2) := by decide +kernel
theorem dJ6_numberOfTrailingZeros_0f7a4_32 : decode cJ6_numberOfTrailingZeros_0f7a4 32 = .ok (.iushr, 1) := by decide +kernel
theorem dJ6_numberOfTrailingZeros_0f7a4_33 : decode cJ6_numberOfTrailingZeros_0f7a4 33 = .ok (.istore_n 0, 1) := by decide +kernel
theorem dJ6_numberOfTrailingZeros_0f7a4_34 : decode cJ6_numberOfTrailingZeros_0f7a4 34 = .ok (.iload_n 0, 1) := by decide +kernel
theorem dJ6_numberOfTrailingZeros_0f7a4_35 : decode cJ6_numberOfTrailingZeros_0f7a4 35 = .ok (.sipush 256, 3) := by decide +kernel
theorem dJ6_numberOfTrailingZeros_0f7a4_38 : decode cJ6_numberOfTrailingZeros_0f7a4 38 = .ok (.if_icmp .le 11, 3) := by decide +kernel
theorem dJ6_numberOfTrailingZeros_0f7a4_41 : decode cJ6_numberOfTrailingZeros_0f7a4 41 = .ok (.iinc 1 8, 3) := by decide +kernel
theorem dJ6_numberOfTrailingZeros_0f7a4_44 : decode cJ6_numberOfTrailingZeros_0f7a4 44 = .ok (.iload_n 0, 1) := by decide +kernel
theorem dJ6_numberOfTrailingZeros_0f7a4_45 : decode cJ6_numberOfTrailingZeros_0f7a4 45 = .ok (.bipush 8, 2) := by decide +kernel
theorem dJ6_numberOfTrailingZeros_0f7a4_47 : decode cJ6_numberOfTrailingZeros_0f7a4 47 = .ok (.iushr, 1) := by decide +kernel
theorem dJ6_numberOfTrailingZeros_0f7a4_48 : decode cJ6_numberOfTrailingZeros_0f7a4 48 = .ok (.istore_n 0, 1) := by decide +kernel
theorem dJ6_numberOfTrailingZeros_0f7a4_49 : decode cJ6_numberOfTrailingZeros_0f7a4 49 = .ok (.iload_n 0, 1) := by decide +kernel
theorem dJ6_numberOfTrailingZeros_0f7a4_50 : decode cJ6_numberOfTrailingZeros_0f7a4 50 = .ok (.bipush 16, 2) := by decide +kernel
theorem dJ6_numberOfTrailingZeros_0f7a4_52 : decode cJ6_numberOfTrailingZeros_0f7a4 52 = .ok (.if_icmp .le 10, 3) := by decide +kernel
theorem dJ6_numberOfTrailingZeros_0f7a4_55 : decode cJ6_numberOfTrailingZeros_0f7a4 55 = .ok (.iinc 1 4, 3) := by decide +kernel
theorem dJ6_numberOfTrailingZeros_0f7a4_58 : decode cJ6_numberOfTrailingZeros_0f7a4 58 = .ok (.iload_n 0, 1) := by decide +kernel
theorem dJ6_numberOfTrailingZeros_0f7a4_59 : decode cJ6_numberOfTrailingZeros_0f7a4 59 = .ok (.iconst 4, 1) := by decide +kernel
theorem dJ6_numberOfTrailingZeros_0f7a4_60 : decode cJ6_numberOfTrailingZeros_0f7a4 60 = .ok (.iushr, 1) := by decide +kernel
theorem dJ6_numberOfTrailingZeros_0f7a4_61 : decode cJ6_numberOfTrailingZeros_0f7a4 61 = .ok (.istore_n 0, 1) := by decide +kernel
theorem dJ6_numberOfTrailingZeros_0f7a4_62 : decode cJ6_numberOfTrailingZeros_0f7a4 62 = .ok (.iload_n 0, 1) := by decide +kernel
theorem dJ6_numberOfTrailingZeros_0f7a4_63 : decode cJ6_numberOfTrailingZeros_0f7a4 63 = .ok (.iconst 4, 1) := by decide +kernel
theorem dJ6_numberOfTrailingZeros_0f7a4_64 : decode cJ6_numberOfTrailingZeros_0f7a4 64 = .ok (.if_icmp .le 10, 3) := by decide +kernel
theorem dJ6_numberOfTrailingZeros_0f7a4_67 : decode cJ6_numberOfTrailingZeros_0f7a4 67 = .ok (.iinc 1 2, 3) := by decide +kernel
theorem dJ6_numberOfTrailingZeros_0f7a4_70 : decode cJ6_numberOfTrailingZeros_0f7a4 70 = .ok (.iload_n 0, 1) := by decide +kernel
theorem dJ6_numberOfTrailingZeros_0f7a4_71 : decode cJ6_numberOfTrailingZeros_0f7a4 71 = .ok (.iconst 2, 1) := by decide +kernel
theorem dJ6_numberOfTrailingZeros_0f7a4_72 : decode cJ6_numberOfTrailingZeros_0f7a4 72 = .ok (.iushr, 1) := by decide +kernel
theorem dJ6_numberOfTrailingZeros_0f7a4_73 : decode cJ6_numberOfTrailingZeros_0f7a4 73 = .ok (.istore_n 0, 1) := by decide +kernel
theorem dJ6_numberOfTrailingZeros_0f7a4_74 : decode cJ6_numberOfTrailingZeros_0f7a4 74 = .ok (.iload_n 1, 1) := by decide +kernel
theorem dJ6_numberOfTrailingZeros_0f7a4_75 : decode cJ6_numberOfTrailingZeros_0f7a4 75 = .ok (.iload_n 0, 1) := by decide +kernel
theorem dJ6_numberOfTrailingZeros_0f7a4_76 : decode cJ6_numberOfTrailingZeros_0f7a4 76 = .ok (.iconst 1, 1) := by decide +kernel
theorem dJ6_numberOfTrailingZeros_0f7a4_77 : decode cJ6_numberOfTrailingZeros_0f7a4 77 = .ok (.iushr, 1) := by decide +kernel
theorem dJ6_numberOfTrailingZeros_0f7a4_78 : decode cJ6_numberOfTrailingZeros_0f7a4 78 = .ok (.iadd, 1) := by decide +kernel
theorem dJ6_numberOfTrailingZeros_0f7a4_79 : decode cJ6_numberOfTrailingZeros_0f7a4 79 = .ok (.ireturn, 1) := by decide +kernel
theorem dJ6_bitCount_0f7a4_0 : decode cJ6_bitCount_0f7a4 0 = .ok (.iload_n 0, 1) := by decide +kernel
theorem dJ6_bitCount_0f7a4_1 : decode cJ6_bitCount_0f7a4 1 = .ok (.iload_n 0, 1) := by decide +kernel
theorem dJ6_bitCount_0f7a4_2 : decode cJ6_bitCount_0f7a4 2 = .ok (.iconst 1, 1) := by decide +kernel
theorem dJ6_bitCount_0f7a4_3 : decode cJ6_bitCount_0f7a4 3 = .ok (.iushr, 1) := by decide +kernel
theorem dJ6_bitCount_0f7a4_4 : decode cJ6_bitCount_0f7a4 4 = .ok (.ldc_w 265, 3) := by decide +kernel
theorem dJ6_bitCount_0f7a4_7 : decode cJ6_bitCount_0f7a4 7 = .ok (.iand, 1) := by decide +kernel
theorem dJ6_bitCount_0f7a4_8 : decode cJ6_bitCount_0f7a4 8 = .ok (.isub, 1) := by decide +kernel
theorem dJ6_bitCount_0f7a4_9 : decode cJ6_bitCount_0f7a4 9 = .ok (.istore_n 0, 1) := by decide +kernel
theorem dJ6_bitCount_0f7a4_10 : decode cJ6_bitCount_0f7a4 10 = .ok (.iload_n 0, 1) := by decide +kernel
theorem dJ6_bitCount_0f7a4_11 : decode cJ6_bitCount_0f7a4 11 = .ok (.ldc_w 266, 3) := by decide +kernel
theorem dJ6_bitCount_0f7a4_14 : decode cJ6_bitCount_0f7a4 14 = .ok (.iand, 1) := by decide +kernel
theorem dJ6_bitCount_0f7a4_15 : decode cJ6_bitCount_0f7a4 15 = .ok (.iload_n 0, 1) := by decide +kernel
theorem dJ6_bitCount_0f7a4_16 : decode cJ6_bitCount_0f7a4 16 = .ok (.iconst 2, 1) := by decide +kernel
theorem dJ6_bitCount_0f7a4_17 : decode cJ6_bitCount_0f7a4 17 = .ok (.iushr, 1) := by decide +kernel
theorem dJ6_bitCount_0f7a4_18 : decode cJ6_bitCount_0f7a4 18 = .ok (.ldc_w 266, 3) := by decide +kernel
theorem dJ6_bitCount_0f7a4_21 : decode cJ6_bitCount_0f7a4 21 = .ok (.iand, 1) := by decide +kernel
theorem dJ6_bitCount_0f7a4_22 : decode cJ6_bitCount_0f7a4 22 = .ok (.iadd, 1) := by decide +kernel
theorem dJ6_bitCount_0f7a4_23 : decode cJ6_bitCount_0f7a4 23 = .ok (.istore_n 0, 1) := by decide +kernel
theorem dJ6_bitCount_0f7a4_24 : decode cJ6_bitCount_0f7a4 24 = .ok (.iload_n 0, 1) := by decide +kernel
theorem dJ6_bitCount_0f7a4_25 : decode cJ6_bitCount_0f7a4 25 = .ok (.iload_n 0, 1) := by decide +kernel
theorem dJ6_bitCount_0f7a4_26 : decode cJ6_bitCount_0f7a4 26 = .ok (.iconst 4, 1) := by decide +kernel
theorem dJ6_bitCount_0f7a4_27 : decode cJ6_bitCount_0f7a4 27 = .ok (.iushr, 1) := by decide +kernel
theorem dJ6_bitCount_0f7a4_28 : decode cJ6_bitCount_0f7a4 28 = .ok (.iadd, 1) := by decide +kernel
theorem dJ6_bitCount_0f7a4_29 : decode cJ6_bitCount_0f7a4 29 = .ok (.ldc_w 267, 3) := by decide +kernel
theorem dJ6_bitCount_0f7a4_32 : decode cJ6_bitCount_0f7a4 32 = .ok (.iand, 1) := by decide +kernel
theorem dJ6_bitCount_0f7a4_33 : decode cJ6_bitCount_0f7a4 33 = .ok (.istore_n 0, 1) := by decide +kernel
theorem dJ6_bitCount_0f7a4_34 : decode cJ6_bitCount_0f7a4 34 = .ok (.iload_n 0, 1) := by decide +kernel
theorem dJ6_bitCount_0f7a4_35 : decode cJ6_bitCount_0f7a4 35 = .ok (.iload_n 0, 1) := by decide +kernel
theorem dJ6_bitCount_0f7a4_36 : decode cJ6_bitCount_0f7a4 36 = .ok (.bipush 8, 2) := by decide +kernel
theorem dJ6_bitCount_0f7a4_38 : decode cJ6_bitCount_0f7a4 38 = .ok (.iushr, 1) := by decide +kernel
theorem dJ6_bitCount_0f7a4_39 : decode cJ6_bitCount_0f7a4 39 = .ok (.iadd, 1) := by decide +kernel
theorem dJ6_bitCount_0f7a4_40 : decode cJ6_bitCount_0f7a4 40 = .ok (.istore_n 0, 1) := by decide +kernel
theorem dJ6_bitCount_0f7a4_41 : decode cJ6_bitCount_0f7a4 41 = .ok (.iload_n 0, 1) := by decide +kernel
theorem dJ6_bitCount_0f7a4_42 : decode cJ6_bitCount_0f7a4 42 = .ok (.iload_n 0, 1) := by decide +kernel
theorem dJ6_bitCount_0f7a4_43 : decode cJ6_bitCount_0f7a4 43 = .ok (.bipush 16, 2) := by decide +kernel
theorem dJ6_bitCount_0f7a4_45 : decode cJ6_bitCount_0f7a4 45 = .ok (.iushr, 1) := by decide +kernel
theorem dJ6_bitCount_0f7a4_46 : decode cJ6_bitCount_0f7a4 46 = .ok (.iadd, 1) := by decide +kernel
theorem dJ6_bitCount_0f7a4_47 : decode cJ6_bitCount_0f7a4 47 = .ok (.istore_n 0, 1) := by decide +kernel
theorem dJ6_bitCount_0f7a4_48 : decode cJ6_bitCount_0f7a4 48 = .ok (.iload_n 0, 1) := by decide +kernel
theorem dJ6_bitCount_0f7a4_49 : decode cJ6_bitCount_0f7a4 49 = .ok (.bipush 63, 2) := by decide +kernel
theorem dJ6_bitCount_0f7a4_51 : decode cJ6_bitCount_0f7a4 51 = .ok (.iand, 1) := by decide +kernel
theorem dJ6_bitCount_0f7a4_52 : decode cJ6_bitCount_0f7a4 52 = .ok (.ireturn, 1) := by decide +kernel
theorem dJ7_fill_53178_0 : decode cJ7_fill_53178 0 = .ok (.iconst 0, 1) := by decide +kernel
theorem dJ7_fill_53178_1 : decode cJ7_fill_53178 1 = .ok (.istore_n 2, 1) := by decide +kernel
theorem dJ7_fill_53178_2 : decode cJ7_fill_53178 2 = .ok (.aload_n 0, 1) := by decide +kernel
theorem dJ7_fill_53178_3 : decode cJ7_fill_53178 3 = .ok (.arraylength, 1) := by decide +kernel
theorem dJ7_fill_53178_4 : decode cJ7_fill_53178 4 = .ok (.istore_n 3, 1) := by decide +kernel
theorem dJ7_fill_53178_5 : decode cJ7_fill_53178 5 = .ok (.iload_n 2, 1) := by decide +kernel
theorem dJ7_fill_53178_6 : decode cJ7_fill_53178 6 = .ok (.iload_n 3, 1) := by decide +kernel
theorem dJ7_fill_53178_7 : decode cJ7_fill_53178 7 = .ok (.if_icmp .ge 13, 3) := by decide +kernel
theorem dJ7_fill_53178_10 : decode cJ7_fill_53178 10 = .ok (.aload_n 0, 1) := by decide +kernel
theorem dJ7_fill_53178_11 : decode cJ7_fill_53178 11 = .ok (.iload_n 2, 1) := by decide +kernel
theorem dJ7_fill_53178_12 : decode cJ7_fill_53178 12 = .ok (.iload_n 1, 1) := by decide +kernel
theorem dJ7_fill_53178_13 : decode cJ7_fill_53178 13 = .ok (.iastore, 1) := by decide +kernel
theorem dJ7_fill_53178_14 : decode cJ7_fill_53178 14 = .ok (.iinc 2 1, 3) := by decide +kernel
theorem dJ7_fill_53178_17 : decode cJ7_fill_53178 17 = .ok (.goto (-12), 3) := by decide +kernel
theorem dJ7_fill_53178_20 : decode cJ7_fill_53178 20 = .ok (.return_, 1) := by decide +kernel
theorem dJ9_floorMod_7cf53_0 : decode cJ9_floorMod_7cf53 0 = .ok (.iload_n 0, 1) := by decide +kernel
theorem dJ9_floorMod_7cf53_1 : decode cJ9_floorMod_7cf53 1 = .ok (.iload_n 1, 1) := by decide +kernel
theorem dJ9_floorMod_7cf53_2 : decode cJ9_floorMod_7cf53 2 = .ok (.irem, 1) := by decide +kernel
theorem dJ9_floorMod_7cf53_3 : decode cJ9_floorMod_7cf53 3 = .ok (.istore_n 2, 1) := by decide +kernel
theorem dJ9_floorMod_7cf53_4 : decode cJ9_floorMod_7cf53 4 = .ok (.iload_n 0, 1) := by decide +kernel
theorem dJ9_floorMod_7cf53_5 : decode cJ9_floorMod_7cf53 5 = .ok (.iload_n 1, 1) := by decide +kernel
theorem dJ9_floorMod_7cf53_6 : decode cJ9_floorMod_7cf53 6 = .ok (.ixor, 1) := by decide +kernel
theorem dJ9_floorMod_7cf53_7 : decode cJ9_floorMod_7cf53 7 = .ok (.ifCond .ge 11, 3) := by decide +kernel
theorem dJ9_floorMod_7cf53_10 : decode cJ9_floorMod_7cf53 10 = .ok (.iload_n 2, 1) := by decide +kernel
theorem dJ9_floorMod_7cf53_11 : decode cJ9_floorMod_7cf53 11 = .ok (.ifCond .eq 7, 3) := by decide +kernel
theorem dJ9_floorMod_7cf53_14 : decode cJ9_floorMod_7cf53 14 = .ok (.iload_n 2, 1) := by decide +kernel
theorem dJ9_floorMod_7cf53_15 : decode cJ9_floorMod_7cf53 15 = .ok (.iload_n 1, 1) := by decide +kernel
theorem dJ9_floorMod_7cf53_16 : decode cJ9_floorMod_7cf53 16 = .ok (.iadd, 1) := by decide +kernel
theorem dJ9_floorMod_7cf53_17 : decode cJ9_floorMod_7cf53 17 = .ok (.ireturn, 1) := by decide +kernel
theorem dJ9_floorMod_7cf53_18 : decode cJ9_floorMod_7cf53 18 = .ok (.iload_n 2, 1) := by decide +kernel
theorem dJ9_floorMod_7cf53_19 : decode cJ9_floorMod_7cf53 19 = .ok (.ireturn, 1) := by decide +kernel
theorem dJ9_max_7cf53_0 : decode cJ9_max_7cf53 0 = .ok (.iload_n 0, 1) := by decide +kernel
theorem dJ9_max_7cf53_1 : decode cJ9_max_7cf53 1 = .ok (.iload_n 1, 1) := by decide +kernel
theorem dJ9_max_7cf53_2 : decode cJ9_max_7cf53 2 = .ok (.if_icmp .lt 7, 3) := by decide +kernel
theorem dJ9_max_7cf53_5 : decode cJ9_max_7cf53 5 = .ok (.iload_n 0, 1) := by decide +kernel
theorem dJ9_max_7cf53_6 : decode cJ9_max_7cf53 6 = .ok (.goto 4, 3) := by decide +kernel
theorem dJ9_max_7cf53_9 : decode cJ9_max_7cf53 9 = .ok (.iload_n 1, 1) := by decide +kernel
theorem dJ9_max_7cf53_10 : decode cJ9_max_7cf53 10 = .ok (.ireturn, 1) := by decide +kernel
theorem dJ9_min_7cf53_0 : decode cJ9_min_7cf53 0 = .ok (.iload_n 0, 1) := by decide +kernel
theorem dJ9_min_7cf53_1 : decode cJ9_min_7cf53 1 = .ok (.iload_n 1, 1) := by decide +kernel
theorem dJ9_min_7cf53_2 : decode cJ9_min_7cf53 2 = .ok (.if_icmp .gt 7, 3) := by decide +kernel
theorem dJ9_min_7cf53_5 : decode cJ9_min_7cf53 5 = .ok (.iload_n 0, 1) := by decide +kernel
theorem dJ9_min_7cf53_6 : decode cJ9_min_7cf53 6 = .ok (.goto 4, 3) := by decide +kernel
theorem dJ9_min_7cf53_9 : decode cJ9_min_7cf53 9 = .ok (.iload_n 1, 1) := by decide +kernel
theorem dJ9_min_7cf53_10 : decode cJ9_min_7cf53 10 = .ok (.ireturn, 1) := by decide +kernel
theorem dX0_init_0 : decode cX0_init 0 = .ok (.aload_n 0, 1) := by decide +kernel
theorem dX0_init_1 : decode cX0_init 1 = .ok (.invokespecial 3, 3) := by decide +kernel
theorem dX0_init_4 : decode cX0_init 4 = .ok (.aload_n 0, 1) := by decide +kernel
theorem dX0_init_5 : decode cX0_init 5 = .ok (.sipush 4096, 3) := by decide +kernel
theorem dX0_init_8 : decode cX0_init 8 = .ok (.newarray .int, 2) := by decide +kernel
theorem dX0_init_10 : decode cX0_init 10 = .ok (.putfield 9, 3) := by decide +kernel
theorem dX0_init_13 : decode cX0_init 13 = .ok (.aload_n 0, 1) := by decide +kernel
theorem dX0_init_14 : decode cX0_init 14 = .ok (.bipush 12, 2) := by decide +kernel
theorem dX0_init_16 : decode cX0_init 16 = .ok (.newarray .int, 2) := by decide +kernel
theorem dX0_init_18 : decode cX0_init 18 = .ok (.putfield 15, 3) := by decide +kernel
theorem dX0_init_21 : decode cX0_init 21 = .ok (.aload_n 0, 1) := by decide +kernel
theorem dX0_init_22 : decode cX0_init 22 = .ok (.bipush 12, 2) := by decide +kernel
theorem dX0_init_24 : decode cX0_init 24 = .ok (.newarray .int, 2) := by decide +kernel
theorem dX0_init_26 : decode cX0_init 26 = .ok (.putfield 18, 3) := by decide +kernel
theorem dX0_init_29 : decode cX0_init 29 = .ok (.aload_n 0, 1) := by decide +kernel
theorem dX0_init_30 : decode cX0_init 30 = .ok (.iconst 0, 1) := by decide +kernel
theorem dX0_init_31 : decode cX0_init 31 = .ok (.putfield 21, 3) := by decide +kernel
theorem dX0_init_34 : decode cX0_init 34 = .ok (.aload_n 0, 1) := by decide +kernel
theorem dX0_init_35 : decode cX0_init 35 = .ok (.iconst 0, 1) := by decide +kernel
theorem dX0_init_36 : decode cX0_init 36 = .ok (.putfield 25, 3) := by decide +kernel
theorem dX0_init_39 : decode cX0_init 39 = .ok (.aload_n 0, 1) := by decide +kernel
theorem dX0_init_40 : decode cX0_init 40 = .ok (.iconst 0, 1) := by decide +kernel
theorem dX0_init_41 : decode cX0_init 41 = .ok (.putfield 28, 3) := by decide +kernel
theorem dX0_init_44 : decode cX0_init 44 = .ok (.aload_n 0, 1) := by decide +kernel
theorem dX0_init_45 : decode cX0_init 45 = .ok (.sipush 256, 3) := by decide +kernel
theorem dX0_init_48 : decode cX0_init 48 = .ok (.newarray .int, 2) := by decide +kernel
theorem dX0_init_50 : decode cX0_init 50 = .ok (.putfield 32, 3) := by decide +kernel
theorem dX0_init_53 : decode cX0_init 53 = .ok (.aload_n 0, 1) := by decide +kernel
theorem dX0_init_54 : decode cX0_init 54 = .ok (.bipush 16, 2) := by decide +kernel
theorem dX0_init_56 : decode cX0_init 56 = .ok (.newarray .int, 2) := by decide +kernel
theorem dX0_init_58 : decode cX0_init 58 = .ok (.putfield 35, 3) := by decide +kernel
theorem dX0_init_61 : decode cX0_init 61 = .ok (.return_, 1) := by decide +kernel
theorem dX0_prepare_0 : decode cX0_prepare 0 = .ok (.aload_n 0, 1) := by decide +kernel
theorem dX0_prepare_1 : decode cX0_prepare 1 = .ok (.iload 4, 2) := by decide +kernel
theorem dX0_prepare_3 : decode cX0_prepare 3 = .ok (.putfield 28, 3) := by decide +kernel
theorem dX0_prepare_6 : decode cX0_prepare 6 = .ok (.aload_n 0, 1) := by decide +kernel
theorem dX0_prepare_7 : decode cX0_prepare 7 = .ok (.aload_n 2, 1) := by decide +kernel
theorem dX0_prepare_8 : decode cX0_prepare 8 = .ok (.getfield 38, 3) := by decide +kernel
theorem dX0_prepare_11 : decode cX0_prepare 11 = .ok (.putfield 25, 3) := by decide +kernel
theorem dX0_prepare_14 : decode cX0_prepare 14 = .ok (.aload_n 0, 1) := by decide +kernel
theorem dX0_prepare_15 : decode cX0_prepare 15 = .ok (.iload_n 1, 1) := by decide +kernel
theorem dX0_prepare_16 : decode cX0_prepare 16 = .ok (.aload_n 2, 1) := by decide +kernel
theorem dX0_prepare_17 : decode cX0_prepare 17 = .ok (.aload_n 3, 1) := by decide +kernel
theorem dX0_prepare_18 : decode cX0_prepare 18 = .ok (.invokevirtual 43, 3) := by decide +kernel
theorem dX0_prepare_21 : decode cX0_prepare 21 = .ok (.iconst 0, 1) := by decide +kernel
theorem dX0_prepare_22 : decode cX0_prepare 22 = .ok (.istore 5, 2) := by decide +kernel
theorem dX0_prepare_24 : decode cX0_prepare 24 = .ok (.iload 5, 2) := by decide +kernel
theorem dX0_prepare_26 : decode cX0_prepare 26 = .ok (.aload_n 0, 1) := by decide +kernel
theorem dX0_prepare_27 : decode cX0_prepare 27 = .ok (.getfield 25, 3) := by decide +kernel
theorem dX0_prepare_30 : decode cX0_prepare 30 = .ok (.if_icmp .ge 16, 3) := by decide +kernel
theorem dX0_prepare_33 : decode cX0_prepare 33 = .ok (.aload_n 0, 1) := by decide +kernel
theorem dX0_prepare_34 : decode cX0_prepare 34 = .ok (.iload 5, 2) := by decide +kernel
theorem dX0_prepare_36 : decode cX0_prepare 36 = .ok (.aload_n 3, 1) := by decide +kernel
theorem dX0_prepare_37 : decode cX0_prepare 37 = .ok (.invokevirtual 47, 3) := by decide +kernel
theorem dX0_prepare_40 : decode cX0_prepare 40 = .ok (.iinc 5 1, 3) := by decide +kernel
theorem dX0_prepare_43 : decode cX0_prepare 43 = .ok (.goto (-19), 3) := by decide +kernel
theorem dX0_prepare_46 : decode cX0_prepare 46 = .ok (.iconst 1, 1) := by decide +kernel
theorem dX0_prepare_47 : decode cX0_prepare 47 = .ok (.aload_n 0, 1) := by decide +kernel
theorem dX0_prepare_48 : decode cX0_prepare 48 = .ok (.getfield 21, 3) := by decide +kernel
theorem dX0_prepare_51 : decode cX0_prepare 51 = .ok (.ishl, 1) := by decide +kernel
theorem dX0_prepare_52 : decode cX0_prepare 52 = .ok (.istore 5, 2) := by decide +kernel
theorem dX0_prepare_54 : decode cX0_prepare 54 = .ok (.iconst 0, 1) := by decide +kernel
theorem dX0_prepare_55 : decode cX0_prepare 55 = .ok (.istore 6, 2) := by decide +kernel
theorem dX0_prepare_57 : decode cX0_prepare 57 = .ok (.iload 6, 2) := by decide +kernel
theorem dX0_prepare_59 : decode cX0_prepare 59 = .ok (.iload 5, 2) := by decide +kernel
theorem dX0_prepare_61 : decode cX0_prepare 61 = .ok (.if_icmp .ge 17, 3) := by decide +kernel
theorem dX0_prepare_64 : decode cX0_prepare 64 = .ok (.aload_n 0, 1) := by decide +kernel
theorem dX0_prepare_65 : decode cX0_prepare 65 = .ok (.getfield 9, 3) := by decide +kernel
theorem dX0_prepare_68 : decode cX0_prepare 68 = .ok (.iload 6, 2) := by decide +kernel
theorem dX0_prepare_70 : decode cX0_prepare 70 = .ok (.iconst (-1), 1) := by decide +kernel
theorem dX0_prepare_71 : decode cX0_prepare 71 = .ok (.iastore, 1) := by decide +kernel
theorem dX0_prepare_72 : decode cX0_prepare 72 = .ok (.iinc 6 1, 3) := by decide +kernel
theorem dX0_prepare_75 : decode cX0_prepare 75 = .ok (.goto (-18), 3) := by decide +kernel
theorem dX0_prepare_78 : decode cX0_prepare 78 = .ok (.return_, 1) := by decide +kernel
theorem dX0_findPlaces_0 : decode cX0_findPlaces 0 = .ok (.aload_n 0, 1) := by decide +kernel
theorem dX0_findPlaces_1 : decode cX0_findPlaces 1 = .ok (.iconst 0, 1) := by decide +kernel
theorem dX0_findPlaces_2 : decode cX0_findPlaces 2 = .ok (.putfield 21, 3) := by decide +kernel
theorem dX0_findPlaces_5 : decode cX0_findPlaces 5 = .ok (.iconst 0, 1) := by decide +kernel
theorem dX0_findPlaces_6 : decode cX0_findPlaces 6 = .ok (.istore 4, 2) := by decide +kernel
theorem dX0_findPlaces_8 : decode cX0_findPlaces 8 = .ok (.iload 4, 2) := by decide +kernel
theorem dX0_findPlaces_10 : decode cX0_findPlaces 10 = .ok (.aload_n 2, 1) := by decide +kernel
theorem dX0_findPlaces_11 : decode cX0_findPlaces 11 = .ok (.getfield 38, 3) := by decide +kernel
theorem dX0_findPlaces_14 : decode cX0_findPlaces 14 = .ok (.if_icmp .ge 99, 3) := by decide +kernel
theorem dX0_findPlaces_17 : decode cX0_findPlaces 17 = .ok (.iload_n 1, 1) := by decide +kernel
theorem dX0_findPlaces_18 : decode cX0_findPlaces 18 = .ok (.iload 4, 2) := by decide +kernel
theorem dX0_findPlaces_20 : decode cX0_findPlaces 20 = .ok (.ishr, 1) := by decide +kernel
theorem dX0_findPlaces_21 : decode cX0_findPlaces 21 = .ok (.iconst 1, 1) := by decide +kernel
theorem dX0_findPlaces_22 : decode cX0_findPlaces 22 = .ok (.iand, 1) := by decide +kernel
theorem dX0_findPlaces_23 : decode cX0_findPlaces 23 = .ok (.iconst 1, 1) := by decide +kernel
theorem dX0_findPlaces_24 : decode cX0_findPlaces 24 = .ok (.if_icmp .ne 83, 3) := by decide +kernel
theorem dX0_findPlaces_27 : decode cX0_findPlaces 27 = .ok (.aload_n 0, 1) := by decide +kernel
theorem dX0_findPlaces_28 : decode cX0_findPlaces 28 = .ok (.iload 4, 2) := by decide +kernel
theorem dX0_findPlaces_30 : decode cX0_findPlaces 30 = .ok (.aload_n 3, 1) := by decide +kernel
theorem dX0_findPlaces_31 : decode cX0_findPlaces 31 = .ok (.invokevirtual 51, 3) := by decide +kernel
theorem dX0_findPlaces_34 : decode cX0_findPlaces 34 = .ok (.istore 5, 2) := by decide +kernel
theorem dX0_findPlaces_36 : decode cX0_findPlaces 36 = .ok (.iload 5, 2) := by decide +kernel
theorem dX0_findPlaces_38 : decode cX0_findPlaces 38 = .ok (.aload_n 0, 1) := by decide +kernel
theorem dX0_findPlaces_39 : decode cX0_findPlaces 39 = .ok (.getfield 21, 3) := by decide +kernel
theorem dX0_findPlaces_42 : decode cX0_findPlaces 42 = .ok (.if_icmp .ne 39, 3) := by decide +kernel
theorem dX0_findPlaces_45 : decode cX0_findPlaces 45 = .ok (.aload_n 0, 1) := by decide +kernel
theorem dX0_findPlaces_46 : decode cX0_findPlaces 46 = .ok (.getfield 21, 3) := by decide +kernel
theorem dX0_findPlaces_49 : decode cX0_findPlaces 49 = .ok (.bipush 12, 2) := by decide +kernel
theorem dX0_findPlaces_51 : decode cX0_findPlaces 51 = .ok (.if_icmp .ge 30, 3) := by decide +kernel
theorem dX0_findPlaces_54 : decode cX0_findPlaces 54 = .ok (.aload_n 0, 1) := by decide +kernel
theorem dX0_findPlaces_55 : decode cX0_findPlaces 55 = .ok (.getfield 15, 3) := by decide +kernel
theorem dX0_findPlaces_58 : decode cX0_findPlaces 58 = .ok (.iload 5, 2) := by decide +kernel
theorem dX0_findPlaces_60 : decode cX0_findPlaces 60 = .ok (.iload 4, 2) := by decide +kernel
theorem dX0_findPlaces_62 : decode cX0_findPlaces 62 = .ok (.iastore, 1) := by decide +kernel
theorem dX0_findPlaces_63 : decode cX0_findPlaces 63 = .ok (.aload_n 0, 1) := by decide +kernel
theorem dX0_findPlaces_64 : decode cX0_findPlaces 64 = .ok (.getfield 18, 3) := by decide +kernel
theorem dX0_findPlaces_67 : decode cX0_findPlaces 67 = .ok (.iload 5, 2) := by decide +kernel
theorem dX0_findPlaces_69 : decode cX0_findPlaces 69 = .ok (.iconst 0, 1) := by decide +kernel
theorem dX0_findPlaces_70 : decode cX0_findPlaces 70 = .ok (.iastore, 1) := by decide +kernel
theorem dX0_findPlaces_71 : decode cX0_findPlaces 71 = .ok (.aload_n 0, 1) := by decide +kernel
theorem dX0_findPlaces_72 : decode cX0_findPlaces 72 = .ok (.dup, 1) := by decide +kernel
theorem dX0_findPlaces_73 : decode cX0_findPlaces 73 = .ok (.getfield 21, 3) := by decide +kernel
theorem dX0_findPlaces_76 : decode cX0_findPlaces 76 = .ok (.iconst 1, 1) := by decide +kernel
theorem dX0_findPlaces_77 : decode cX0_findPlaces 77 = .ok (.iadd, 1) := by decide +kernel
theorem dX0_findPlaces_78 : decode cX0_findPlaces 78 = .ok (.putfield 21, 3) := by decide +kernel
theorem dX0_findPlaces_81 : decode cX0_findPlaces 81 = .ok (.iload 5, 2) := by decide +kernel
theorem dX0_findPlaces_83 : decode cX0_findPlaces 83 = .ok (.aload_n 0, 1) := by decide +kernel
theorem dX0_findPlaces_84 : decode cX0_findPlaces 84 = .ok (.getfield 21, 3) := by decide +kernel
theorem dX0_findPlaces_87 : decode cX0_findPlaces 87 = .ok (.if_icmp .ge 20, 3) := by decide +kernel
theorem dX0_findPlaces_90 : decode cX0_findPlaces 90 = .ok (.aload_n 0, 1) := by decide +kernel
theorem dX0_findPlaces_91 : decode cX0_findPlaces 91 = .ok (.getfield 18, 3) := by decide +kernel
theorem dX0_findPlaces_94 : decode cX0_findPlaces 94 = .ok (.iload 5, 2) := by decide +kernel
theorem dX0_findPlaces_96 : decode cX0_findPlaces 96 = .ok (.dup2, 1) := by decide +kernel
theorem dX0_findPlaces_97 : decode cX0_findPlaces 97 = .ok (.iaload, 1) := by decide +kernel
theorem dX0_findPlaces_98 : decode cX0_findPlaces 98 = .ok (.aload_n 2, 1) := by decide +kernel
theorem dX0_findPlaces_99 : decode cX0_findPlaces 99 = .ok (.getfield 55, 3) := by decide +kernel
theorem dX0_findPlaces_102 : decode cX0_findPlaces 102 = .ok (.iload 4, 2) := by decide +kernel
theorem dX0_findPlaces_104 : decode cX0_findPlaces 104 = .ok (.iaload, 1) := by decide +kernel
theorem dX0_findPlaces_105 : decode cX0_findPlaces 105 = .ok (.iadd, 1) := by decide +kernel
theorem dX0_findPlaces_106 : decode cX0_findPlaces 106 = .ok (.iastore, 1) := by decide +kernel
theorem dX0_findPlaces_107 : decode cX0_findPlaces 107 = .ok (.iinc 4 1, 3) := by decide +kernel
theorem dX0_findPlaces_110 : decode cX0_findPlaces 110 = .ok (.goto (-102), 3) := by decide +kernel
theorem dX0_findPlaces_113 : decode cX0_findPlaces 113 = .ok (.return_, 1) := by decide +kernel
theorem dX0_placeOf_0 : decode cX0_placeOf 0 = .ok (.iconst 0, 1) := by decide +kernel
theorem dX0_placeOf_1 : decode cX0_placeOf 1 = .ok (.istore_n 3, 1) := by decide +kernel
theorem dX0_placeOf_2 : decode cX0_placeOf 2 = .ok (.iload_n 3, 1) := by decide +kernel
theorem dX0_placeOf_3 : decode cX0_placeOf 3 = .ok (.aload_n 0, 1) := by decide +kernel
theorem dX0_placeOf_4 : decode cX0_placeOf 4 = .ok (.getfield 21, 3) := by decide +kernel
theorem dX0_placeOf_7 : decode cX0_placeOf 7 = .ok (.if_icmp .ge 25, 3) := by decide +kernel
theorem dX0_placeOf_10 : decode cX0_placeOf 10 = .ok (.aload_n 2, 1) := by decide +kernel
theorem dX0_placeOf_11 : decode cX0_placeOf 11 = .ok (.aload_n 0, 1) := by decide +kernel
theorem dX0_placeOf_12 : decode cX0_placeOf 12 = .ok (.getfield 15, 3) := by decide +kernel
theorem dX0_placeOf_15 : decode cX0_placeOf 15 = .ok (.iload_n 3, 1) := by decide +kernel
theorem dX0_placeOf_16 : decode cX0_placeOf 16 = .ok (.iaload, 1) := by decide +kernel
theorem dX0_placeOf_17 : decode cX0_placeOf 17 = .ok (.iload_n 1, 1) := by decide +kernel
theorem dX0_placeOf_18 : decode cX0_placeOf 18 = .ok (.invokevirtual 56, 3) := by decide +kernel
theorem dX0_placeOf_21 : decode cX0_placeOf 21 = .ok (.ifCond .eq 5, 3) := by decide +kernel
theorem dX0_placeOf_24 : decode cX0_placeOf 24 = .ok (.iload_n 3, 1) := by decide +kernel
theorem dX0_placeOf_25 : decode cX0_placeOf 25 = .ok (.ireturn, 1) := by decide +kernel
theorem dX0_placeOf_26 : decode cX0_placeOf 26 = .ok (.iinc 3 1, 3) := by decide +kernel
theorem dX0_placeOf_29 : decode cX0_placeOf 29 = .ok (.goto (-27), 3) := by decide +kernel
theorem dX0_placeOf_32 : decode cX0_placeOf 32 = .ok (.aload_n 0, 1) := by decide +kernel
theorem dX0_placeOf_33 : decode cX0_placeOf 33 = .ok (.getfield 21, 3) := by decide +kernel
theorem dX0_placeOf_36 : decode cX0_placeOf 36 = .ok (.ireturn, 1) := by decide +kernel
theorem dX0_groupPlaces_0 : decode cX0_groupPlaces 0 = .ok (.iconst 0, 1) := by decide +kernel
theorem dX0_groupPlaces_1 : decode cX0_groupPlaces 1 = .ok (.istore_n 3, 1) := by decide +kernel
theorem dX0_groupPlaces_2 : decode cX0_groupPlaces 2 = .ok (.iconst 0, 1) := by decide +kernel
theorem dX0_groupPlaces_3 : decode cX0_groupPlaces 3 = .ok (.istore 4, 2) := by decide +kernel
theorem dX0_groupPlaces_5 : decode cX0_groupPlaces 5 = .ok (.iload 4, 2) := by decide +kernel
theorem dX0_groupPlaces_7 : decode cX0_groupPlaces 7 = .ok (.aload_n 2, 1) := by decide +kernel
theorem dX0_groupPlaces_8 : decode cX0_groupPlaces 8 = .ok (.getfield 62, 3) := by decide +kernel
theorem dX0_groupPlaces_11 : decode cX0_groupPlaces 11 = .ok (.iload_n 1, 1) := by decide +kernel
theorem dX0_groupPlaces_12 : decode cX0_groupPlaces 12 = .ok (.iaload, 1) := by decide +kernel
theorem dX0_groupPlaces_13 : decode cX0_groupPlaces 13 = .ok (.if_icmp .ge 85, 3) := by decide +kernel
theorem dX0_groupPlaces_16 : decode cX0_groupPlaces 16 = .ok (.aload_n 2, 1) := by decide +kernel
theorem dX0_groupPlaces_17 : decode cX0_groupPlaces 17 = .ok (.getfield 63, 3) := by decide +kernel
theorem dX0_groupPlaces_20 : decode cX0_groupPlaces 20 = .ok (.bipush 16, 2) := by decide +kernel
theorem dX0_groupPlaces_22 : decode cX0_groupPlaces 22 = .ok (.iload_n 1, 1) := by decide +kernel
theorem dX0_groupPlaces_23 : decode cX0_groupPlaces 23 = .ok (.imul, 1) := by decide +kernel
theorem dX0_groupPlaces_24 : decode cX0_groupPlaces 24 = .ok (.iload 4, 2) := by decide +kernel
theorem dX0_groupPlaces_26 : decode cX0_groupPlaces 26 = .ok (.iadd, 1) := by decide +kernel
theorem dX0_groupPlaces_27 : decode cX0_groupPlaces 27 = .ok (.iaload, 1) := by decide +kernel
theorem dX0_groupPlaces_28 : decode cX0_groupPlaces 28 = .ok (.istore 5, 2) := by decide +kernel
theorem dX0_groupPlaces_30 : decode cX0_groupPlaces 30 = .ok (.iconst 0, 1) := by decide +kernel
theorem dX0_groupPlaces_31 : decode cX0_groupPlaces 31 = .ok (.istore 6, 2) := by decide +kernel
theorem dX0_groupPlaces_33 : decode cX0_groupPlaces 33 = .ok (.iconst 0, 1) := by decide +kernel
theorem dX0_groupPlaces_34 : decode cX0_groupPlaces 34 = .ok (.istore 7, 2) := by decide +kernel
theorem dX0_groupPlaces_36 : decode cX0_groupPlaces 36 = .ok (.iload 7, 2) := by decide +kernel
theorem dX0_groupPlaces_38 : decode cX0_groupPlaces 38 = .ok (.aload_n 0, 1) := by decide +kernel
theorem dX0_groupPlaces_39 : decode cX0_groupPlaces 39 = .ok (.getfield 21, 3) := by decide +kernel
theorem dX0_groupPlaces_42 : decode cX0_groupPlaces 42 = .ok (.if_icmp .ge 29, 3) := by decide +kernel
theorem dX0_groupPlaces_45 : decode cX0_groupPlaces 45 = .ok (.iload 6, 2) := by decide +kernel
theorem dX0_groupPlaces_47 : decode cX0_groupPlaces 47 = .ok (.iload 5, 2) := by decide +kernel
theorem dX0_groupPlaces_49 : decode cX0_groupPlaces 49 = .ok (.aload_n 0, 1) := by decide +kernel
theorem dX0_groupPlaces_50 : decode cX0_groupPlaces 50 = .ok (.getfield 15, 3) := by decide +kernel
theorem dX0_groupPlaces_53 : decode cX0_groupPlaces 53 = .ok (.iload 7, 2) := by decide +kernel
theorem dX0_groupPlaces_55 : decode cX0_groupPlaces 55 = .ok (.iaload, 1) := by decide +kernel
theorem dX0_groupPlaces_56 : decode cX0_groupPlaces 56 = .ok (.ishr, 1) := by decide +kernel
theorem dX0_groupPlaces_57 : decode cX0_groupPlaces 57 = .ok (.iconst 1, 1) := by decide +kernel
theorem dX0_groupPlaces_58 : decode cX0_groupPlaces 58 = .ok (.iand, 1) := by decide +kernel
theorem dX0_groupPlaces_59 : decode cX0_groupPlaces 59 = .ok (.iload 7, 2) := by decide +kernel
theorem dX0_groupPlaces_61 : decode cX0_groupPlaces 61 = .ok (.ishl, 1) := by decide +kernel
theorem dX0_groupPlaces_62 : decode cX0_groupPlaces 62 = .ok (.ior, 1) := by decide +kernel
theorem dX0_groupPlaces_63 : decode cX0_groupPlaces 63 = .ok (.istore 6, 2) := by decide +kernel
theorem dX0_groupPlaces_65 : decode cX0_groupPlaces 65 = .ok (.iinc 7 1, 3) := by decide +kernel
theorem dX0_groupPlaces_68 : decode cX0_groupPlaces 68 = .ok (.goto (-32), 3) := by decide +kernel
theorem dX0_groupPlaces_71 : decode cX0_groupPlaces 71 = .ok (.iload 6, 2) := by decide +kernel
theorem dX0_groupPlaces_73 : decode cX0_groupPlaces 73 = .ok (.ifCond .eq 19, 3) := by decide +kernel
theorem dX0_groupPlaces_76 : decode cX0_groupPlaces 76 = .ok (.aload_n 0, 1) := by decide +kernel
theorem dX0_groupPlaces_77 : decode cX0_groupPlaces 77 = .ok (.getfield 32, 3) := by decide +kernel
theorem dX0_groupPlaces_80 : decode cX0_groupPlaces 80 = .ok (.bipush 16, 2) := by decide +kernel
theorem dX0_groupPlaces_82 : decode cX0_groupPlaces 82 = .ok (.iload_n 1, 1) := by decide +kernel
theorem dX0_groupPlaces_83 : decode cX0_groupPlaces 83 = .ok (.imul, 1) := by decide +kernel
theorem dX0_groupPlaces_84 : decode cX0_groupPlaces 84 = .ok (.iload_n 3, 1) := by decide +kernel
theorem dX0_groupPlaces_85 : decode cX0_groupPlaces 85 = .ok (.iadd, 1) := by decide +kernel
theorem dX0_groupPlaces_86 : decode cX0_groupPlaces 86 = .ok (.iload 6, 2) := by decide +kernel
theorem dX0_groupPlaces_88 : decode cX0_groupPlaces 88 = .ok (.iastore, 1) := by decide +kernel
theorem dX0_groupPlaces_89 : decode cX0_groupPlaces 89 = .ok (.iinc 3 1, 3) := by decide +kernel
theorem dX0_groupPlaces_92 : decode cX0_groupPlaces 92 = .ok (.iinc 4 1, 3) := by decide +kernel
theorem dX0_groupPlaces_95 : decode cX0_groupPlaces 95 = .ok (.goto (-90), 3) := by decide +kernel
theorem dX0_groupPlaces_98 : decode cX0_groupPlaces 98 = .ok (.aload_n 0, 1) := by decide +kernel
theorem dX0_groupPlaces_99 : decode cX0_groupPlaces 99 = .ok (.getfield 35, 3) := by decide +kernel
theorem dX0_groupPlaces_102 : decode cX0_groupPlaces 102 = .ok (.iload_n 1, 1) := by decide +kernel
theorem dX0_groupPlaces_103 : decode cX0_groupPlaces 103 = .ok (.iload_n 3, 1) := by decide +kernel
theorem dX0_groupPlaces_104 : decode cX0_groupPlaces 104 = .ok (.iastore, 1) := by decide +kernel
theorem dX0_groupPlaces_105 : decode cX0_groupPlaces 105 = .ok (.return_, 1) := by decide +kernel
theorem dX0_leastCost_0 : decode cX0_leastCost 0 = .ok (.aload_n 0, 1) := by decide +kernel
theorem dX0_leastCost_1 : decode cX0_leastCost 1 = .ok (.iconst 1, 1) := by decide +kernel
theorem dX0_leastCost_2 : decode cX0_leastCost 2 = .ok (.aload_n 0, 1) := by decide +kernel
theorem dX0_leastCost_3 : decode cX0_leastCost 3 = .ok (.getfield 21, 3) := by decide +kernel
theorem dX0_leastCost_6 : decode cX0_leastCost 6 = .ok (.ishl, 1) := by decide +kernel
theorem dX0_leastCost_7 : decode cX0_leastCost 7 = .ok (.iconst 1, 1) := by decide +kernel
theorem dX0_leastCost_8 : decode cX0_leastCost 8 = .ok (.isub, 1) := by decide +kernel
theorem dX0_leastCost_9 : decode cX0_leastCost 9 = .ok (.iconst 0, 1) := by decide +kernel
theorem dX0_leastCost_10 : decode cX0_leastCost 10 = .ok (.invokevirtual 64, 3) := by decide +kernel
theorem dX0_leastCost_13 : decode cX0_leastCost 13 = .ok (.istore_n 1, 1) := by decide +kernel
theorem dX0_leastCost_14 : decode cX0_leastCost 14 = .ok (.iload_n 1, 1) := by decide +kernel
theorem dX0_leastCost_15 : decode cX0_leastCost 15 = .ok (.ldc 68, 2) := by decide +kernel
theorem dX0_leastCost_17 : decode cX0_leastCost 17 = .ok (.if_icmp .ne 8, 3) := by decide +kernel
theorem dX0_leastCost_20 : decode cX0_leastCost 20 = .ok (.bipush (-2), 2) := by decide +kernel
theorem dX0_leastCost_22 : decode cX0_leastCost 22 = .ok (.goto 4, 3) := by decide +kernel
theorem dX0_leastCost_25 : decode cX0_leastCost 25 = .ok (.iload_n 1, 1) := by decide +kernel
theorem dX0_leastCost_26 : decode cX0_leastCost 26 = .ok (.ireturn, 1) := by decide +kernel
theorem dX0_firstMark_0 : decode cX0_firstMark 0 = .ok (.iconst 1, 1) := by decide +kernel
theorem dX0_firstMark_1 : decode cX0_firstMark 1 = .ok (.aload_n 0, 1) := by decide +kernel
theorem dX0_firstMark_2 : decode cX0_firstMark 2 = .ok (.getfield 21, 3) := by decide +kernel
theorem dX0_firstMark_5 : decode cX0_firstMark 5 = .ok (.ishl, 1) := by decide +kernel
theorem dX0_firstMark_6 : decode cX0_firstMark 6 = .ok (.iconst 1, 1) := by decide +kernel
theorem dX0_firstMark_7 : decode cX0_firstMark 7 = .ok (.isub, 1) := by decide +kernel
theorem dX0_firstMark_8 : decode cX0_firstMark 8 = .ok (.istore_n 1, 1) := by decide +kernel
theorem dX0_firstMark_9 : decode cX0_firstMark 9 = .ok (.aload_n 0, 1) := by decide +kernel
theorem dX0_firstMark_10 : decode cX0_firstMark 10 = .ok (.iload_n 1, 1) := by decide +kernel
theorem dX0_firstMark_11 : decode cX0_firstMark 11 = .ok (.iconst 0, 1) := by decide +kernel
theorem dX0_firstMark_12 : decode cX0_firstMark 12 = .ok (.invokevirtual 64, 3) := by decide +kernel
theorem dX0_firstMark_15 : decode cX0_firstMark 15 = .ok (.istore_n 2, 1) := by decide +kernel
theorem dX0_firstMark_16 : decode cX0_firstMark 16 = .ok (.aload_n 0, 1) := by decide +kernel
theorem dX0_firstMark_17 : decode cX0_firstMark 17 = .ok (.getfield 21, 3) := by decide +kernel
theorem dX0_firstMark_20 : decode cX0_firstMark 20 = .ok (.iconst 2, 1) := by decide +kernel
theorem dX0_firstMark_21 : decode cX0_firstMark 21 = .ok (.if_icmp .lt 9, 3) := by decide +kernel
theorem dX0_firstMark_24 : decode cX0_firstMark 24 = .ok (.iload_n 2, 1) := by decide +kernel
theorem dX0_firstMark_25 : decode cX0_firstMark 25 = .ok (.ldc 68, 2) := by decide +kernel
theorem dX0_firstMark_27 : decode cX0_firstMark 27 = .ok (.if_icmp .ne 5, 3) := by decide +kernel
theorem dX0_firstMark_30 : decode cX0_firstMark 30 = .ok (.iconst (-1), 1) := by decide +kernel
theorem dX0_firstMark_31 : decode cX0_firstMark 31 = .ok (.ireturn, 1) := by decide +kernel
theorem dX0_firstMark_32 : decode cX0_firstMark 32 = .ok (.iconst 0, 1) := by decide +kernel
theorem dX0_firstMark_33 : decode cX0_firstMark 33 = .ok (.istore_n 3, 1) := by decide +kernel
theorem dX0_firstMark_34 : decode cX0_firstMark 34 = .ok (.iload_n 3, 1) := by decide +kernel
theorem dX0_firstMark_35 : decode cX0_firstMark 35 = .ok (.aload_n 0, 1) := by decide +kernel
theorem dX0_firstMark_36 : decode cX0_firstMark 36 = .ok (.getfield 25, 3) := by decide +kernel
theorem dX0_firstMark_39 : decode cX0_firstMark 39 = .ok (.if_icmp .ge 22, 3) := by decide +kernel
theorem dX0_firstMark_42 : decode cX0_firstMark 42 = .ok (.aload_n 0, 1) := by decide +kernel
theorem dX0_firstMark_43 : decode cX0_firstMark 43 = .ok (.iload_n 3, 1) := by decide +kernel
theorem dX0_firstMark_44 : decode cX0_firstMark 44 = .ok (.iload_n 1, 1) := by decide +kernel
theorem dX0_firstMark_45 : decode cX0_firstMark 45 = .ok (.iconst 0, 1) := by decide +kernel
theorem dX0_firstMark_46 : decode cX0_firstMark 46 = .ok (.invokevirtual 69, 3) := by decide +kernel
theorem dX0_firstMark_49 : decode cX0_firstMark 49 = .ok (.iload_n 2, 1) := by decide +kernel
theorem dX0_firstMark_50 : decode cX0_firstMark 50 = .ok (.if_icmp .ne 5, 3) := by decide +kernel
theorem dX0_firstMark_53 : decode cX0_firstMark 53 = .ok (.iload_n 3, 1) := by decide +kernel
theorem dX0_firstMark_54 : decode cX0_firstMark 54 = .ok (.ireturn, 1) := by decide +kernel
theorem dX0_firstMark_55 : decode cX0_firstMark 55 = .ok (.iinc 3 1, 3) := by decide +kernel
theorem dX0_firstMark_58 : decode cX0_firstMark 58 = .ok (.goto (-24), 3) := by decide +kernel
theorem dX0_firstMark_61 : decode cX0_firstMark 61 = .ok (.iconst (-1), 1) := by decide +kernel
theorem dX0_firstMark_62 : decode cX0_firstMark 62 = .ok (.ireturn, 1) := by decide +kernel
theorem dX0_costOf_0 : decode cX0_costOf 0 = .ok (.iload_n 1, 1) := by decide +kernel
theorem dX0_costOf_1 : decode cX0_costOf 1 = .ok (.iload_n 1, 1) := by decide +kernel
theorem dX0_costOf_2 : decode cX0_costOf 2 = .ok (.iconst 1, 1) := by decide +kernel
theorem dX0_costOf_3 : decode cX0_costOf 3 = .ok (.isub, 1) := by decide +kernel
theorem dX0_costOf_4 : decode cX0_costOf 4 = .ok (.iand, 1) := by decide +kernel
theorem dX0_costOf_5 : decode cX0_costOf 5 = .ok (.ifCond .ne 5, 3) := by decide +kernel
theorem dX0_costOf_8 : decode cX0_costOf 8 = .ok (.iconst 0, 1) := by decide +kernel
theorem dX0_costOf_9 : decode cX0_costOf 9 = .ok (.ireturn, 1) := by decide +kernel
theorem dX0_costOf_10 : decode cX0_costOf 10 = .ok (.iload_n 2, 1) := by decide +kernel
theorem dX0_costOf_11 : decode cX0_costOf 11 = .ok (.bipush 12, 2) := by decide +kernel
theorem dX0_costOf_13 : decode cX0_costOf 13 = .ok (.if_icmp .le 6, 3) := by decide +kernel
theorem dX0_costOf_16 : decode cX0_costOf 16 = .ok (.ldc 68, 2) := by decide +kernel
theorem dX0_costOf_18 : decode cX0_costOf 18 = .ok (.ireturn, 1) := by decide +kernel
theorem dX0_costOf_19 : decode cX0_costOf 19 = .ok (.aload_n 0, 1) := by decide +kernel
theorem dX0_costOf_20 : decode cX0_costOf 20 = .ok (.getfield 9, 3) := by decide +kernel
theorem dX0_costOf_23 : decode cX0_costOf 23 = .ok (.iload_n 1, 1) := by decide +kernel
theorem dX0_costOf_24 : decode cX0_costOf 24 = .ok (.iaload, 1) := by decide +kernel
theorem dX0_costOf_25 : decode cX0_costOf 25 = .ok (.iconst (-1), 1) := by decide +kernel
theorem dX0_costOf_26 : decode cX0_costOf 26 = .ok (.if_icmp .ne 44, 3) := by decide +kernel
theorem dX0_costOf_29 : decode cX0_costOf 29 = .ok (.ldc 68, 2) := by decide +kernel
theorem dX0_costOf_31 : decode cX0_costOf 31 = .ok (.istore_n 3, 1) := by decide +kernel
theorem dX0_costOf_32 : decode cX0_costOf 32 = .ok (.iconst 0, 1) := by decide +kernel
theorem dX0_costOf_33 : decode cX0_costOf 33 = .ok (.istore 4, 2) := by decide +kernel
theorem dX0_costOf_35 : decode cX0_costOf 35 = .ok (.iload 4, 2) := by decide +kernel
theorem dX0_costOf_37 : decode cX0_costOf 37 = .ok (.aload_n 0, 1) := by decide +kernel
theorem dX0_costOf_38 : decode cX0_costOf 38 = .ok (.getfield 25, 3) := by decide +kernel
theorem dX0_costOf_41 : decode cX0_costOf 41 = .ok (.if_icmp .ge 22, 3) := by decide +kernel
theorem dX0_costOf_44 : decode cX0_costOf 44 = .ok (.iload_n 3, 1) := by decide +kernel
theorem dX0_costOf_45 : decode cX0_costOf 45 = .ok (.aload_n 0, 1) := by decide +kernel
theorem dX0_costOf_46 : decode cX0_costOf 46 = .ok (.iload 4, 2) := by decide +kernel
theorem dX0_costOf_48 : decode cX0_costOf 48 = .ok (.iload_n 1, 1) := by decide +kernel
theorem dX0_costOf_49 : decode cX0_costOf 49 = .ok (.iload_n 2, 1) := by decide +kernel
theorem dX0_costOf_50 : decode cX0_costOf 50 = .ok (.invokevirtual 69, 3) := by decide +kernel
theorem dX0_costOf_53 : decode cX0_costOf 53 = .ok (.invokestatic 73, 3) := by decide +kernel
theorem dX0_costOf_56 : decode cX0_costOf 56 = .ok (.istore_n 3, 1) := by decide +kernel
theorem dX0_costOf_57 : decode cX0_costOf 57 = .ok (.iinc 4 1, 3) := by decide +kernel
theorem dX0_costOf_60 : decode cX0_costOf 60 = .ok (.goto (-25), 3) := by decide +kernel
theorem dX0_costOf_63 : decode cX0_costOf 63 = .ok (.aload_n 0, 1) := by decide +kernel
theorem dX0_costOf_64 : decode cX0_costOf 64 = .ok (.getfield 9, 3) := by decide +kernel
theorem dX0_costOf_67 : decode cX0_costOf 67 = .ok (.iload_n 1, 1) := by decide +kernel
theorem dX0_costOf_68 : decode cX0_costOf 68 = .ok (.iload_n 3, 1) := by decide +kernel
theorem dX0_costOf_69 : decode cX0_costOf 69 = .ok (.iastore, 1) := by decide +kernel
theorem dX0_costOf_70 : decode cX0_costOf 70 = .ok (.aload_n 0, 1) := by decide +kernel
theorem dX0_costOf_71 : decode cX0_costOf 71 = .ok (.getfield 9, 3) := by decide +kernel
theorem dX0_costOf_74 : decode cX0_costOf 74 = .ok (.iload_n 1, 1) := by decide +kernel
theorem dX0_costOf_75 : decode cX0_costOf 75 = .ok (.iaload, 1) := by decide +kernel
theorem dX0_costOf_76 : decode cX0_costOf 76 = .ok (.ireturn, 1) := by decide +kernel
theorem dX0_costOfAsking_0 : decode cX0_costOfAsking 0 = .ok (.iconst 0, 1) := by decide +kernel
theorem dX0_costOfAsking_1 : decode cX0_costOfAsking 1 = .ok (.istore 4, 2) := by decide +kernel
theorem dX0_costOfAsking_3 : decode cX0_costOfAsking 3 = .ok (.iconst 0, 1) := by decide +kernel
theorem dX0_costOfAsking_4 : decode cX0_costOfAsking 4 = .ok (.istore 5, 2) := by decide +kernel
theorem dX0_costOfAsking_6 : decode cX0_costOfAsking 6 = .ok (.iload 5, 2) := by decide +kernel
theorem dX0_costOfAsking_8 : decode cX0_costOfAsking 8 = .ok (.aload_n 0, 1) := by decide +kernel
theorem dX0_costOfAsking_9 : decode cX0_costOfAsking 9 = .ok (.getfield 35, 3) := by decide +kernel
theorem dX0_costOfAsking_12 : decode cX0_costOfAsking 12 = .ok (.iload_n 1, 1) := by decide +kernel
theorem dX0_costOfAsking_13 : decode cX0_costOfAsking 13 = .ok (.iaload, 1) := by decide +kernel
theorem dX0_costOfAsking_14 : decode cX0_costOfAsking 14 = .ok (.if_icmp .ge 79, 3) := by decide +kernel
theorem dX0_costOfAsking_17 : decode cX0_costOfAsking 17 = .ok (.iload_n 2, 1) := by decide +kernel
theorem dX0_costOfAsking_18 : decode cX0_costOfAsking 18 = .ok (.aload_n 0, 1) := by decide +kernel
theorem dX0_costOfAsking_19 : decode cX0_costOfAsking 19 = .ok (.getfield 32, 3) := by decide +kernel
theorem dX0_costOfAsking_22 : decode cX0_costOfAsking 22 = .ok (.bipush 16, 2) := by decide +kernel
theorem dX0_costOfAsking_24 : decode cX0_costOfAsking 24 = .ok (.iload_n 1, 1) := by decide +kernel
theorem dX0_costOfAsking_25 : decode cX0_costOfAsking 25 = .ok (.imul, 1) := by decide +kernel
theorem dX0_costOfAsking_26 : decode cX0_costOfAsking 26 = .ok (.iload 5, 2) := by decide +kernel
theorem dX0_costOfAsking_28 : decode cX0_costOfAsking 28 = .ok (.iadd, 1) := by decide +kernel
theorem dX0_costOfAsking_29 : decode cX0_costOfAsking 29 = .ok (.iaload, 1) := by decide +kernel
theorem dX0_costOfAsking_30 : decode cX0_costOfAsking 30 = .ok (.iand, 1) := by decide +kernel
theorem dX0_costOfAsking_31 : decode cX0_costOfAsking 31 = .ok (.istore 6, 2) := by decide +kernel
theorem dX0_costOfAsking_33 : decode cX0_costOfAsking 33 = .ok (.iload 6, 2) := by decide +kernel
theorem dX0_costOfAsking_35 : decode cX0_costOfAsking 35 = .ok (.iload_n 2, 1) := by decide +kernel
theorem dX0_costOfAsking_36 : decode cX0_costOfAsking 36 = .ok (.if_icmp .ne 6, 3) := by decide +kernel
theorem dX0_costOfAsking_39 : decode cX0_costOfAsking 39 = .ok (.ldc 68, 2) := by decide +kernel
theorem dX0_costOfAsking_41 : decode cX0_costOfAsking 41 = .ok (.ireturn, 1) := by decide +kernel
theorem dX0_costOfAsking_42 : decode cX0_costOfAsking 42 = .ok (.aload_n 0, 1) := by decide +kernel
theorem dX0_costOfAsking_43 : decode cX0_costOfAsking 43 = .ok (.iload 6, 2) := by decide +kernel
theorem dX0_costOfAsking_45 : decode cX0_costOfAsking 45 = .ok (.iload_n 3, 1) := by decide +kernel
theorem dX0_costOfAsking_46 : decode cX0_costOfAsking 46 = .ok (.iconst 1, 1) := by decide +kernel
theorem dX0_costOfAsking_47 : decode cX0_costOfAsking 47 = .ok (.iadd, 1) := by decide +kernel
theorem dX0_costOfAsking_48 : decode cX0_costOfAsking 48 = .ok (.invokevirtual 64, 3) := by decide +kernel
theorem dX0_costOfAsking_51 : decode cX0_costOfAsking 51 = .ok (.istore 7, 2) := by decide +kernel
theorem dX0_costOfAsking_53 : decode cX0_costOfAsking 53 = .ok (.iload 7, 2) := by decide +kernel
theorem dX0_costOfAsking_55 : decode cX0_costOfAsking 55 = .ok (.ldc 68, 2) := by decide +kernel
theorem dX0_costOfAsking_57 : decode cX0_costOfAsking 57 = .ok (.if_icmp .ne 6, 3) := by decide +kernel
theorem dX0_costOfAsking_60 : decode cX0_costOfAsking 60 = .ok (.ldc 68, 2) := by decide +kernel
theorem dX0_costOfAsking_62 : decode cX0_costOfAsking 62 = .ok (.ireturn, 1) := by decide +kernel
theorem dX0_costOfAsking_63 : decode cX0_costOfAsking 63 = .ok (.aload_n 0, 1) := by decide +kernel
theorem dX0_costOfAsking_64 : decode cX0_costOfAsking 64 = .ok (.getfield 28, 3) := by decide +kernel
theorem dX0_costOfAsking_67 : decode cX0_costOfAsking 67 = .ok (.ifCond .eq 11, 3) := by decide +kernel
theorem dX0_costOfAsking_70 : decode cX0_costOfAsking 70 = .ok (.iload 4, 2) := by decide +kernel
theorem dX0_costOfAsking_72 : decode cX0_costOfAsking 72 = .ok (.iload 7, 2) := by decide +kernel
theorem dX0_costOfAsking_74 : decode cX0_costOfAsking 74 = .ok (.iadd, 1) := by decide +kernel
theorem dX0_costOfAsking_75 : decode cX0_costOfAsking 75 = .ok (.goto 10, 3) := by decide +kernel
theorem dX0_costOfAsking_78 : decode cX0_costOfAsking 78 = .ok (.iload 4, 2) := by decide +kernel
theorem dX0_costOfAsking_80 : decode cX0_costOfAsking 80 = .ok (.iload 7, 2) := by decide +kernel
theorem dX0_costOfAsking_82 : decode cX0_costOfAsking 82 = .ok (.invokestatic 78, 3) := by decide +kernel
theorem dX0_costOfAsking_85 : decode cX0_costOfAsking 85 = .ok (.istore 4, 2) := by decide +kernel
theorem dX0_costOfAsking_87 : decode cX0_costOfAsking 87 = .ok (.iinc 5 1, 3) := by decide +kernel
theorem dX0_costOfAsking_90 : decode cX0_costOfAsking 90 = .ok (.goto (-84), 3) := by decide +kernel
theorem dX0_costOfAsking_93 : decode cX0_costOfAsking 93 = .ok (.iload 4, 2) := by decide +kernel
theorem dX0_costOfAsking_95 : decode cX0_costOfAsking 95 = .ok (.aload_n 0, 1) := by decide +kernel
theorem dX0_costOfAsking_96 : decode cX0_costOfAsking 96 = .ok (.getfield 28, 3) := by decide +kernel
theorem dX0_costOfAsking_99 : decode cX0_costOfAsking 99 = .ok (.ifCond .eq 11, 3) := by decide +kernel
theorem dX0_costOfAsking_102 : decode cX0_costOfAsking 102 = .ok (.aload_n 0, 1) := by decide +kernel
theorem dX0_costOfAsking_103 : decode cX0_costOfAsking 103 = .ok (.iload_n 2, 1) := by decide +kernel
theorem dX0_costOfAsking_104 : decode cX0_costOfAsking 104 = .ok (.invokevirtual 81, 3) := by decide +kernel
theorem dX0_costOfAsking_107 : decode cX0_costOfAsking 107 = .ok (.goto 4, 3) := by decide +kernel
theorem dX0_costOfAsking_110 : decode cX0_costOfAsking 110 = .ok (.iconst 1, 1) := by decide +kernel
theorem dX0_costOfAsking_111 : decode cX0_costOfAsking 111 = .ok (.iadd, 1) := by decide +kernel
theorem dX0_costOfAsking_112 : decode cX0_costOfAsking 112 = .ok (.ireturn, 1) := by decide +kernel
theorem dX0_chanceOf_0 : decode cX0_chanceOf 0 = .ok (.iconst 0, 1) := by decide +kernel
theorem dX0_chanceOf_1 : decode cX0_chanceOf 1 = .ok (.istore_n 2, 1) := by decide +kernel
theorem dX0_chanceOf_2 : decode cX0_chanceOf 2 = .ok (.iconst 0, 1) := by decide +kernel
theorem dX0_chanceOf_3 : decode cX0_chanceOf 3 = .ok (.istore_n 3, 1) := by decide +kernel
theorem dX0_chanceOf_4 : decode cX0_chanceOf 4 = .ok (.iload_n 3, 1) := by decide +kernel
theorem dX0_chanceOf_5 : decode cX0_chanceOf 5 = .ok (.aload_n 0, 1) := by decide +kernel
theorem dX0_chanceOf_6 : decode cX0_chanceOf 6 = .ok (.getfield 21, 3) := by decide +kernel
theorem dX0_chanceOf_9 : decode cX0_chanceOf 9 = .ok (.if_icmp .ge 24, 3) := by decide +kernel
theorem dX0_chanceOf_12 : decode cX0_chanceOf 12 = .ok (.iload_n 2, 1) := by decide +kernel
theorem dX0_chanceOf_13 : decode cX0_chanceOf 13 = .ok (.iload_n 1, 1) := by decide +kernel
theorem dX0_chanceOf_14 : decode cX0_chanceOf 14 = .ok (.iload_n 3, 1) := by decide +kernel
theorem dX0_chanceOf_15 : decode cX0_chanceOf 15 = .ok (.ishr, 1) := by decide +kernel
theorem dX0_chanceOf_16 : decode cX0_chanceOf 16 = .ok (.iconst 1, 1) := by decide +kernel
theorem dX0_chanceOf_17 : decode cX0_chanceOf 17 = .ok (.iand, 1) := by decide +kernel
theorem dX0_chanceOf_18 : decode cX0_chanceOf 18 = .ok (.aload_n 0, 1) := by decide +kernel
theorem dX0_chanceOf_19 : decode cX0_chanceOf 19 = .ok (.getfield 18, 3) := by decide +kernel
theorem dX0_chanceOf_22 : decode cX0_chanceOf 22 = .ok (.iload_n 3, 1) := by decide +kernel
theorem dX0_chanceOf_23 : decode cX0_chanceOf 23 = .ok (.iaload, 1) := by decide +kernel
theorem dX0_chanceOf_24 : decode cX0_chanceOf 24 = .ok (.imul, 1) := by decide +kernel
theorem dX0_chanceOf_25 : decode cX0_chanceOf 25 = .ok (.iadd, 1) := by decide +kernel
theorem dX0_chanceOf_26 : decode cX0_chanceOf 26 = .ok (.istore_n 2, 1) := by decide +kernel
theorem dX0_chanceOf_27 : decode cX0_chanceOf 27 = .ok (.iinc 3 1, 3) := by decide +kernel
theorem dX0_chanceOf_30 : decode cX0_chanceOf 30 = .ok (.goto (-26), 3) := by decide +kernel
theorem dX0_chanceOf_33 : decode cX0_chanceOf 33 = .ok (.iload_n 2, 1) := by decide +kernel
theorem dX0_chanceOf_34 : decode cX0_chanceOf 34 = .ok (.ireturn, 1) := by decide +kernel
theorem dX1_init_0 : decode cX1_init 0 = .ok (.aload_n 0, 1) := by decide +kernel
theorem dX1_init_1 : decode cX1_init 1 = .ok (.invokespecial 3, 3) := by decide +kernel
theorem dX1_init_4 : decode cX1_init 4 = .ok (.aload_n 0, 1) := by decide +kernel
theorem dX1_init_5 : decode cX1_init 5 = .ok (.sipush 256, 3) := by decide +kernel
theorem dX1_init_8 : decode cX1_init 8 = .ok (.newarray .int, 2) := by decide +kernel
theorem dX1_init_10 : decode cX1_init 10 = .ok (.putfield 9, 3) := by decide +kernel
theorem dX1_init_13 : decode cX1_init 13 = .ok (.aload_n 0, 1) := by decide +kernel
theorem dX1_init_14 : decode cX1_init 14 = .ok (.iconst 0, 1) := by decide +kernel
theorem dX1_init_15 : decode cX1_init 15 = .ok (.putfield 15, 3) := by decide +kernel
theorem dX1_init_18 : decode cX1_init 18 = .ok (.aload_n 0, 1) := by decide +kernel
theorem dX1_init_19 : decode cX1_init 19 = .ok (.iconst 1, 1) := by decide +kernel
theorem dX1_init_20 : decode cX1_init 20 = .ok (.putfield 19, 3) := by decide +kernel
theorem dX1_init_23 : decode cX1_init 23 = .ok (.aload_n 0, 1) := by decide +kernel
theorem dX1_init_24 : decode cX1_init 24 = .ok (.bipush 16, 2) := by decide +kernel
theorem dX1_init_26 : decode cX1_init 26 = .ok (.newarray .int, 2) := by decide +kernel
theorem dX1_init_28 : decode cX1_init 28 = .ok (.putfield 22, 3) := by decide +kernel
theorem dX1_init_31 : decode cX1_init 31 = .ok (.aload_n 0, 1) := by decide +kernel
theorem dX1_init_32 : decode cX1_init 32 = .ok (.iconst 1, 1) := by decide +kernel
theorem dX1_init_33 : decode cX1_init 33 = .ok (.putfield 25, 3) := by decide +kernel
theorem dX1_init_36 : decode cX1_init 36 = .ok (.aload_n 0, 1) := by decide +kernel
theorem dX1_init_37 : decode cX1_init 37 = .ok (.iconst 0, 1) := by decide +kernel
theorem dX1_init_38 : decode cX1_init 38 = .ok (.putfield 28, 3) := by decide +kernel
theorem dX1_init_41 : decode cX1_init 41 = .ok (.aload_n 0, 1) := by decide +kernel
theorem dX1_init_42 : decode cX1_init 42 = .ok (.iconst 0, 1) := by decide +kernel
theorem dX1_init_43 : decode cX1_init 43 = .ok (.putfield 31, 3) := by decide +kernel
theorem dX1_init_46 : decode cX1_init 46 = .ok (.aload_n 0, 1) := by decide +kernel
theorem dX1_init_47 : decode cX1_init 47 = .ok (.iconst 0, 1) := by decide +kernel
theorem dX1_init_48 : decode cX1_init 48 = .ok (.putfield 34, 3) := by decide +kernel
theorem dX1_init_51 : decode cX1_init 51 = .ok (.aload_n 0, 1) := by decide +kernel
theorem dX1_init_52 : decode cX1_init 52 = .ok (.iconst 0, 1) := by decide +kernel
theorem dX1_init_53 : decode cX1_init 53 = .ok (.putfield 37, 3) := by decide +kernel
theorem dX1_init_56 : decode cX1_init 56 = .ok (.aload_n 0, 1) := by decide +kernel
theorem dX1_init_57 : decode cX1_init 57 = .ok (.iconst 0, 1) := by decide +kernel
theorem dX1_init_58 : decode cX1_init 58 = .ok (.putfield 40, 3) := by decide +kernel
theorem dX1_init_61 : decode cX1_init 61 = .ok (.return_, 1) := by decide +kernel
theorem dX1_search_0 : decode cX1_search 0 = .ok (.aload_n 0, 1) := by decide +kernel
theorem dX1_search_1 : decode cX1_search 1 = .ok (.aload_n 1, 1) := by decide +kernel
theorem dX1_search_2 : decode cX1_search 2 = .ok (.invokevirtual 43, 3) := by decide +kernel
theorem dX1_search_5 : decode cX1_search 5 = .ok (.putfield 19, 3) := by decide +kernel
theorem dX1_search_8 : decode cX1_search 8 = .ok (.aload_n 0, 1) := by decide +kernel
theorem dX1_search_9 : decode cX1_search 9 = .ok (.sipush 1000, 3) := by decide +kernel
theorem dX1_search_12 : decode cX1_search 12 = .ok (.putfield 25, 3) := by decide +kernel
theorem dX1_search_15 : decode cX1_search 15 = .ok (.iconst 0, 1) := by decide +kernel
theorem dX1_search_16 : decode cX1_search 16 = .ok (.istore 4, 2) := by decide +kernel
theorem dX1_search_18 : decode cX1_search 18 = .ok (.iload 4, 2) := by decide +kernel
theorem dX1_search_20 : decode cX1_search 20 = .ok (.aload_n 1, 1) := by decide +kernel
theorem dX1_search_21 : decode cX1_search 21 = .ok (.getfield 48, 3) := by decide +kernel
theorem dX1_search_24 : decode cX1_search 24 = .ok (.if_icmp .ge 49, 3) := by decide +kernel
theorem dX1_search_27 : decode cX1_search 27 = .ok (.aload_n 0, 1) := by decide +kernel
theorem dX1_search_28 : decode cX1_search 28 = .ok (.getfield 22, 3) := by decide +kernel
theorem dX1_search_31 : decode cX1_search 31 = .ok (.iload 4, 2) := by decide +kernel
theorem dX1_search_33 : decode cX1_search 33 = .ok (.iload_n 3, 1) := by decide +kernel
theorem dX1_search_34 : decode cX1_search 34 = .ok (.ifCond .eq 13, 3) := by decide +kernel
theorem dX1_search_37 : decode cX1_search 37 = .ok (.aload_n 1, 1) := by decide +kernel
theorem dX1_search_38 : decode cX1_search 38 = .ok (.getfield 51, 3) := by decide +kernel
theorem dX1_search_41 : decode cX1_search 41 = .ok (.iload 4, 2) := by decide +kernel
theorem dX1_search_43 : decode cX1_search 43 = .ok (.iaload, 1) := by decide +kernel
theorem dX1_search_44 : decode cX1_search 44 = .ok (.goto 4, 3) := by decide +kernel
theorem dX1_search_47 : decode cX1_search 47 = .ok (.iconst 1, 1) := by decide +kernel
theorem dX1_search_48 : decode cX1_search 48 = .ok (.iastore, 1) := by decide +kernel
theorem dX1_search_49 : decode cX1_search 49 = .ok (.aload_n 0, 1) := by decide +kernel
theorem dX1_search_50 : decode cX1_search 50 = .ok (.aload_n 0, 1) := by decide +kernel
theorem dX1_search_51 : decode cX1_search 51 = .ok (.getfield 25, 3) := by decide +kernel
theorem dX1_search_54 : decode cX1_search 54 = .ok (.aload_n 0, 1) := by decide +kernel
theorem dX1_search_55 : decode cX1_search 55 = .ok (.getfield 22, 3) := by decide +kernel
theorem dX1_search_58 : decode cX1_search 58 = .ok (.iload 4, 2) := by decide +kernel
theorem dX1_search_60 : decode cX1_search 60 = .ok (.iaload, 1) := by decide +kernel
theorem dX1_search_61 : decode cX1_search 61 = .ok (.invokestatic 54, 3) := by decide +kernel
theorem dX1_search_64 : decode cX1_search 64 = .ok (.putfield 25, 3) := by decide +kernel
theorem dX1_search_67 : decode cX1_search 67 = .ok (.iinc 4 1, 3) := by decide +kernel
theorem dX1_search_70 : decode cX1_search 70 = .ok (.goto (-52), 3) := by decide +kernel
theorem dX1_search_73 : decode cX1_search 73 = .ok (.aload_n 0, 1) := by decide +kernel
theorem dX1_search_74 : decode cX1_search 74 = .ok (.aload_n 1, 1) := by decide +kernel
theorem dX1_search_75 : decode cX1_search 75 = .ok (.aload_n 2, 1) := by decide +kernel
theorem dX1_search_76 : decode cX1_search 76 = .ok (.invokevirtual 60, 3) := by decide +kernel
theorem dX1_search_79 : decode cX1_search 79 = .ok (.aload_n 0, 1) := by decide +kernel
theorem dX1_search_80 : decode cX1_search 80 = .ok (.ldc 64, 2) := by decide +kernel
theorem dX1_search_82 : decode cX1_search 82 = .ok (.putfield 34, 3) := by decide +kernel
theorem dX1_search_85 : decode cX1_search 85 = .ok (.aload_n 0, 1) := by decide +kernel
theorem dX1_search_86 : decode cX1_search 86 = .ok (.iconst 0, 1) := by decide +kernel
theorem dX1_search_87 : decode cX1_search 87 = .ok (.putfield 37, 3) := by decide +kernel
theorem dX1_search_90 : decode cX1_search 90 = .ok (.aload_n 0, 1) := by decide +kernel
theorem dX1_search_91 : decode cX1_search 91 = .ok (.iconst 0, 1) := by decide +kernel
theorem dX1_search_92 : decode cX1_search 92 = .ok (.putfield 40, 3) := by decide +kernel
theorem dX1_search_95 : decode cX1_search 95 = .ok (.aload_n 0, 1) := by decide +kernel
theorem dX1_search_96 : decode cX1_search 96 = .ok (.iconst 0, 1) := by decide +kernel
theorem dX1_search_97 : decode cX1_search 97 = .ok (.iconst 1, 1) := by decide +kernel
theorem dX1_search_98 : decode cX1_search 98 = .ok (.aload_n 1, 1) := by decide +kernel
theorem dX1_search_99 : decode cX1_search 99 = .ok (.getfield 48, 3) := by decide +kernel
theorem dX1_search_102 : decode cX1_search 102 = .ok (.ishl, 1) := by decide +kernel
theorem dX1_search_103 : decode cX1_search 103 = .ok (.iconst 1, 1) := by decide +kernel
theorem dX1_search_104 : decode cX1_search 104 = .ok (.isub, 1) := by decide +kernel
theorem dX1_search_105 : decode cX1_search 105 = .ok (.iconst 0, 1) := by decide +kernel
theorem dX1_search_106 : decode cX1_search 106 = .ok (.iconst 0, 1) := by decide +kernel
theorem dX1_search_107 : decode cX1_search 107 = .ok (.invokevirtual 65, 3) := by decide +kernel
theorem dX1_search_110 : decode cX1_search 110 = .ok (.return_, 1) := by decide +kernel
theorem dX1_gatherDemands_0 : decode cX1_gatherDemands 0 = .ok (.aload_n 0, 1) := by decide +kernel
theorem dX1_gatherDemands_1 : decode cX1_gatherDemands 1 = .ok (.iconst 0, 1) := by decide +kernel
theorem dX1_gatherDemands_2 : decode cX1_gatherDemands 2 = .ok (.putfield 15, 3) := by decide +kernel
theorem dX1_gatherDemands_5 : decode cX1_gatherDemands 5 = .ok (.iconst 0, 1) := by decide +kernel
theorem dX1_gatherDemands_6 : decode cX1_gatherDemands 6 = .ok (.istore_n 3, 1) := by decide +kernel
theorem dX1_gatherDemands_7 : decode cX1_gatherDemands 7 = .ok (.iload_n 3, 1) := by decide +kernel
theorem dX1_gatherDemands_8 : decode cX1_gatherDemands 8 = .ok (.aload_n 1, 1) := by decide +kernel
theorem dX1_gatherDemands_9 : decode cX1_gatherDemands 9 = .ok (.getfield 48, 3) := by decide +kernel
theorem dX1_gatherDemands_12 : decode cX1_gatherDemands 12 = .ok (.if_icmp .ge 72, 3) := by decide +kernel
theorem dX1_gatherDemands_15 : decode cX1_gatherDemands 15 = .ok (.iload_n 3, 1) := by decide +kernel
theorem dX1_gatherDemands_16 : decode cX1_gatherDemands 16 = .ok (.iconst 1, 1) := by decide +kernel
theorem dX1_gatherDemands_17 : decode cX1_gatherDemands 17 = .ok (.iadd, 1) := by decide +kernel
theorem dX1_gatherDemands_18 : decode cX1_gatherDemands 18 = .ok (.istore 4, 2) := by decide +kernel
theorem dX1_gatherDemands_20 : decode cX1_gatherDemands 20 = .ok (.iload 4, 2) := by decide +kernel
theorem dX1_gatherDemands_22 : decode cX1_gatherDemands 22 = .ok (.aload_n 1, 1) := by decide +kernel
theorem dX1_gatherDemands_23 : decode cX1_gatherDemands 23 = .ok (.getfield 48, 3) := by decide +kernel
theorem dX1_gatherDemands_26 : decode cX1_gatherDemands 26 = .ok (.if_icmp .ge 35, 3) := by decide +kernel
theorem dX1_gatherDemands_29 : decode cX1_gatherDemands 29 = .ok (.aload_n 2, 1) := by decide +kernel
theorem dX1_gatherDemands_30 : decode cX1_gatherDemands 30 = .ok (.iload_n 3, 1) := by decide +kernel
theorem dX1_gatherDemands_31 : decode cX1_gatherDemands 31 = .ok (.iload 4, 2) := by decide +kernel
theorem dX1_gatherDemands_33 : decode cX1_gatherDemands 33 = .ok (.invokevirtual 69, 3) := by decide +kernel
theorem dX1_gatherDemands_36 : decode cX1_gatherDemands 36 = .ok (.ifCond .ne 19, 3) := by decide +kernel
theorem dX1_gatherDemands_39 : decode cX1_gatherDemands 39 = .ok (.aload_n 0, 1) := by decide +kernel
theorem dX1_gatherDemands_40 : decode cX1_gatherDemands 40 = .ok (.aload_n 2, 1) := by decide +kernel
theorem dX1_gatherDemands_41 : decode cX1_gatherDemands 41 = .ok (.getfield 75, 3) := by decide +kernel
theorem dX1_gatherDemands_44 : decode cX1_gatherDemands 44 = .ok (.bipush 16, 2) := by decide +kernel
theorem dX1_gatherDemands_46 : decode cX1_gatherDemands 46 = .ok (.iload_n 3, 1) := by decide +kernel
theorem dX1_gatherDemands_47 : decode cX1_gatherDemands 47 = .ok (.imul, 1) := by decide +kernel
theorem dX1_gatherDemands_48 : decode cX1_gatherDemands 48 = .ok (.iload 4, 2) := by decide +kernel
theorem dX1_gatherDemands_50 : decode cX1_gatherDemands 50 = .ok (.iadd, 1) := by decide +kernel
theorem dX1_gatherDemands_51 : decode cX1_gatherDemands 51 = .ok (.iaload, 1) := by decide +kernel
theorem dX1_gatherDemands_52 : decode cX1_gatherDemands 52 = .ok (.invokevirtual 78, 3) := by decide +kernel
theorem dX1_gatherDemands_55 : decode cX1_gatherDemands 55 = .ok (.iinc 4 1, 3) := by decide +kernel
theorem dX1_gatherDemands_58 : decode cX1_gatherDemands 58 = .ok (.goto (-38), 3) := by decide +kernel
theorem dX1_gatherDemands_61 : decode cX1_gatherDemands 61 = .ok (.aload_n 1, 1) := by decide +kernel
theorem dX1_gatherDemands_62 : decode cX1_gatherDemands 62 = .ok (.getfield 82, 3) := by decide +kernel
theorem dX1_gatherDemands_65 : decode cX1_gatherDemands 65 = .ok (.ifCond .eq 13, 3) := by decide +kernel
theorem dX1_gatherDemands_68 : decode cX1_gatherDemands 68 = .ok (.aload_n 0, 1) := by decide +kernel
theorem dX1_gatherDemands_69 : decode cX1_gatherDemands 69 = .ok (.aload_n 2, 1) := by decide +kernel
theorem dX1_gatherDemands_70 : decode cX1_gatherDemands 70 = .ok (.getfield 86, 3) := by decide +kernel
theorem dX1_gatherDemands_73 : decode cX1_gatherDemands 73 = .ok (.iload_n 3, 1) := by decide +kernel
theorem dX1_gatherDemands_74 : decode cX1_gatherDemands 74 = .ok (.iaload, 1) := by decide +kernel
theorem dX1_gatherDemands_75 : decode cX1_gatherDemands 75 = .ok (.invokevirtual 78, 3) := by decide +kernel
theorem dX1_gatherDemands_78 : decode cX1_gatherDemands 78 = .ok (.iinc 3 1, 3) := by decide +kernel
theorem dX1_gatherDemands_81 : decode cX1_gatherDemands 81 = .ok (.goto (-74), 3) := by decide +kernel
theorem dX1_gatherDemands_84 : decode cX1_gatherDemands 84 = .ok (.return_, 1) := by decide +kernel
theorem dX1_demand_0 : decode cX1_demand 0 = .ok (.iconst 0, 1) := by decide +kernel
theorem dX1_demand_1 : decode cX1_demand 1 = .ok (.istore_n 2, 1) := by decide +kernel
theorem dX1_demand_2 : decode cX1_demand 2 = .ok (.iload_n 2, 1) := by decide +kernel
theorem dX1_demand_3 : decode cX1_demand 3 = .ok (.aload_n 0, 1) := by decide +kernel
theorem dX1_demand_4 : decode cX1_demand 4 = .ok (.getfield 15, 3) := by decide +kernel
theorem dX1_demand_7 : decode cX1_demand 7 = .ok (.if_icmp .ge 24, 3) := by decide +kernel
theorem dX1_demand_10 : decode cX1_demand 10 = .ok (.aload_n 0, 1) := by decide +kernel
theorem dX1_demand_11 : decode cX1_demand 11 = .ok (.getfield 9, 3) := by decide +kernel
theorem dX1_demand_14 : decode cX1_demand 14 = .ok (.iload_n 2, 1) := by decide +kernel
theorem dX1_demand_15 : decode cX1_demand 15 = .ok (.iaload, 1) := by decide +kernel
theorem dX1_demand_16 : decode cX1_demand 16 = .ok (.istore_n 3, 1) := by decide +kernel
theorem dX1_demand_17 : decode cX1_demand 17 = .ok (.iload_n 3, 1) := by decide +kernel
theorem dX1_demand_18 : decode cX1_demand 18 = .ok (.iload_n 1, 1) := by decide +kernel
theorem dX1_demand_19 : decode cX1_demand 19 = .ok (.iand, 1) := by decide +kernel
theorem dX1_demand_20 : decode cX1_demand 20 = .ok (.iload_n 3, 1) := by decide +kernel
theorem dX1_demand_21 : decode cX1_demand 21 = .ok (.if_icmp .ne 4, 3) := by decide +kernel
theorem dX1_demand_24 : decode cX1_demand 24 = .ok (.return_, 1) := by decide +kernel
theorem dX1_demand_25 : decode cX1_demand 25 = .ok (.iinc 2 1, 3) := by decide +kernel
theorem dX1_demand_28 : decode cX1_demand 28 = .ok (.goto (-26), 3) := by decide +kernel
theorem dX1_demand_31 : decode cX1_demand 31 = .ok (.iconst 0, 1) := by decide +kernel
theorem dX1_demand_32 : decode cX1_demand 32 = .ok (.istore_n 2, 1) := by decide +kernel
theorem dX1_demand_33 : decode cX1_demand 33 = .ok (.iconst 0, 1) := by decide +kernel
theorem dX1_demand_34 : decode cX1_demand 34 = .ok (.istore_n 3, 1) := by decide +kernel
theorem dX1_demand_35 : decode cX1_demand 35 = .ok (.iload_n 3, 1) := by decide +kernel
theorem dX1_demand_36 : decode cX1_demand 36 = .ok (.aload_n 0, 1) := by decide +kernel
theorem dX1_demand_37 : decode cX1_demand 37 = .ok (.getfield 15, 3) := by decide +kernel
theorem dX1_demand_40 : decode cX1_demand 40 = .ok (.if_icmp .ge 36, 3) := by decide +kernel
theorem dX1_demand_43 : decode cX1_demand 43 = .ok (.aload_n 0, 1) := by decide +kernel
theorem dX1_demand_44 : decode cX1_demand 44 = .ok (.getfield 9, 3) := by decide +kernel
theorem dX1_demand_47 : decode cX1_demand 47 = .ok (.iload_n 3, 1) := by decide +kernel
theorem dX1_demand_48 : decode cX1_demand 48 = .ok (.iaload, 1) := by decide +kernel
theorem dX1_demand_49 : decode cX1_demand 49 = .ok (.istore 4, 2) := by decide +kernel
theorem dX1_demand_51 : decode cX1_demand 51 = .ok (.iload 4, 2) := by decide +kernel
theorem dX1_demand_53 : decode cX1_demand 53 = .ok (.iload_n 1, 1) := by decide +kernel
theorem dX1_demand_54 : decode cX1_demand 54 = .ok (.iand, 1) := by decide +kernel
theorem dX1_demand_55 : decode cX1_demand 55 = .ok (.iload_n 1, 1) := by decide +kernel
theorem dX1_demand_56 : decode cX1_demand 56 = .ok (.if_icmp .eq 14, 3) := by decide +kernel
theorem dX1_demand_59 : decode cX1_demand 59 = .ok (.aload_n 0, 1) := by decide +kernel
theorem dX1_demand_60 : decode cX1_demand 60 = .ok (.getfield 9, 3) := by decide +kernel
theorem dX1_demand_63 : decode cX1_demand 63 = .ok (.iload_n 2, 1) := by decide +kernel
theorem dX1_demand_64 : decode cX1_demand 64 = .ok (.iload 4, 2) := by decide +kernel
theorem dX1_demand_66 : decode cX1_demand 66 = .ok (.iastore, 1) := by decide +kernel
theorem dX1_demand_67 : decode cX1_demand 67 = .ok (.iinc 2 1, 3) := by decide +kernel
theorem dX1_demand_70 : decode cX1_demand 70 = .ok (.iinc 3 1, 3) := by decide +kernel
theorem dX1_demand_73 : decode cX1_demand 73 = .ok (.goto (-38), 3) := by decide +kernel
theorem dX1_demand_76 : decode cX1_demand 76 = .ok (.iload_n 2, 1) := by decide +kernel
theorem dX1_demand_77 : decode cX1_demand 77 = .ok (.sipush 256, 3) := by decide +kernel
theorem dX1_demand_80 : decode cX1_demand 80 = .ok (.if_icmp .ge 17, 3) := by decide +kernel
theorem dX1_demand_83 : decode cX1_demand 83 = .ok (.aload_n 0, 1) := by decide +kernel
theorem dX1_demand_84 : decode cX1_demand 84 = .ok (.getfield 9, 3) := by decide +kernel
theorem dX1_demand_87 : decode cX1_demand 87 = .ok (.iload_n 2, 1) := by decide +kernel
theorem dX1_demand_88 : decode cX1_demand 88 = .ok (.iload_n 1, 1) := by decide +kernel
theorem dX1_demand_89 : decode cX1_demand 89 = .ok (.iastore, 1) := by decide +kernel
theorem dX1_demand_90 : decode cX1_demand 90 = .ok (.aload_n 0, 1) := by decide +kernel
theorem dX1_demand_91 : decode cX1_demand 91 = .ok (.iload_n 2, 1) := by decide +kernel
theorem dX1_demand_92 : decode cX1_demand 92 = .ok (.iconst 1, 1) := by decide +kernel
theorem dX1_demand_93 : decode cX1_demand 93 = .ok (.iadd, 1) := by decide +kernel
theorem dX1_demand_94 : decode cX1_demand 94 = .ok (.putfield 15, 3) := by decide +kernel
theorem dX1_demand_97 : decode cX1_demand 97 = .ok (.return_, 1) := by decide +kernel
theorem dX1_decide_0 : decode cX1_decide 0 = .ok (.iload 4, 2) := by decide +kernel
theorem dX1_decide_2 : decode cX1_decide 2 = .ok (.bipush 16, 2) := by decide +kernel
theorem dX1_decide_4 : decode cX1_decide 4 = .ok (.if_icmp .gt 12, 3) := by decide +kernel
theorem dX1_decide_7 : decode cX1_decide 7 = .ok (.aload_n 0, 1) := by decide +kernel
theorem dX1_decide_8 : decode cX1_decide 8 = .ok (.iload_n 1, 1) := by decide +kernel
theorem dX1_decide_9 : decode cX1_decide 9 = .ok (.iload_n 2, 1) := by decide +kernel
theorem dX1_decide_10 : decode cX1_decide 10 = .ok (.invokevirtual 89, 3) := by decide +kernel
theorem dX1_decide_13 : decode cX1_decide 13 = .ok (.ifCond .ne 4, 3) := by decide +kernel
theorem dX1_decide_16 : decode cX1_decide 16 = .ok (.return_, 1) := by decide +kernel
theorem dX1_decide_17 : decode cX1_decide 17 = .ok (.iload_n 3, 1) := by decide +kernel
theorem dX1_decide_18 : decode cX1_decide 18 = .ok (.aload_n 0, 1) := by decide +kernel
theorem dX1_decide_19 : decode cX1_decide 19 = .ok (.getfield 31, 3) := by decide +kernel
theorem dX1_decide_22 : decode cX1_decide 22 = .ok (.aload_n 0, 1) := by decide +kernel
theorem dX1_decide_23 : decode cX1_decide 23 = .ok (.getfield 25, 3) := by decide +kernel
theorem dX1_decide_26 : decode cX1_decide 26 = .ok (.imul, 1) := by decide +kernel
theorem dX1_decide_27 : decode cX1_decide 27 = .ok (.iadd, 1) := by decide +kernel
theorem dX1_decide_28 : decode cX1_decide 28 = .ok (.aload_n 0, 1) := by decide +kernel
theorem dX1_decide_29 : decode cX1_decide 29 = .ok (.getfield 34, 3) := by decide +kernel
theorem dX1_decide_32 : decode cX1_decide 32 = .ok (.if_icmp .le 4, 3) := by decide +kernel
theorem dX1_decide_35 : decode cX1_decide 35 = .ok (.return_, 1) := by decide +kernel
theorem dX1_decide_36 : decode cX1_decide 36 = .ok (.aload_n 0, 1) := by decide +kernel
theorem dX1_decide_37 : decode cX1_decide 37 = .ok (.getfield 28, 3) := by decide +kernel
theorem dX1_decide_40 : decode cX1_decide 40 = .ok (.ifCond .ne 10, 3) := by decide +kernel
theorem dX1_decide_43 : decode cX1_decide 43 = .ok (.aload_n 0, 1) := by decide +kernel
theorem dX1_decide_44 : decode cX1_decide 44 = .ok (.iload_n 1, 1) := by decide +kernel
theorem dX1_decide_45 : decode cX1_decide 45 = .ok (.iload_n 3, 1) := by decide +kernel
theorem dX1_decide_46 : decode cX1_decide 46 = .ok (.invokevirtual 92, 3) := by decide +kernel
theorem dX1_decide_49 : decode cX1_decide 49 = .ok (.return_, 1) := by decide +kernel
theorem dX1_decide_50 : decode cX1_decide 50 = .ok (.aload_n 0, 1) := by decide +kernel
theorem dX1_decide_51 : decode cX1_decide 51 = .ok (.getfield 28, 3) := by decide +kernel
theorem dX1_decide_54 : decode cX1_decide 54 = .ok (.invokestatic 96, 3) := by decide +kernel
theorem dX1_decide_57 : decode cX1_decide 57 = .ok (.istore 5, 2) := by decide +kernel
theorem dX1_decide_59 : decode cX1_decide 59 = .ok (.iload 5, 2) := by decide +kernel
theorem dX1_decide_61 : decode cX1_decide 61 = .ok (.bipush 16, 2) := by decide +kernel
theorem dX1_decide_63 : decode cX1_decide 63 = .ok (.if_icmp .ge 50, 3) := by decide +kernel
theorem dX1_decide_66 : decode cX1_decide 66 = .ok (.iload_n 2, 1) := by decide +kernel
theorem dX1_decide_67 : decode cX1_decide 67 = .ok (.iconst 1, 1) := by decide +kernel
theorem dX1_decide_68 : decode cX1_decide 68 = .ok (.iload 5, 2) := by decide +kernel
theorem dX1_decide_70 : decode cX1_decide 70 = .ok (.ishl, 1) := by decide +kernel
theorem dX1_decide_71 : decode cX1_decide 71 = .ok (.iconst (-1), 1) := by decide +kernel
theorem dX1_decide_72 : decode cX1_decide 72 = .ok (.ixor, 1) := by decide +kernel
theorem dX1_decide_73 : decode cX1_decide 73 = .ok (.iand, 1) := by decide +kernel
theorem dX1_decide_74 : decode cX1_decide 74 = .ok (.istore 6, 2) := by decide +kernel
theorem dX1_decide_76 : decode cX1_decide 76 = .ok (.aload_n 0, 1) := by decide +kernel
theorem dX1_decide_77 : decode cX1_decide 77 = .ok (.iload_n 1, 1) := by decide +kernel
theorem dX1_decide_78 : decode cX1_decide 78 = .ok (.iconst 1, 1) := by decide +kernel
theorem dX1_decide_79 : decode cX1_decide 79 = .ok (.iload 5, 2) := by decide +kernel
theorem dX1_decide_81 : decode cX1_decide 81 = .ok (.ishl, 1) := by decide +kernel
theorem dX1_decide_82 : decode cX1_decide 82 = .ok (.ior, 1) := by decide +kernel
theorem dX1_decide_83 : decode cX1_decide 83 = .ok (.iload 6, 2) := by decide +kernel
theorem dX1_decide_85 : decode cX1_decide 85 = .ok (.iload_n 3, 1) := by decide +kernel
theorem dX1_decide_86 : decode cX1_decide 86 = .ok (.aload_n 0, 1) := by decide +kernel
theorem dX1_decide_87 : decode cX1_decide 87 = .ok (.getfield 22, 3) := by decide +kernel
theorem dX1_decide_90 : decode cX1_decide 90 = .ok (.iload 5, 2) := by decide +kernel
theorem dX1_decide_92 : decode cX1_decide 92 = .ok (.iaload, 1) := by decide +kernel
theorem dX1_decide_93 : decode cX1_decide 93 = .ok (.iadd, 1) := by decide +kernel
theorem dX1_decide_94 : decode cX1_decide 94 = .ok (.iload 4, 2) := by decide +kernel
theorem dX1_decide_96 : decode cX1_decide 96 = .ok (.iconst 1, 1) := by decide +kernel
theorem dX1_decide_97 : decode cX1_decide 97 = .ok (.iadd, 1) := by decide +kernel
theorem dX1_decide_98 : decode cX1_decide 98 = .ok (.invokevirtual 65, 3) := by decide +kernel
theorem dX1_decide_101 : decode cX1_decide 101 = .ok (.aload_n 0, 1) := by decide +kernel
theorem dX1_decide_102 : decode cX1_decide 102 = .ok (.iload_n 1, 1) := by decide +kernel
theorem dX1_decide_103 : decode cX1_decide 103 = .ok (.iload 6, 2) := by decide +kernel
theorem dX1_decide_105 : decode cX1_decide 105 = .ok (.iload_n 3, 1) := by decide +kernel
theorem dX1_decide_106 : decode cX1_decide 106 = .ok (.iload 4, 2) := by decide +kernel
theorem dX1_decide_108 : decode cX1_decide 108 = .ok (.iconst 1, 1) := by decide +kernel
theorem dX1_decide_109 : decode cX1_decide 109 = .ok (.iadd, 1) := by decide +kernel
theorem dX1_decide_110 : decode cX1_decide 110 = .ok (.invokevirtual 65, 3) := by decide +kernel
theorem dX1_decide_113 : decode cX1_decide 113 = .ok (.return_, 1) := by decide +kernel
theorem dX1_canBeMet_0 : decode cX1_canBeMet 0 = .ok (.bipush 16, 2) := by decide +kernel
theorem dX1_canBeMet_2 : decode cX1_canBeMet 2 = .ok (.istore_n 3, 1) := by decide +kernel
theorem dX1_canBeMet_3 : decode cX1_canBeMet 3 = .ok (.iconst 0, 1) := by decide +kernel
theorem dX1_canBeMet_4 : decode cX1_canBeMet 4 = .ok (.istore 4, 2) := by decide +kernel
theorem dX1_canBeMet_6 : decode cX1_canBeMet 6 = .ok (.aload_n 0, 1) := by decide +kernel
theorem dX1_canBeMet_7 : decode cX1_canBeMet 7 = .ok (.iconst 0, 1) := by decide +kernel
theorem dX1_canBeMet_8 : decode cX1_canBeMet 8 = .ok (.putfield 28, 3) := by decide +kernel
theorem dX1_canBeMet_11 : decode cX1_canBeMet 11 = .ok (.aload_n 0, 1) := by decide +kernel
theorem dX1_canBeMet_12 : decode cX1_canBeMet 12 = .ok (.iconst 0, 1) := by decide +kernel
theorem dX1_canBeMet_13 : decode cX1_canBeMet 13 = .ok (.putfield 31, 3) := by decide +kernel
theorem dX1_canBeMet_16 : decode cX1_canBeMet 16 = .ok (.iconst 0, 1) := by decide +kernel
theorem dX1_canBeMet_17 : decode cX1_canBeMet 17 = .ok (.istore 5, 2) := by decide +kernel
theorem dX1_canBeMet_19 : decode cX1_canBeMet 19 = .ok (.iload 5, 2) := by decide +kernel
theorem dX1_canBeMet_21 : decode cX1_canBeMet 21 = .ok (.aload_n 0, 1) := by decide +kernel
theorem dX1_canBeMet_22 : decode cX1_canBeMet 22 = .ok (.getfield 15, 3) := by decide +kernel
theorem dX1_canBeMet_25 : decode cX1_canBeMet 25 = .ok (.if_icmp .ge 102, 3) := by decide +kernel
theorem dX1_canBeMet_28 : decode cX1_canBeMet 28 = .ok (.aload_n 0, 1) := by decide +kernel
theorem dX1_canBeMet_29 : decode cX1_canBeMet 29 = .ok (.getfield 19, 3) := by decide +kernel
theorem dX1_canBeMet_32 : decode cX1_canBeMet 32 = .ok (.iload_n 1, 1) := by decide +kernel
theorem dX1_canBeMet_33 : decode cX1_canBeMet 33 = .ok (.aload_n 0, 1) := by decide +kernel
theorem dX1_canBeMet_34 : decode cX1_canBeMet 34 = .ok (.getfield 9, 3) := by decide +kernel
theorem dX1_canBeMet_37 : decode cX1_canBeMet 37 = .ok (.iload 5, 2) := by decide +kernel
theorem dX1_canBeMet_39 : decode cX1_canBeMet 39 = .ok (.iaload, 1) := by decide +kernel
theorem dX1_canBeMet_40 : decode cX1_canBeMet 40 = .ok (.iand, 1) := by decide +kernel
theorem dX1_canBeMet_41 : decode cX1_canBeMet 41 = .ok (.invokestatic 102, 3) := by decide +kernel
theorem dX1_canBeMet_44 : decode cX1_canBeMet 44 = .ok (.isub, 1) := by decide +kernel
theorem dX1_canBeMet_45 : decode cX1_canBeMet 45 = .ok (.istore 6, 2) := by decide +kernel
theorem dX1_canBeMet_47 : decode cX1_canBeMet 47 = .ok (.iload 6, 2) := by decide +kernel
theorem dX1_canBeMet_49 : decode cX1_canBeMet 49 = .ok (.ifCond .le 72, 3) := by decide +kernel
theorem dX1_canBeMet_52 : decode cX1_canBeMet 52 = .ok (.iload_n 2, 1) := by decide +kernel
theorem dX1_canBeMet_53 : decode cX1_canBeMet 53 = .ok (.aload_n 0, 1) := by decide +kernel
theorem dX1_canBeMet_54 : decode cX1_canBeMet 54 = .ok (.getfield 9, 3) := by decide +kernel
theorem dX1_canBeMet_57 : decode cX1_canBeMet 57 = .ok (.iload 5, 2) := by decide +kernel
theorem dX1_canBeMet_59 : decode cX1_canBeMet 59 = .ok (.iaload, 1) := by decide +kernel
theorem dX1_canBeMet_60 : decode cX1_canBeMet 60 = .ok (.iand, 1) := by decide +kernel
theorem dX1_canBeMet_61 : decode cX1_canBeMet 61 = .ok (.istore 7, 2) := by decide +kernel
theorem dX1_canBeMet_63 : decode cX1_canBeMet 63 = .ok (.iload 7, 2) := by decide +kernel
theorem dX1_canBeMet_65 : decode cX1_canBeMet 65 = .ok (.invokestatic 102, 3) := by decide +kernel
theorem dX1_canBeMet_68 : decode cX1_canBeMet 68 = .ok (.iload 6, 2) := by decide +kernel
theorem dX1_canBeMet_70 : decode cX1_canBeMet 70 = .ok (.isub, 1) := by decide +kernel
theorem dX1_canBeMet_71 : decode cX1_canBeMet 71 = .ok (.istore 8, 2) := by decide +kernel
theorem dX1_canBeMet_73 : decode cX1_canBeMet 73 = .ok (.iload 8, 2) := by decide +kernel
theorem dX1_canBeMet_75 : decode cX1_canBeMet 75 = .ok (.ifCond .ge 5, 3) := by decide +kernel
theorem dX1_canBeMet_78 : decode cX1_canBeMet 78 = .ok (.iconst 0, 1) := by decide +kernel
theorem dX1_canBeMet_79 : decode cX1_canBeMet 79 = .ok (.ireturn, 1) := by decide +kernel
theorem dX1_canBeMet_80 : decode cX1_canBeMet 80 = .ok (.iload 8, 2) := by decide +kernel
theorem dX1_canBeMet_82 : decode cX1_canBeMet 82 = .ok (.iload_n 3, 1) := by decide +kernel
theorem dX1_canBeMet_83 : decode cX1_canBeMet 83 = .ok (.if_icmp .ge 12, 3) := by decide +kernel
theorem dX1_canBeMet_86 : decode cX1_canBeMet 86 = .ok (.iload 8, 2) := by decide +kernel
theorem dX1_canBeMet_88 : decode cX1_canBeMet 88 = .ok (.istore_n 3, 1) := by decide +kernel
theorem dX1_canBeMet_89 : decode cX1_canBeMet 89 = .ok (.aload_n 0, 1) := by decide +kernel
theorem dX1_canBeMet_90 : decode cX1_canBeMet 90 = .ok (.iload 7, 2) := by decide +kernel
theorem dX1_canBeMet_92 : decode cX1_canBeMet 92 = .ok (.putfield 28, 3) := by decide +kernel
theorem dX1_canBeMet_95 : decode cX1_canBeMet 95 = .ok (.iload 7, 2) := by decide +kernel
theorem dX1_canBeMet_97 : decode cX1_canBeMet 97 = .ok (.iload 4, 2) := by decide +kernel
theorem dX1_canBeMet_99 : decode cX1_canBeMet 99 = .ok (.iand, 1) := by decide +kernel
theorem dX1_canBeMet_100 : decode cX1_canBeMet 100 = .ok (.ifCond .ne 21, 3) := by decide +kernel
theorem dX1_canBeMet_103 : decode cX1_canBeMet 103 = .ok (.iload 4, 2) := by decide +kernel
theorem dX1_canBeMet_105 : decode cX1_canBeMet 105 = .ok (.iload 7, 2) := by decide +kernel
theorem dX1_canBeMet_107 : decode cX1_canBeMet 107 = .ok (.ior, 1) := by decide +kernel
theorem dX1_canBeMet_108 : decode cX1_canBeMet 108 = .ok (.istore 4, 2) := by decide +kernel
theorem dX1_canBeMet_110 : decode cX1_canBeMet 110 = .ok (.aload_n 0, 1) := by decide +kernel
theorem dX1_canBeMet_111 : decode cX1_canBeMet 111 = .ok (.dup, 1) := by decide +kernel
theorem dX1_canBeMet_112 : decode cX1_canBeMet 112 = .ok (.getfield 31, 3) := by decide +kernel
theorem dX1_canBeMet_115 : decode cX1_canBeMet 115 = .ok (.iload 6, 2) := by decide +kernel
theorem dX1_canBeMet_117 : decode cX1_canBeMet 117 = .ok (.iadd, 1) := by decide +kernel
theorem dX1_canBeMet_118 : decode cX1_canBeMet 118 = .ok (.putfield 31, 3) := by decide +kernel
theorem dX1_canBeMet_121 : decode cX1_canBeMet 121 = .ok (.iinc 5 1, 3) := by decide +kernel
theorem dX1_canBeMet_124 : decode cX1_canBeMet 124 = .ok (.goto (-105), 3) := by decide +kernel
theorem dX1_canBeMet_127 : decode cX1_canBeMet 127 = .ok (.iconst 1, 1) := by decide +kernel
theorem dX1_canBeMet_128 : decode cX1_canBeMet 128 = .ok (.ireturn, 1) := by decide +kernel
theorem dX1_takeIfBest_0 : decode cX1_takeIfBest 0 = .ok (.iload_n 2, 1) := by decide +kernel
theorem dX1_takeIfBest_1 : decode cX1_takeIfBest 1 = .ok (.aload_n 0, 1) := by decide +kernel
theorem dX1_takeIfBest_2 : decode cX1_takeIfBest 2 = .ok (.getfield 34, 3) := by decide +kernel
theorem dX1_takeIfBest_5 : decode cX1_takeIfBest 5 = .ok (.if_icmp .ge 21, 3) := by decide +kernel
theorem dX1_takeIfBest_8 : decode cX1_takeIfBest 8 = .ok (.aload_n 0, 1) := by decide +kernel
theorem dX1_takeIfBest_9 : decode cX1_takeIfBest 9 = .ok (.iload_n 2, 1) := by decide +kernel
theorem dX1_takeIfBest_10 : decode cX1_takeIfBest 10 = .ok (.putfield 34, 3) := by decide +kernel
theorem dX1_takeIfBest_13 : decode cX1_takeIfBest 13 = .ok (.aload_n 0, 1) := by decide +kernel
theorem dX1_takeIfBest_14 : decode cX1_takeIfBest 14 = .ok (.iload_n 1, 1) := by decide +kernel
theorem dX1_takeIfBest_15 : decode cX1_takeIfBest 15 = .ok (.putfield 37, 3) := by decide +kernel
theorem dX1_takeIfBest_18 : decode cX1_takeIfBest 18 = .ok (.aload_n 0, 1) := by decide +kernel
theorem dX1_takeIfBest_19 : decode cX1_takeIfBest 19 = .ok (.iconst 1, 1) := by decide +kernel
theorem dX1_takeIfBest_20 : decode cX1_takeIfBest 20 = .ok (.putfield 40, 3) := by decide +kernel
theorem dX1_takeIfBest_23 : decode cX1_takeIfBest 23 = .ok (.goto 33, 3) := by decide +kernel
theorem dX1_takeIfBest_26 : decode cX1_takeIfBest 26 = .ok (.iload_n 2, 1) := by decide +kernel
theorem dX1_takeIfBest_27 : decode cX1_takeIfBest 27 = .ok (.aload_n 0, 1) := by decide +kernel
theorem dX1_takeIfBest_28 : decode cX1_takeIfBest 28 = .ok (.getfield 34, 3) := by decide +kernel
theorem dX1_takeIfBest_31 : decode cX1_takeIfBest 31 = .ok (.if_icmp .ne 25, 3) := by decide +kernel
theorem dX1_takeIfBest_34 : decode cX1_takeIfBest 34 = .ok (.aload_n 0, 1) := by decide +kernel
theorem dX1_takeIfBest_35 : decode cX1_takeIfBest 35 = .ok (.aload_n 0, 1) := by decide +kernel
theorem dX1_takeIfBest_36 : decode cX1_takeIfBest 36 = .ok (.getfield 37, 3) := by decide +kernel
theorem dX1_takeIfBest_39 : decode cX1_takeIfBest 39 = .ok (.iload_n 1, 1) := by decide +kernel
theorem dX1_takeIfBest_40 : decode cX1_takeIfBest 40 = .ok (.invokestatic 54, 3) := by decide +kernel
theorem dX1_takeIfBest_43 : decode cX1_takeIfBest 43 = .ok (.putfield 37, 3) := by decide +kernel
theorem dX1_takeIfBest_46 : decode cX1_takeIfBest 46 = .ok (.aload_n 0, 1) := by decide +kernel
theorem dX1_takeIfBest_47 : decode cX1_takeIfBest 47 = .ok (.dup, 1) := by decide +kernel
theorem dX1_takeIfBest_48 : decode cX1_takeIfBest 48 = .ok (.getfield 40, 3) := by decide +kernel
theorem dX1_takeIfBest_51 : decode cX1_takeIfBest 51 = .ok (.iconst 1, 1) := by decide +kernel
theorem dX1_takeIfBest_52 : decode cX1_takeIfBest 52 = .ok (.iadd, 1) := by decide +kernel
theorem dX1_takeIfBest_53 : decode cX1_takeIfBest 53 = .ok (.putfield 40, 3) := by decide +kernel
theorem dX1_takeIfBest_56 : decode cX1_takeIfBest 56 = .ok (.return_, 1) := by decide +kernel
theorem dX2_init_0 : decode cX2_init 0 = .ok (.aload_n 0, 1) := by decide +kernel
theorem dX2_init_1 : decode cX2_init 1 = .ok (.invokespecial 3, 3) := by decide +kernel
theorem dX2_init_4 : decode cX2_init 4 = .ok (.aload_n 0, 1) := by decide +kernel
theorem dX2_init_5 : decode cX2_init 5 = .ok (.iconst 1, 1) := by decide +kernel
theorem dX2_init_6 : decode cX2_init 6 = .ok (.putfield 9, 3) := by decide +kernel
theorem dX2_init_9 : decode cX2_init 9 = .ok (.aload_n 0, 1) := by decide +kernel
theorem dX2_init_10 : decode cX2_init 10 = .ok (.iconst 0, 1) := by decide +kernel
theorem dX2_init_11 : decode cX2_init 11 = .ok (.putfield 15, 3) := by decide +kernel
theorem dX2_init_14 : decode cX2_init 14 = .ok (.aload_n 0, 1) := by decide +kernel
theorem dX2_init_15 : decode cX2_init 15 = .ok (.iconst 0, 1) := by decide +kernel
theorem dX2_init_16 : decode cX2_init 16 = .ok (.putfield 18, 3) := by decide +kernel
theorem dX2_init_19 : decode cX2_init 19 = .ok (.aload_n 0, 1) := by decide +kernel
theorem dX2_init_20 : decode cX2_init 20 = .ok (.iconst 0, 1) := by decide +kernel
theorem dX2_init_21 : decode cX2_init 21 = .ok (.putfield 21, 3) := by decide +kernel
theorem dX2_init_24 : decode cX2_init 24 = .ok (.aload_n 0, 1) := by decide +kernel
theorem dX2_init_25 : decode cX2_init 25 = .ok (.iconst 0, 1) := by decide +kernel
theorem dX2_init_26 : decode cX2_init 26 = .ok (.putfield 24, 3) := by decide +kernel
theorem dX2_init_29 : decode cX2_init 29 = .ok (.aload_n 0, 1) := by decide +kernel
theorem dX2_init_30 : decode cX2_init 30 = .ok (.iconst 0, 1) := by decide +kernel
theorem dX2_init_31 : decode cX2_init 31 = .ok (.putfield 28, 3) := by decide +kernel
theorem dX2_init_34 : decode cX2_init 34 = .ok (.aload_n 0, 1) := by decide +kernel
theorem dX2_init_35 : decode cX2_init 35 = .ok (.iconst 0, 1) := by decide +kernel
theorem dX2_init_36 : decode cX2_init 36 = .ok (.putfield 31, 3) := by decide +kernel
theorem dX2_init_39 : decode cX2_init 39 = .ok (.aload_n 0, 1) := by decide +kernel
theorem dX2_init_40 : decode cX2_init 40 = .ok (.sipush 256, 3) := by decide +kernel
theorem dX2_init_43 : decode cX2_init 43 = .ok (.newarray .int, 2) := by decide +kernel
theorem dX2_init_45 : decode cX2_init 45 = .ok (.putfield 34, 3) := by decide +kernel
theorem dX2_init_48 : decode cX2_init 48 = .ok (.aload_n 0, 1) := by decide +kernel
theorem dX2_init_49 : decode cX2_init 49 = .ok (.bipush 16, 2) := by decide +kernel
theorem dX2_init_51 : decode cX2_init 51 = .ok (.newarray .int, 2) := by decide +kernel
theorem dX2_init_53 : decode cX2_init 53 = .ok (.putfield 38, 3) := by decide +kernel
theorem dX2_init_56 : decode cX2_init 56 = .ok (.aload_n 0, 1) := by decide +kernel
theorem dX2_init_57 : decode cX2_init 57 = .ok (.bipush 16, 2) := by decide +kernel
theorem dX2_init_59 : decode cX2_init 59 = .ok (.newarray .int, 2) := by decide +kernel
theorem dX2_init_61 : decode cX2_init 61 = .ok (.putfield 41, 3) := by decide +kernel
theorem dX2_init_64 : decode cX2_init 64 = .ok (.aload_n 0, 1) := by decide +kernel
theorem dX2_init_65 : decode cX2_init 65 = .ok (.bipush 16, 2) := by decide +kernel
theorem dX2_init_67 : decode cX2_init 67 = .ok (.newarray .int, 2) := by decide +kernel
theorem dX2_init_69 : decode cX2_init 69 = .ok (.putfield 44, 3) := by decide +kernel
theorem dX2_init_72 : decode cX2_init 72 = .ok (.aload_n 0, 1) := by decide +kernel
theorem dX2_init_73 : decode cX2_init 73 = .ok (.bipush 16, 2) := by decide +kernel
theorem dX2_init_75 : decode cX2_init 75 = .ok (.newarray .int, 2) := by decide +kernel
theorem dX2_init_77 : decode cX2_init 77 = .ok (.putfield 47, 3) := by decide +kernel
theorem dX2_init_80 : decode cX2_init 80 = .ok (.aload_n 0, 1) := by decide +kernel
theorem dX2_init_81 : decode cX2_init 81 = .ok (.getfield 41, 3) := by decide +kernel
theorem dX2_init_84 : decode cX2_init 84 = .ok (.iconst 1, 1) := by decide +kernel
theorem dX2_init_85 : decode cX2_init 85 = .ok (.invokestatic 50, 3) := by decide +kernel
theorem dX2_init_88 : decode cX2_init 88 = .ok (.aload_n 0, 1) := by decide +kernel
theorem dX2_init_89 : decode cX2_init 89 = .ok (.getfield 44, 3) := by decide +kernel
theorem dX2_init_92 : decode cX2_init 92 = .ok (.iconst 1, 1) := by decide +kernel
theorem dX2_init_93 : decode cX2_init 93 = .ok (.invokestatic 50, 3) := by decide +kernel
theorem dX2_init_96 : decode cX2_init 96 = .ok (.return_, 1) := by decide +kernel
theorem dX2_become_0 : decode cX2_become 0 = .ok (.aload_n 0, 1) := by decide +kernel
theorem dX2_become_1 : decode cX2_become 1 = .ok (.aload_n 1, 1) := by decide +kernel
theorem dX2_become_2 : decode cX2_become 2 = .ok (.getfield 9, 3) := by decide +kernel
theorem dX2_become_5 : decode cX2_become 5 = .ok (.putfield 9, 3) := by decide +kernel
theorem dX2_become_8 : decode cX2_become 8 = .ok (.aload_n 0, 1) := by decide +kernel
theorem dX2_become_9 : decode cX2_become 9 = .ok (.aload_n 1, 1) := by decide +kernel
theorem dX2_become_10 : decode cX2_become 10 = .ok (.getfield 15, 3) := by decide +kernel
theorem dX2_become_13 : decode cX2_become 13 = .ok (.putfield 15, 3) := by decide +kernel
theorem dX2_become_16 : decode cX2_become 16 = .ok (.aload_n 0, 1) := by decide +kernel
theorem dX2_become_17 : decode cX2_become 17 = .ok (.aload_n 1, 1) := by decide +kernel
theorem dX2_become_18 : decode cX2_become 18 = .ok (.getfield 18, 3) := by decide +kernel
theorem dX2_become_21 : decode cX2_become 21 = .ok (.putfield 18, 3) := by decide +kernel
theorem dX2_become_24 : decode cX2_become 24 = .ok (.aload_n 0, 1) := by decide +kernel
theorem dX2_become_25 : decode cX2_become 25 = .ok (.aload_n 1, 1) := by decide +kernel
theorem dX2_become_26 : decode cX2_become 26 = .ok (.getfield 21, 3) := by decide +kernel
theorem dX2_become_29 : decode cX2_become 29 = .ok (.putfield 21, 3) := by decide +kernel
theorem dX2_become_32 : decode cX2_become 32 = .ok (.aload_n 0, 1) := by decide +kernel
theorem dX2_become_33 : decode cX2_become 33 = .ok (.aload_n 1, 1) := by decide +kernel
theorem dX2_become_34 : decode cX2_become 34 = .ok (.getfield 24, 3) := by decide +kernel
theorem dX2_become_37 : decode cX2_become 37 = .ok (.putfield 24, 3) := by decide +kernel
theorem dX2_become_40 : decode cX2_become 40 = .ok (.aload_n 0, 1) := by decide +kernel
theorem dX2_become_41 : decode cX2_become 41 = .ok (.aload_n 1, 1) := by decide +kernel
theorem dX2_become_42 : decode cX2_become 42 = .ok (.getfield 28, 3) := by decide +kernel
theorem dX2_become_45 : decode cX2_become 45 = .ok (.putfield 28, 3) := by decide +kernel
theorem dX2_become_48 : decode cX2_become 48 = .ok (.aload_n 0, 1) := by decide +kernel
theorem dX2_become_49 : decode cX2_become 49 = .ok (.aload_n 1, 1) := by decide +kernel
theorem dX2_become_50 : decode cX2_become 50 = .ok (.getfield 31, 3) := by decide +kernel
theorem dX2_become_53 : decode cX2_become 53 = .ok (.putfield 31, 3) := by decide +kernel
theorem dX2_become_56 : decode cX2_become 56 = .ok (.aload_n 1, 1) := by decide +kernel
theorem dX2_become_57 : decode cX2_become 57 = .ok (.getfield 34, 3) := by decide +kernel
theorem dX2_become_60 : decode cX2_become 60 = .ok (.iconst 0, 1) := by decide +kernel
theorem dX2_become_61 : decode cX2_become 61 = .ok (.aload_n 0, 1) := by decide +kernel
theorem dX2_become_62 : decode cX2_become 62 = .ok (.getfield 34, 3) := by decide +kernel
theorem dX2_become_65 : decode cX2_become 65 = .ok (.iconst 0, 1) := by decide +kernel
theorem dX2_become_66 : decode cX2_become 66 = .ok (.sipush 256, 3) := by decide +kernel
theorem dX2_become_69 : decode cX2_become 69 = .ok (.invokestatic 56, 3) := by decide +kernel
theorem dX2_become_72 : decode cX2_become 72 = .ok (.aload_n 1, 1) := by decide +kernel
theorem dX2_become_73 : decode cX2_become 73 = .ok (.getfield 38, 3) := by decide +kernel
theorem dX2_become_76 : decode cX2_become 76 = .ok (.iconst 0, 1) := by decide +kernel
theorem dX2_become_77 : decode cX2_become 77 = .ok (.aload_n 0, 1) := by decide +kernel
theorem dX2_become_78 : decode cX2_become 78 = .ok (.getfield 38, 3) := by decide +kernel
theorem dX2_become_81 : decode cX2_become 81 = .ok (.iconst 0, 1) := by decide +kernel
theorem dX2_become_82 : decode cX2_become 82 = .ok (.bipush 16, 2) := by decide +kernel
theorem dX2_become_84 : decode cX2_become 84 = .ok (.invokestatic 56, 3) := by decide +kernel
theorem dX2_become_87 : decode cX2_become 87 = .ok (.aload_n 1, 1) := by decide +kernel
theorem dX2_become_88 : decode cX2_become 88 = .ok (.getfield 41, 3) := by decide +kernel
theorem dX2_become_91 : decode cX2_become 91 = .ok (.iconst 0, 1) := by decide +kernel
theorem dX2_become_92 : decode cX2_become 92 = .ok (.aload_n 0, 1) := by decide +kernel
theorem dX2_become_93 : decode cX2_become 93 = .ok (.getfield 41, 3) := by decide +kernel
theorem dX2_become_96 : decode cX2_become 96 = .ok (.iconst 0, 1) := by decide +kernel
theorem dX2_become_97 : decode cX2_become 97 = .ok (.bipush 16, 2) := by decide +kernel
theorem dX2_become_99 : decode cX2_become 99 = .ok (.invokestatic 56, 3) := by decide +kernel
theorem dX2_become_102 : decode cX2_become 102 = .ok (.aload_n 1, 1) := by decide +kernel
theorem dX2_become_103 : decode cX2_become 103 = .ok (.getfield 44, 3) := by decide +kernel
theorem dX2_become_106 : decode cX2_become 106 = .ok (.iconst 0, 1) := by decide +kernel
theorem dX2_become_107 : decode cX2_become 107 = .ok (.aload_n 0, 1) := by decide +kernel
theorem dX2_become_108 : decode cX2_become 108 = .ok (.getfield 44, 3) := by decide +kernel
theorem dX2_become_111 : decode cX2_become 111 = .ok (.iconst 0, 1) := by decide +kernel
theorem dX2_become_112 : decode cX2_become 112 = .ok (.bipush 16, 2) := by decide +kernel
theorem dX2_become_114 : decode cX2_become 114 = .ok (.invokestatic 56, 3) := by decide +kernel
theorem dX2_become_117 : decode cX2_become 117 = .ok (.aload_n 1, 1) := by decide +kernel
theorem dX2_become_118 : decode cX2_become 118 = .ok (.getfield 47, 3) := by decide +kernel
theorem dX2_become_121 : decode cX2_become 121 = .ok (.iconst 0, 1) := by decide +kernel
theorem dX2_become_122 : decode cX2_become 122 = .ok (.aload_n 0, 1) := by decide +kernel
theorem dX2_become_123 : decode cX2_become 123 = .ok (.getfield 47, 3) := by decide +kernel
theorem dX2_become_126 : decode cX2_become 126 = .ok (.iconst 0, 1) := by decide +kernel
theorem dX2_become_127 : decode cX2_become 127 = .ok (.bipush 16, 2) := by decide +kernel
theorem dX2_become_129 : decode cX2_become 129 = .ok (.invokestatic 56, 3) := by decide +kernel
theorem dX2_become_132 : decode cX2_become 132 = .ok (.return_, 1) := by decide +kernel
theorem dX2_isPost_0 : decode cX2_isPost 0 = .ok (.iload_n 1, 1) := by decide +kernel
theorem dX2_isPost_1 : decode cX2_isPost 1 = .ok (.ifCond .lt 15, 3) := by decide +kernel
theorem dX2_isPost_4 : decode cX2_isPost 4 = .ok (.iload_n 1, 1) := by decide +kernel
theorem dX2_isPost_5 : decode cX2_isPost 5 = .ok (.aload_n 0, 1) := by decide +kernel
theorem dX2_isPost_6 : decode cX2_isPost 6 = .ok (.getfield 9, 3) := by decide +kernel
theorem dX2_isPost_9 : decode cX2_isPost 9 = .ok (.if_icmp .ge 7, 3) := by decide +kernel
theorem dX2_isPost_12 : decode cX2_isPost 12 = .ok (.iconst 1, 1) := by decide +kernel
theorem dX2_isPost_13 : decode cX2_isPost 13 = .ok (.goto 4, 3) := by decide +kernel
theorem dX2_isPost_16 : decode cX2_isPost 16 = .ok (.iconst 0, 1) := by decide +kernel
theorem dX2_isPost_17 : decode cX2_isPost 17 = .ok (.ireturn, 1) := by decide +kernel
theorem dX2_isSet_0 : decode cX2_isSet 0 = .ok (.iload_n 1, 1) := by decide +kernel
theorem dX2_isSet_1 : decode cX2_isSet 1 = .ok (.ifCond .lt 17, 3) := by decide +kernel
theorem dX2_isSet_4 : decode cX2_isSet 4 = .ok (.iload_n 1, 1) := by decide +kernel
theorem dX2_isSet_5 : decode cX2_isSet 5 = .ok (.iconst 1, 1) := by decide +kernel
theorem dX2_isSet_6 : decode cX2_isSet 6 = .ok (.aload_n 0, 1) := by decide +kernel
theorem dX2_isSet_7 : decode cX2_isSet 7 = .ok (.getfield 9, 3) := by decide +kernel
theorem dX2_isSet_10 : decode cX2_isSet 10 = .ok (.ishl, 1) := by decide +kernel
theorem dX2_isSet_11 : decode cX2_isSet 11 = .ok (.if_icmp .ge 7, 3) := by decide +kernel
theorem dX2_isSet_14 : decode cX2_isSet 14 = .ok (.iconst 1, 1) := by decide +kernel
theorem dX2_isSet_15 : decode cX2_isSet 15 = .ok (.goto 4, 3) := by decide +kernel
theorem dX2_isSet_18 : decode cX2_isSet 18 = .ok (.iconst 0, 1) := by decide +kernel
theorem dX2_isSet_19 : decode cX2_isSet 19 = .ok (.ireturn, 1) := by decide +kernel
theorem dX2_hasRoad_0 : decode cX2_hasRoad 0 = .ok (.aload_n 0, 1) := by decide +kernel
theorem dX2_hasRoad_1 : decode cX2_hasRoad 1 = .ok (.getfield 34, 3) := by decide +kernel
theorem dX2_hasRoad_4 : decode cX2_hasRoad 4 = .ok (.bipush 16, 2) := by decide +kernel
theorem dX2_hasRoad_6 : decode cX2_hasRoad 6 = .ok (.iload_n 1, 1) := by decide +kernel
theorem dX2_hasRoad_7 : decode cX2_hasRoad 7 = .ok (.imul, 1) := by decide +kernel
theorem dX2_hasRoad_8 : decode cX2_hasRoad 8 = .ok (.iload_n 2, 1) := by decide +kernel
theorem dX2_hasRoad_9 : decode cX2_hasRoad 9 = .ok (.iadd, 1) := by decide +kernel
theorem dX2_hasRoad_10 : decode cX2_hasRoad 10 = .ok (.iaload, 1) := by decide +kernel
theorem dX2_hasRoad_11 : decode cX2_hasRoad 11 = .ok (.ifCond .le 7, 3) := by decide +kernel
theorem dX2_hasRoad_14 : decode cX2_hasRoad 14 = .ok (.iconst 1, 1) := by decide +kernel
theorem dX2_hasRoad_15 : decode cX2_hasRoad 15 = .ok (.goto 4, 3) := by decide +kernel
theorem dX2_hasRoad_18 : decode cX2_hasRoad 18 = .ok (.iconst 0, 1) := by decide +kernel
theorem dX2_hasRoad_19 : decode cX2_hasRoad 19 = .ok (.ireturn, 1) := by decide +kernel
theorem dX2_hasWord_0 : decode cX2_hasWord 0 = .ok (.aload_n 0, 1) := by decide +kernel
theorem dX2_hasWord_1 : decode cX2_hasWord 1 = .ok (.getfield 31, 3) := by decide +kernel
theorem dX2_hasWord_4 : decode cX2_hasWord 4 = .ok (.iload_n 1, 1) := by decide +kernel
theorem dX2_hasWord_5 : decode cX2_hasWord 5 = .ok (.ishr, 1) := by decide +kernel
theorem dX2_hasWord_6 : decode cX2_hasWord 6 = .ok (.iconst 1, 1) := by decide +kernel
theorem dX2_hasWord_7 : decode cX2_hasWord 7 = .ok (.iand, 1) := by decide +kernel
theorem dX2_hasWord_8 : decode cX2_hasWord 8 = .ok (.iconst 1, 1) := by decide +kernel
theorem dX2_hasWord_9 : decode cX2_hasWord 9 = .ok (.if_icmp .ne 7, 3) := by decide +kernel
theorem dX2_hasWord_12 : decode cX2_hasWord 12 = .ok (.iconst 1, 1) := by decide +kernel
theorem dX2_hasWord_13 : decode cX2_hasWord 13 = .ok (.goto 4, 3) := by decide +kernel
theorem dX2_hasWord_16 : decode cX2_hasWord 16 = .ok (.iconst 0, 1) := by decide +kernel
theorem dX2_hasWord_17 : decode cX2_hasWord 17 = .ok (.ireturn, 1) := by decide +kernel
theorem dX2_roadCanBe_0 : decode cX2_roadCanBe 0 = .ok (.aload_n 0, 1) := by decide +kernel
theorem dX2_roadCanBe_1 : decode cX2_roadCanBe 1 = .ok (.iload_n 1, 1) := by decide +kernel
theorem dX2_roadCanBe_2 : decode cX2_roadCanBe 2 = .ok (.invokevirtual 62, 3) := by decide +kernel
theorem dX2_roadCanBe_5 : decode cX2_roadCanBe 5 = .ok (.ifCond .eq 41, 3) := by decide +kernel
theorem dX2_roadCanBe_8 : decode cX2_roadCanBe 8 = .ok (.aload_n 0, 1) := by decide +kernel
theorem dX2_roadCanBe_9 : decode cX2_roadCanBe 9 = .ok (.iload_n 2, 1) := by decide +kernel
theorem dX2_roadCanBe_10 : decode cX2_roadCanBe 10 = .ok (.invokevirtual 62, 3) := by decide +kernel
theorem dX2_roadCanBe_13 : decode cX2_roadCanBe 13 = .ok (.ifCond .eq 33, 3) := by decide +kernel
theorem dX2_roadCanBe_16 : decode cX2_roadCanBe 16 = .ok (.iload_n 1, 1) := by decide +kernel
theorem dX2_roadCanBe_17 : decode cX2_roadCanBe 17 = .ok (.iload_n 2, 1) := by decide +kernel
theorem dX2_roadCanBe_18 : decode cX2_roadCanBe 18 = .ok (.if_icmp .eq 28, 3) := by decide +kernel
theorem dX2_roadCanBe_21 : decode cX2_roadCanBe 21 = .ok (.iload_n 3, 1) := by decide +kernel
theorem dX2_roadCanBe_22 : decode cX2_roadCanBe 22 = .ok (.iconst 1, 1) := by decide +kernel
theorem dX2_roadCanBe_23 : decode cX2_roadCanBe 23 = .ok (.if_icmp .lt 23, 3) := by decide +kernel
theorem dX2_roadCanBe_26 : decode cX2_roadCanBe 26 = .ok (.iload_n 3, 1) := by decide +kernel
theorem dX2_roadCanBe_27 : decode cX2_roadCanBe 27 = .ok (.sipush 1000, 3) := by decide +kernel
theorem dX2_roadCanBe_30 : decode cX2_roadCanBe 30 = .ok (.if_icmp .gt 16, 3) := by decide +kernel
theorem dX2_roadCanBe_33 : decode cX2_roadCanBe 33 = .ok (.aload_n 0, 1) := by decide +kernel
theorem dX2_roadCanBe_34 : decode cX2_roadCanBe 34 = .ok (.iload_n 1, 1) := by decide +kernel
theorem dX2_roadCanBe_35 : decode cX2_roadCanBe 35 = .ok (.iload_n 2, 1) := by decide +kernel
theorem dX2_roadCanBe_36 : decode cX2_roadCanBe 36 = .ok (.invokevirtual 66, 3) := by decide +kernel
theorem dX2_roadCanBe_39 : decode cX2_roadCanBe 39 = .ok (.ifCond .ne 7, 3) := by decide +kernel
theorem dX2_roadCanBe_42 : decode cX2_roadCanBe 42 = .ok (.iconst 1, 1) := by decide +kernel
theorem dX2_roadCanBe_43 : decode cX2_roadCanBe 43 = .ok (.goto 4, 3) := by decide +kernel
theorem dX2_roadCanBe_46 : decode cX2_roadCanBe 46 = .ok (.iconst 0, 1) := by decide +kernel
theorem dX2_roadCanBe_47 : decode cX2_roadCanBe 47 = .ok (.ireturn, 1) := by decide +kernel
theorem dX2_layRoad_0 : decode cX2_layRoad 0 = .ok (.aload_n 0, 1) := by decide +kernel
theorem dX2_layRoad_1 : decode cX2_layRoad 1 = .ok (.getfield 34, 3) := by decide +kernel
theorem dX2_layRoad_4 : decode cX2_layRoad 4 = .ok (.bipush 16, 2) := by decide +kernel
theorem dX2_layRoad_6 : decode cX2_layRoad 6 = .ok (.iload_n 1, 1) := by decide +kernel
theorem dX2_layRoad_7 : decode cX2_layRoad 7 = .ok (.imul, 1) := by decide +kernel
theorem dX2_layRoad_8 : decode cX2_layRoad 8 = .ok (.iload_n 2, 1) := by decide +kernel
theorem dX2_layRoad_9 : decode cX2_layRoad 9 = .ok (.iadd, 1) := by decide +kernel
theorem dX2_layRoad_10 : decode cX2_layRoad 10 = .ok (.iload_n 3, 1) := by decide +kernel
theorem dX2_layRoad_11 : decode cX2_layRoad 11 = .ok (.iastore, 1) := by decide +kernel
theorem dX2_layRoad_12 : decode cX2_layRoad 12 = .ok (.aload_n 0, 1) := by decide +kernel
theorem dX2_layRoad_13 : decode cX2_layRoad 13 = .ok (.getfield 34, 3) := by decide +kernel
theorem dX2_layRoad_16 : decode cX2_layRoad 16 = .ok (.bipush 16, 2) := by decide +kernel
theorem dX2_layRoad_18 : decode cX2_layRoad 18 = .ok (.iload_n 2, 1) := by decide +kernel
theorem dX2_layRoad_19 : decode cX2_layRoad 19 = .ok (.imul, 1) := by decide +kernel
theorem dX2_layRoad_20 : decode cX2_layRoad 20 = .ok (.iload_n 1, 1) := by decide +kernel
theorem dX2_layRoad_21 : decode cX2_layRoad 21 = .ok (.iadd, 1) := by decide +kernel
theorem dX2_layRoad_22 : decode cX2_layRoad 22 = .ok (.iload_n 3, 1) := by decide +kernel
theorem dX2_layRoad_23 : decode cX2_layRoad 23 = .ok (.iastore, 1) := by decide +kernel
theorem dX2_layRoad_24 : decode cX2_layRoad 24 = .ok (.return_, 1) := by decide +kernel
theorem dX2_besideBits_0 : decode cX2_besideBits 0 = .ok (.iconst 0, 1) := by decide +kernel
theorem dX2_besideBits_1 : decode cX2_besideBits 1 = .ok (.istore_n 2, 1) := by decide +kernel
theorem dX2_besideBits_2 : decode cX2_besideBits 2 = .ok (.iconst 0, 1) := by decide +kernel
theorem dX2_besideBits_3 : decode cX2_besideBits 3 = .ok (.istore_n 3, 1) := by decide +kernel
theorem dX2_besideBits_4 : decode cX2_besideBits 4 = .ok (.iload_n 3, 1) := by decide +kernel
theorem dX2_besideBits_5 : decode cX2_besideBits 5 = .ok (.aload_n 0, 1) := by decide +kernel
theorem dX2_besideBits_6 : decode cX2_besideBits 6 = .ok (.getfield 9, 3) := by decide +kernel
theorem dX2_besideBits_9 : decode cX2_besideBits 9 = .ok (.if_icmp .ge 24, 3) := by decide +kernel
theorem dX2_besideBits_12 : decode cX2_besideBits 12 = .ok (.aload_n 0, 1) := by decide +kernel
theorem dX2_besideBits_13 : decode cX2_besideBits 13 = .ok (.iload_n 1, 1) := by decide +kernel
theorem dX2_besideBits_14 : decode cX2_besideBits 14 = .ok (.iload_n 3, 1) := by decide +kernel
theorem dX2_besideBits_15 : decode cX2_besideBits 15 = .ok (.invokevirtual 66, 3) := by decide +kernel
theorem dX2_besideBits_18 : decode cX2_besideBits 18 = .ok (.ifCond .eq 9, 3) := by decide +kernel
theorem dX2_besideBits_21 : decode cX2_besideBits 21 = .ok (.iload_n 2, 1) := by decide +kernel
theorem dX2_besideBits_22 : decode cX2_besideBits 22 = .ok (.iconst 1, 1) := by decide +kernel
theorem dX2_besideBits_23 : decode cX2_besideBits 23 = .ok (.iload_n 3, 1) := by decide +kernel
theorem dX2_besideBits_24 : decode cX2_besideBits 24 = .ok (.ishl, 1) := by decide +kernel
theorem dX2_besideBits_25 : decode cX2_besideBits 25 = .ok (.ior, 1) := by decide +kernel
theorem dX2_besideBits_26 : decode cX2_besideBits 26 = .ok (.istore_n 2, 1) := by decide +kernel
theorem dX2_besideBits_27 : decode cX2_besideBits 27 = .ok (.iinc 3 1, 3) := by decide +kernel
theorem dX2_besideBits_30 : decode cX2_besideBits 30 = .ok (.goto (-26), 3) := by decide +kernel
theorem dX2_besideBits_33 : decode cX2_besideBits 33 = .ok (.iload_n 2, 1) := by decide +kernel
theorem dX2_besideBits_34 : decode cX2_besideBits 34 = .ok (.ireturn, 1) := by decide +kernel
theorem dX2_countRoads_0 : decode cX2_countRoads 0 = .ok (.iconst 0, 1) := by decide +kernel
theorem dX2_countRoads_1 : decode cX2_countRoads 1 = .ok (.istore_n 1, 1) := by decide +kernel
theorem dX2_countRoads_2 : decode cX2_countRoads 2 = .ok (.iconst 0, 1) := by decide +kernel
theorem dX2_countRoads_3 : decode cX2_countRoads 3 = .ok (.istore_n 2, 1) := by decide +kernel
theorem dX2_countRoads_4 : decode cX2_countRoads 4 = .ok (.iload_n 2, 1) := by decide +kernel
theorem dX2_countRoads_5 : decode cX2_countRoads 5 = .ok (.aload_n 0, 1) := by decide +kernel
theorem dX2_countRoads_6 : decode cX2_countRoads 6 = .ok (.getfield 9, 3) := by decide +kernel
theorem dX2_countRoads_9 : decode cX2_countRoads 9 = .ok (.if_icmp .ge 20, 3) := by decide +kernel
theorem dX2_countRoads_12 : decode cX2_countRoads 12 = .ok (.iload_n 1, 1) := by decide +kernel
theorem dX2_countRoads_13 : decode cX2_countRoads 13 = .ok (.aload_n 0, 1) := by decide +kernel
theorem dX2_countRoads_14 : decode cX2_countRoads 14 = .ok (.iload_n 2, 1) := by decide +kernel
theorem dX2_countRoads_15 : decode cX2_countRoads 15 = .ok (.invokevirtual 70, 3) := by decide +kernel
theorem dX2_countRoads_18 : decode cX2_countRoads 18 = .ok (.invokestatic 74, 3) := by decide +kernel
theorem dX2_countRoads_21 : decode cX2_countRoads 21 = .ok (.iadd, 1) := by decide +kernel
theorem dX2_countRoads_22 : decode cX2_countRoads 22 = .ok (.istore_n 1, 1) := by decide +kernel
theorem dX2_countRoads_23 : decode cX2_countRoads 23 = .ok (.iinc 2 1, 3) := by decide +kernel
theorem dX2_countRoads_26 : decode cX2_countRoads 26 = .ok (.goto (-22), 3) := by decide +kernel
theorem dX2_countRoads_29 : decode cX2_countRoads 29 = .ok (.iload_n 1, 1) := by decide +kernel
theorem dX2_countRoads_30 : decode cX2_countRoads 30 = .ok (.iconst 2, 1) := by decide +kernel
theorem dX2_countRoads_31 : decode cX2_countRoads 31 = .ok (.idiv, 1) := by decide +kernel
theorem dX2_countRoads_32 : decode cX2_countRoads 32 = .ok (.ireturn, 1) := by decide +kernel
theorem dX2_need_0 : decode cX2_need 0 = .ok (.aload_n 0, 1) := by decide +kernel
theorem dX2_need_1 : decode cX2_need 1 = .ok (.getfield 24, 3) := by decide +kernel
theorem dX2_need_4 : decode cX2_need 4 = .ok (.ifCond .eq 14, 3) := by decide +kernel
theorem dX2_need_7 : decode cX2_need 7 = .ok (.iconst 2, 1) := by decide +kernel
theorem dX2_need_8 : decode cX2_need 8 = .ok (.aload_n 0, 1) := by decide +kernel
theorem dX2_need_9 : decode cX2_need 9 = .ok (.getfield 21, 3) := by decide +kernel
theorem dX2_need_12 : decode cX2_need 12 = .ok (.imul, 1) := by decide +kernel
theorem dX2_need_13 : decode cX2_need 13 = .ok (.iconst 1, 1) := by decide +kernel
theorem dX2_need_14 : decode cX2_need 14 = .ok (.iadd, 1) := by decide +kernel
theorem dX2_need_15 : decode cX2_need 15 = .ok (.goto 9, 3) := by decide +kernel
theorem dX2_need_18 : decode cX2_need 18 = .ok (.aload_n 0, 1) := by decide +kernel
theorem dX2_need_19 : decode cX2_need 19 = .ok (.getfield 21, 3) := by decide +kernel
theorem dX2_need_22 : decode cX2_need 22 = .ok (.iconst 1, 1) := by decide +kernel
theorem dX2_need_23 : decode cX2_need 23 = .ok (.iadd, 1) := by decide +kernel
theorem dX2_need_24 : decode cX2_need 24 = .ok (.ireturn, 1) := by decide +kernel
theorem dX3_init_0 : decode cX3_init 0 = .ok (.aload_n 0, 1) := by decide +kernel
theorem dX3_init_1 : decode cX3_init 1 = .ok (.invokespecial 3, 3) := by decide +kernel
theorem dX3_init_4 : decode cX3_init 4 = .ok (.aload_n 0, 1) := by decide +kernel
theorem dX3_init_5 : decode cX3_init 5 = .ok (.bipush 60, 2) := by decide +kernel
theorem dX3_init_7 : decode cX3_init 7 = .ok (.anewarray 9, 3) := by decide +kernel
theorem dX3_init_10 : decode cX3_init 10 = .ok (.putfield 11, 3) := by decide +kernel
theorem dX3_init_13 : decode cX3_init 13 = .ok (.aload_n 0, 1) := by decide +kernel
theorem dX3_init_14 : decode cX3_init 14 = .ok (.iconst 0, 1) := by decide +kernel
theorem dX3_init_15 : decode cX3_init 15 = .ok (.putfield 17, 3) := by decide +kernel
theorem dX3_init_18 : decode cX3_init 18 = .ok (.aload_n 0, 1) := by decide +kernel
theorem dX3_init_19 : decode cX3_init 19 = .ok (.iconst 0, 1) := by decide +kernel
theorem dX3_init_20 : decode cX3_init 20 = .ok (.putfield 21, 3) := by decide +kernel
theorem dX3_init_23 : decode cX3_init 23 = .ok (.iconst 0, 1) := by decide +kernel
theorem dX3_init_24 : decode cX3_init 24 = .ok (.istore_n 1, 1) := by decide +kernel
theorem dX3_init_25 : decode cX3_init 25 = .ok (.iload_n 1, 1) := by decide +kernel
theorem dX3_init_26 : decode cX3_init 26 = .ok (.bipush 60, 2) := by decide +kernel
theorem dX3_init_28 : decode cX3_init 28 = .ok (.if_icmp .ge 22, 3) := by decide +kernel
theorem dX3_init_31 : decode cX3_init 31 = .ok (.aload_n 0, 1) := by decide +kernel
theorem dX3_init_32 : decode cX3_init 32 = .ok (.getfield 11, 3) := by decide +kernel
theorem dX3_init_35 : decode cX3_init 35 = .ok (.iload_n 1, 1) := by decide +kernel
theorem dX3_init_36 : decode cX3_init 36 = .ok (.new 9, 3) := by decide +kernel
theorem dX3_init_39 : decode cX3_init 39 = .ok (.dup, 1) := by decide +kernel
theorem dX3_init_40 : decode cX3_init 40 = .ok (.invokespecial 24, 3) := by decide +kernel
theorem dX3_init_43 : decode cX3_init 43 = .ok (.aastore, 1) := by decide +kernel
theorem dX3_init_44 : decode cX3_init 44 = .ok (.iinc 1 1, 3) := by decide +kernel
theorem dX3_init_47 : decode cX3_init 47 = .ok (.goto (-22), 3) := by decide +kernel
theorem dX3_init_50 : decode cX3_init 50 = .ok (.return_, 1) := by decide +kernel
theorem dX3_keep_0 : decode cX3_keep 0 = .ok (.aload_n 0, 1) := by decide +kernel
theorem dX3_keep_1 : decode cX3_keep 1 = .ok (.getfield 11, 3) := by decide +kernel
theorem dX3_keep_4 : decode cX3_keep 4 = .ok (.aload_n 0, 1) := by decide +kernel
theorem dX3_keep_5 : decode cX3_keep 5 = .ok (.getfield 17, 3) := by decide +kernel
theorem dX3_keep_8 : decode cX3_keep 8 = .ok (.aaload, 1) := by decide +kernel
theorem dX3_keep_9 : decode cX3_keep 9 = .ok (.aload_n 1, 1) := by decide +kernel
theorem dX3_keep_10 : decode cX3_keep 10 = .ok (.invokevirtual 25, 3) := by decide +kernel
theorem dX3_keep_13 : decode cX3_keep 13 = .ok (.aload_n 0, 1) := by decide +kernel
theorem dX3_keep_14 : decode cX3_keep 14 = .ok (.aload_n 0, 1) := by decide +kernel
theorem dX3_keep_15 : decode cX3_keep 15 = .ok (.getfield 17, 3) := by decide +kernel
theorem dX3_keep_18 : decode cX3_keep 18 = .ok (.iconst 1, 1) := by decide +kernel
theorem dX3_keep_19 : decode cX3_keep 19 = .ok (.iadd, 1) := by decide +kernel
theorem dX3_keep_20 : decode cX3_keep 20 = .ok (.bipush 60, 2) := by decide +kernel
theorem dX3_keep_22 : decode cX3_keep 22 = .ok (.irem, 1) := by decide +kernel
theorem dX3_keep_23 : decode cX3_keep 23 = .ok (.putfield 17, 3) := by decide +kernel
theorem dX3_keep_26 : decode cX3_keep 26 = .ok (.aload_n 0, 1) := by decide +kernel
theorem dX3_keep_27 : decode cX3_keep 27 = .ok (.aload_n 0, 1) := by decide +kernel
theorem dX3_keep_28 : decode cX3_keep 28 = .ok (.getfield 21, 3) := by decide +kernel
theorem dX3_keep_31 : decode cX3_keep 31 = .ok (.iconst 1, 1) := by decide +kernel
theorem dX3_keep_32 : decode cX3_keep 32 = .ok (.iadd, 1) := by decide +kernel
theorem dX3_keep_33 : decode cX3_keep 33 = .ok (.bipush 60, 2) := by decide +kernel
theorem dX3_keep_35 : decode cX3_keep 35 = .ok (.invokestatic 29, 3) := by decide +kernel
theorem dX3_keep_38 : decode cX3_keep 38 = .ok (.putfield 21, 3) := by decide +kernel
theorem dX3_keep_41 : decode cX3_keep 41 = .ok (.return_, 1) := by decide +kernel
theorem dX3_goBack_0 : decode cX3_goBack 0 = .ok (.aload_n 0, 1) := by decide +kernel
theorem dX3_goBack_1 : decode cX3_goBack 1 = .ok (.aload_n 0, 1) := by decide +kernel
theorem dX3_goBack_2 : decode cX3_goBack 2 = .ok (.getfield 17, 3) := by decide +kernel
theorem dX3_goBack_5 : decode cX3_goBack 5 = .ok (.iload_n 2, 1) := by decide +kernel
theorem dX3_goBack_6 : decode cX3_goBack 6 = .ok (.isub, 1) := by decide +kernel
theorem dX3_goBack_7 : decode cX3_goBack 7 = .ok (.bipush 60, 2) := by decide +kernel
theorem dX3_goBack_9 : decode cX3_goBack 9 = .ok (.invokestatic 35, 3) := by decide +kernel
theorem dX3_goBack_12 : decode cX3_goBack 12 = .ok (.putfield 17, 3) := by decide +kernel
theorem dX3_goBack_15 : decode cX3_goBack 15 = .ok (.aload_n 0, 1) := by decide +kernel
theorem dX3_goBack_16 : decode cX3_goBack 16 = .ok (.dup, 1) := by decide +kernel
theorem dX3_goBack_17 : decode cX3_goBack 17 = .ok (.getfield 21, 3) := by decide +kernel
theorem dX3_goBack_20 : decode cX3_goBack 20 = .ok (.iload_n 2, 1) := by decide +kernel
theorem dX3_goBack_21 : decode cX3_goBack 21 = .ok (.isub, 1) := by decide +kernel
theorem dX3_goBack_22 : decode cX3_goBack 22 = .ok (.putfield 21, 3) := by decide +kernel
theorem dX3_goBack_25 : decode cX3_goBack 25 = .ok (.aload_n 1, 1) := by decide +kernel
theorem dX3_goBack_26 : decode cX3_goBack 26 = .ok (.aload_n 0, 1) := by decide +kernel
theorem dX3_goBack_27 : decode cX3_goBack 27 = .ok (.getfield 11, 3) := by decide +kernel
theorem dX3_goBack_30 : decode cX3_goBack 30 = .ok (.aload_n 0, 1) := by decide +kernel
theorem dX3_goBack_31 : decode cX3_goBack 31 = .ok (.getfield 17, 3) := by decide +kernel
theorem dX3_goBack_34 : decode cX3_goBack 34 = .ok (.aaload, 1) := by decide +kernel
theorem dX3_goBack_35 : decode cX3_goBack 35 = .ok (.invokevirtual 25, 3) := by decide +kernel
theorem dX3_goBack_38 : decode cX3_goBack 38 = .ok (.return_, 1) := by decide +kernel
theorem dX4_init_0 : decode cX4_init 0 = .ok (.aload_n 0, 1) := by decide +kernel
theorem dX4_init_1 : decode cX4_init 1 = .ok (.invokespecial 3, 3) := by decide +kernel
theorem dX4_init_4 : decode cX4_init 4 = .ok (.aload_n 0, 1) := by decide +kernel
theorem dX4_init_5 : decode cX4_init 5 = .ok (.sipush 1024, 3) := by decide +kernel
theorem dX4_init_8 : decode cX4_init 8 = .ok (.newarray .int, 2) := by decide +kernel
theorem dX4_init_10 : decode cX4_init 10 = .ok (.putfield 11, 3) := by decide +kernel
theorem dX4_init_13 : decode cX4_init 13 = .ok (.aload_n 0, 1) := by decide +kernel
theorem dX4_init_14 : decode cX4_init 14 = .ok (.sipush 1024, 3) := by decide +kernel
theorem dX4_init_17 : decode cX4_init 17 = .ok (.newarray .int, 2) := by decide +kernel
theorem dX4_init_19 : decode cX4_init 19 = .ok (.putfield 15, 3) := by decide +kernel
theorem dX4_init_22 : decode cX4_init 22 = .ok (.return_, 1) := by decide +kernel
theorem dX4_fewestRounds_0 : decode cX4_fewestRounds 0 = .ok (.iconst 1, 1) := by decide +kernel
theorem dX4_fewestRounds_1 : decode cX4_fewestRounds 1 = .ok (.aload_n 2, 1) := by decide +kernel
theorem dX4_fewestRounds_2 : decode cX4_fewestRounds 2 = .ok (.getfield 18, 3) := by decide +kernel
theorem dX4_fewestRounds_5 : decode cX4_fewestRounds 5 = .ok (.ishl, 1) := by decide +kernel
theorem dX4_fewestRounds_6 : decode cX4_fewestRounds 6 = .ok (.sipush 1024, 3) := by decide +kernel
theorem dX4_fewestRounds_9 : decode cX4_fewestRounds 9 = .ok (.invokestatic 24, 3) := by decide +kernel
theorem dX4_fewestRounds_12 : decode cX4_fewestRounds 12 = .ok (.istore_n 3, 1) := by decide +kernel
theorem dX4_fewestRounds_13 : decode cX4_fewestRounds 13 = .ok (.iload_n 1, 1) := by decide +kernel
theorem dX4_fewestRounds_14 : decode cX4_fewestRounds 14 = .ok (.ifCond .lt 8, 3) := by decide +kernel
theorem dX4_fewestRounds_17 : decode cX4_fewestRounds 17 = .ok (.iload_n 1, 1) := by decide +kernel
theorem dX4_fewestRounds_18 : decode cX4_fewestRounds 18 = .ok (.iload_n 3, 1) := by decide +kernel
theorem dX4_fewestRounds_19 : decode cX4_fewestRounds 19 = .ok (.if_icmp .lt 5, 3) := by decide +kernel
theorem dX4_fewestRounds_22 : decode cX4_fewestRounds 22 = .ok (.iconst (-1), 1) := by decide +kernel
theorem dX4_fewestRounds_23 : decode cX4_fewestRounds 23 = .ok (.ireturn, 1) := by decide +kernel
theorem dX4_fewestRounds_24 : decode cX4_fewestRounds 24 = .ok (.aload_n 0, 1) := by decide +kernel
theorem dX4_fewestRounds_25 : decode cX4_fewestRounds 25 = .ok (.iload_n 3, 1) := by decide +kernel
theorem dX4_fewestRounds_26 : decode cX4_fewestRounds 26 = .ok (.aload_n 2, 1) := by decide +kernel
theorem dX4_fewestRounds_27 : decode cX4_fewestRounds 27 = .ok (.invokevirtual 30, 3) := by decide +kernel
theorem dX4_fewestRounds_30 : decode cX4_fewestRounds 30 = .ok (.iconst 1, 1) := by decide +kernel
theorem dX4_fewestRounds_31 : decode cX4_fewestRounds 31 = .ok (.istore 4, 2) := by decide +kernel
theorem dX4_fewestRounds_33 : decode cX4_fewestRounds 33 = .ok (.iload 4, 2) := by decide +kernel
theorem dX4_fewestRounds_35 : decode cX4_fewestRounds 35 = .ok (.iload_n 3, 1) := by decide +kernel
theorem dX4_fewestRounds_36 : decode cX4_fewestRounds 36 = .ok (.if_icmp .gt 34, 3) := by decide +kernel
theorem dX4_fewestRounds_39 : decode cX4_fewestRounds 39 = .ok (.aload_n 0, 1) := by decide +kernel
theorem dX4_fewestRounds_40 : decode cX4_fewestRounds 40 = .ok (.getfield 11, 3) := by decide +kernel
theorem dX4_fewestRounds_43 : decode cX4_fewestRounds 43 = .ok (.iload_n 1, 1) := by decide +kernel
theorem dX4_fewestRounds_44 : decode cX4_fewestRounds 44 = .ok (.iaload, 1) := by decide +kernel
theorem dX4_fewestRounds_45 : decode cX4_fewestRounds 45 = .ok (.bipush (-2), 2) := by decide +kernel
theorem dX4_fewestRounds_47 : decode cX4_fewestRounds 47 = .ok (.if_icmp .ne 23, 3) := by decide +kernel
theorem dX4_fewestRounds_50 : decode cX4_fewestRounds 50 = .ok (.aload_n 0, 1) := by decide +kernel
theorem dX4_fewestRounds_51 : decode cX4_fewestRounds 51 = .ok (.iload 4, 2) := by decide +kernel
theorem dX4_fewestRounds_53 : decode cX4_fewestRounds 53 = .ok (.iload_n 3, 1) := by decide +kernel
theorem dX4_fewestRounds_54 : decode cX4_fewestRounds 54 = .ok (.aload_n 2, 1) := by decide +kernel
theorem dX4_fewestRounds_55 : decode cX4_fewestRounds 55 = .ok (.invokevirtual 34, 3) := by decide +kernel
theorem dX4_fewestRounds_58 : decode cX4_fewestRounds 58 = .ok (.ifCond .ne 6, 3) := by decide +kernel
theorem dX4_fewestRounds_61 : decode cX4_fewestRounds 61 = .ok (.bipush (-2), 2) := by decide +kernel
theorem dX4_fewestRounds_63 : decode cX4_fewestRounds 63 = .ok (.ireturn, 1) := by decide +kernel
theorem dX4_fewestRounds_64 : decode cX4_fewestRounds 64 = .ok (.iinc 4 1, 3) := by decide +kernel
theorem dX4_fewestRounds_67 : decode cX4_fewestRounds 67 = .ok (.goto (-34), 3) := by decide +kernel
theorem dX4_fewestRounds_70 : decode cX4_fewestRounds 70 = .ok (.aload_n 0, 1) := by decide +kernel
theorem dX4_fewestRounds_71 : decode cX4_fewestRounds 71 = .ok (.getfield 11, 3) := by decide +kernel
theorem dX4_fewestRounds_74 : decode cX4_fewestRounds 74 = .ok (.iload_n 1, 1) := by decide +kernel
theorem dX4_fewestRounds_75 : decode cX4_fewestRounds 75 = .ok (.iaload, 1) := by decide +kernel
theorem dX4_fewestRounds_76 : decode cX4_fewestRounds 76 = .ok (.ireturn, 1) := by decide +kernel
theorem dX4_prepare_0 : decode cX4_prepare 0 = .ok (.aload_n 0, 1) := by decide +kernel
theorem dX4_prepare_1 : decode cX4_prepare 1 = .ok (.getfield 15, 3) := by decide +kernel
theorem dX4_prepare_4 : decode cX4_prepare 4 = .ok (.iconst 0, 1) := by decide +kernel
theorem dX4_prepare_5 : decode cX4_prepare 5 = .ok (.iconst 0, 1) := by decide +kernel
theorem dX4_prepare_6 : decode cX4_prepare 6 = .ok (.iastore, 1) := by decide +kernel
theorem dX4_prepare_7 : decode cX4_prepare 7 = .ok (.aload_n 0, 1) := by decide +kernel
theorem dX4_prepare_8 : decode cX4_prepare 8 = .ok (.getfield 11, 3) := by decide +kernel
theorem dX4_prepare_11 : decode cX4_prepare 11 = .ok (.iconst 0, 1) := by decide +kernel
theorem dX4_prepare_12 : decode cX4_prepare 12 = .ok (.iconst 0, 1) := by decide +kernel
theorem dX4_prepare_13 : decode cX4_prepare 13 = .ok (.iastore, 1) := by decide +kernel
theorem dX4_prepare_14 : decode cX4_prepare 14 = .ok (.iconst 1, 1) := by decide +kernel
theorem dX4_prepare_15 : decode cX4_prepare 15 = .ok (.istore_n 3, 1) := by decide +kernel
theorem dX4_prepare_16 : decode cX4_prepare 16 = .ok (.iload_n 3, 1) := by decide +kernel
theorem dX4_prepare_17 : decode cX4_prepare 17 = .ok (.iload_n 1, 1) := by decide +kernel
theorem dX4_prepare_18 : decode cX4_prepare 18 = .ok (.if_icmp .ge 65, 3) := by decide +kernel
theorem dX4_prepare_21 : decode cX4_prepare 21 = .ok (.iload_n 3, 1) := by decide +kernel
theorem dX4_prepare_22 : decode cX4_prepare 22 = .ok (.invokestatic 38, 3) := by decide +kernel
theorem dX4_prepare_25 : decode cX4_prepare 25 = .ok (.istore 4, 2) := by decide +kernel
theorem dX4_prepare_27 : decode cX4_prepare 27 = .ok (.iload_n 3, 1) := by decide +kernel
theorem dX4_prepare_28 : decode cX4_prepare 28 = .ok (.iload_n 3, 1) := by decide +kernel
theorem dX4_prepare_29 : decode cX4_prepare 29 = .ok (.iconst 1, 1) := by decide +kernel
theorem dX4_prepare_30 : decode cX4_prepare 30 = .ok (.isub, 1) := by decide +kernel
theorem dX4_prepare_31 : decode cX4_prepare 31 = .ok (.iand, 1) := by decide +kernel
theorem dX4_prepare_32 : decode cX4_prepare 32 = .ok (.istore 5, 2) := by decide +kernel
theorem dX4_prepare_34 : decode cX4_prepare 34 = .ok (.aload_n 0, 1) := by decide +kernel
theorem dX4_prepare_35 : decode cX4_prepare 35 = .ok (.getfield 15, 3) := by decide +kernel
theorem dX4_prepare_38 : decode cX4_prepare 38 = .ok (.iload_n 3, 1) := by decide +kernel
theorem dX4_prepare_39 : decode cX4_prepare 39 = .ok (.aload_n 0, 1) := by decide +kernel
theorem dX4_prepare_40 : decode cX4_prepare 40 = .ok (.getfield 15, 3) := by decide +kernel
theorem dX4_prepare_43 : decode cX4_prepare 43 = .ok (.iload 5, 2) := by decide +kernel
theorem dX4_prepare_45 : decode cX4_prepare 45 = .ok (.iaload, 1) := by decide +kernel
theorem dX4_prepare_46 : decode cX4_prepare 46 = .ok (.iconst 1, 1) := by decide +kernel
theorem dX4_prepare_47 : decode cX4_prepare 47 = .ok (.iload 4, 2) := by decide +kernel
theorem dX4_prepare_49 : decode cX4_prepare 49 = .ok (.ishl, 1) := by decide +kernel
theorem dX4_prepare_50 : decode cX4_prepare 50 = .ok (.ior, 1) := by decide +kernel
theorem dX4_prepare_51 : decode cX4_prepare 51 = .ok (.aload_n 2, 1) := by decide +kernel
theorem dX4_prepare_52 : decode cX4_prepare 52 = .ok (.getfield 44, 3) := by decide +kernel
theorem dX4_prepare_55 : decode cX4_prepare 55 = .ok (.iload 4, 2) := by decide +kernel
theorem dX4_prepare_57 : decode cX4_prepare 57 = .ok (.iaload, 1) := by decide +kernel
theorem dX4_prepare_58 : decode cX4_prepare 58 = .ok (.ior, 1) := by decide +kernel
theorem dX4_prepare_59 : decode cX4_prepare 59 = .ok (.iastore, 1) := by decide +kernel
theorem dX4_prepare_60 : decode cX4_prepare 60 = .ok (.aload_n 0, 1) := by decide +kernel
theorem dX4_prepare_61 : decode cX4_prepare 61 = .ok (.getfield 11, 3) := by decide +kernel
theorem dX4_prepare_64 : decode cX4_prepare 64 = .ok (.iload_n 3, 1) := by decide +kernel
theorem dX4_prepare_65 : decode cX4_prepare 65 = .ok (.iload 5, 2) := by decide +kernel
theorem dX4_prepare_67 : decode cX4_prepare 67 = .ok (.ifCond .ne 7, 3) := by decide +kernel
theorem dX4_prepare_70 : decode cX4_prepare 70 = .ok (.iconst 0, 1) := by decide +kernel
theorem dX4_prepare_71 : decode cX4_prepare 71 = .ok (.goto 5, 3) := by decide +kernel
theorem dX4_prepare_74 : decode cX4_prepare 74 = .ok (.bipush (-2), 2) := by decide +kernel
theorem dX4_prepare_76 : decode cX4_prepare 76 = .ok (.iastore, 1) := by decide +kernel
theorem dX4_prepare_77 : decode cX4_prepare 77 = .ok (.iinc 3 1, 3) := by decide +kernel
theorem dX4_prepare_80 : decode cX4_prepare 80 = .ok (.goto (-64), 3) := by decide +kernel
theorem dX4_prepare_83 : decode cX4_prepare 83 = .ok (.return_, 1) := by decide +kernel
theorem dX4_findInRound_0 : decode cX4_findInRound 0 = .ok (.iconst 0, 1) := by decide +kernel
theorem dX4_findInRound_1 : decode cX4_findInRound 1 = .ok (.istore 4, 2) := by decide +kernel
theorem dX4_findInRound_3 : decode cX4_findInRound 3 = .ok (.iconst 0, 1) := by decide +kernel
theorem dX4_findInRound_4 : decode cX4_findInRound 4 = .ok (.istore 5, 2) := by decide +kernel
theorem dX4_findInRound_6 : decode cX4_findInRound 6 = .ok (.iload 5, 2) := by decide +kernel
theorem dX4_findInRound_8 : decode cX4_findInRound 8 = .ok (.iload_n 2, 1) := by decide +kernel
theorem dX4_findInRound_9 : decode cX4_findInRound 9 = .ok (.if_icmp .ge 43, 3) := by decide +kernel
theorem dX4_findInRound_12 : decode cX4_findInRound 12 = .ok (.aload_n 0, 1) := by decide +kernel
theorem dX4_findInRound_13 : decode cX4_findInRound 13 = .ok (.getfield 11, 3) := by decide +kernel
theorem dX4_findInRound_16 : decode cX4_findInRound 16 = .ok (.iload 5, 2) := by decide +kernel
theorem dX4_findInRound_18 : decode cX4_findInRound 18 = .ok (.iaload, 1) := by decide +kernel
theorem dX4_findInRound_19 : decode cX4_findInRound 19 = .ok (.bipush (-2), 2) := by decide +kernel
theorem dX4_findInRound_21 : decode cX4_findInRound 21 = .ok (.if_icmp .ne 25, 3) := by decide +kernel
theorem dX4_findInRound_24 : decode cX4_findInRound 24 = .ok (.aload_n 0, 1) := by decide +kernel
theorem dX4_findInRound_25 : decode cX4_findInRound 25 = .ok (.iload 5, 2) := by decide +kernel
theorem dX4_findInRound_27 : decode cX4_findInRound 27 = .ok (.iload_n 1, 1) := by decide +kernel
theorem dX4_findInRound_28 : decode cX4_findInRound 28 = .ok (.aload_n 3, 1) := by decide +kernel
theorem dX4_findInRound_29 : decode cX4_findInRound 29 = .ok (.invokevirtual 47, 3) := by decide +kernel
theorem dX4_findInRound_32 : decode cX4_findInRound 32 = .ok (.ifCond .eq 14, 3) := by decide +kernel
theorem dX4_findInRound_35 : decode cX4_findInRound 35 = .ok (.aload_n 0, 1) := by decide +kernel
theorem dX4_findInRound_36 : decode cX4_findInRound 36 = .ok (.getfield 11, 3) := by decide +kernel
theorem dX4_findInRound_39 : decode cX4_findInRound 39 = .ok (.iload 5, 2) := by decide +kernel
theorem dX4_findInRound_41 : decode cX4_findInRound 41 = .ok (.iload_n 1, 1) := by decide +kernel
theorem dX4_findInRound_42 : decode cX4_findInRound 42 = .ok (.iastore, 1) := by decide +kernel
theorem dX4_findInRound_43 : decode cX4_findInRound 43 = .ok (.iconst 1, 1) := by decide +kernel
theorem dX4_findInRound_44 : decode cX4_findInRound 44 = .ok (.istore 4, 2) := by decide +kernel
theorem dX4_findInRound_46 : decode cX4_findInRound 46 = .ok (.iinc 5 1, 3) := by decide +kernel
theorem dX4_findInRound_49 : decode cX4_findInRound 49 = .ok (.goto (-43), 3) := by decide +kernel
theorem dX4_findInRound_52 : decode cX4_findInRound 52 = .ok (.iload 4, 2) := by decide +kernel
theorem dX4_findInRound_54 : decode cX4_findInRound 54 = .ok (.ireturn, 1) := by decide +kernel
theorem dX4_someMarkFinds_0 : decode cX4_someMarkFinds 0 = .ok (.iconst 0, 1) := by decide +kernel
theorem dX4_someMarkFinds_1 : decode cX4_someMarkFinds 1 = .ok (.istore 4, 2) := by decide +kernel
theorem dX4_someMarkFinds_3 : decode cX4_someMarkFinds 3 = .ok (.iload 4, 2) := by decide +kernel
theorem dX4_someMarkFinds_5 : decode cX4_someMarkFinds 5 = .ok (.aload_n 3, 1) := by decide +kernel
theorem dX4_someMarkFinds_6 : decode cX4_someMarkFinds 6 = .ok (.getfield 18, 3) := by decide +kernel
theorem dX4_someMarkFinds_9 : decode cX4_someMarkFinds 9 = .ok (.if_icmp .ge 23, 3) := by decide +kernel
theorem dX4_someMarkFinds_12 : decode cX4_someMarkFinds 12 = .ok (.aload_n 0, 1) := by decide +kernel
theorem dX4_someMarkFinds_13 : decode cX4_someMarkFinds 13 = .ok (.iload 4, 2) := by decide +kernel
theorem dX4_someMarkFinds_15 : decode cX4_someMarkFinds 15 = .ok (.iload_n 1, 1) := by decide +kernel
theorem dX4_someMarkFinds_16 : decode cX4_someMarkFinds 16 = .ok (.iload_n 2, 1) := by decide +kernel
theorem dX4_someMarkFinds_17 : decode cX4_someMarkFinds 17 = .ok (.aload_n 3, 1) := by decide +kernel
theorem dX4_someMarkFinds_18 : decode cX4_someMarkFinds 18 = .ok (.invokevirtual 50, 3) := by decide +kernel
theorem dX4_someMarkFinds_21 : decode cX4_someMarkFinds 21 = .ok (.ifCond .eq 5, 3) := by decide +kernel
theorem dX4_someMarkFinds_24 : decode cX4_someMarkFinds 24 = .ok (.iconst 1, 1) := by decide +kernel
theorem dX4_someMarkFinds_25 : decode cX4_someMarkFinds 25 = .ok (.ireturn, 1) := by decide +kernel
theorem dX4_someMarkFinds_26 : decode cX4_someMarkFinds 26 = .ok (.iinc 4 1, 3) := by decide +kernel
theorem dX4_someMarkFinds_29 : decode cX4_someMarkFinds 29 = .ok (.goto (-26), 3) := by decide +kernel
theorem dX4_someMarkFinds_32 : decode cX4_someMarkFinds 32 = .ok (.iconst 0, 1) := by decide +kernel
theorem dX4_someMarkFinds_33 : decode cX4_someMarkFinds 33 = .ok (.ireturn, 1) := by decide +kernel
theorem dX4_markFinds_0 : decode cX4_markFinds 0 = .ok (.iconst 0, 1) := by decide +kernel
theorem dX4_markFinds_1 : decode cX4_markFinds 1 = .ok (.istore 5, 2) := by decide +kernel
theorem dX4_markFinds_3 : decode cX4_markFinds 3 = .ok (.iload 5, 2) := by decide +kernel
theorem dX4_markFinds_5 : decode cX4_markFinds 5 = .ok (.aload 4, 2) := by decide +kernel
theorem dX4_markFinds_7 : decode cX4_markFinds 7 = .ok (.getfield 54, 3) := by decide +kernel
theorem dX4_markFinds_10 : decode cX4_markFinds 10 = .ok (.iload_n 1, 1) := by decide +kernel
theorem dX4_markFinds_11 : decode cX4_markFinds 11 = .ok (.iaload, 1) := by decide +kernel
theorem dX4_markFinds_12 : decode cX4_markFinds 12 = .ok (.if_icmp .ge 65, 3) := by decide +kernel
theorem dX4_markFinds_15 : decode cX4_markFinds 15 = .ok (.iload_n 2, 1) := by decide +kernel
theorem dX4_markFinds_16 : decode cX4_markFinds 16 = .ok (.aload 4, 2) := by decide +kernel
theorem dX4_markFinds_18 : decode cX4_markFinds 18 = .ok (.getfield 57, 3) := by decide +kernel
theorem dX4_markFinds_21 : decode cX4_markFinds 21 = .ok (.bipush 16, 2) := by decide +kernel
theorem dX4_markFinds_23 : decode cX4_markFinds 23 = .ok (.iload_n 1, 1) := by decide +kernel
theorem dX4_markFinds_24 : decode cX4_markFinds 24 = .ok (.imul, 1) := by decide +kernel
theorem dX4_markFinds_25 : decode cX4_markFinds 25 = .ok (.iload 5, 2) := by decide +kernel
theorem dX4_markFinds_27 : decode cX4_markFinds 27 = .ok (.iadd, 1) := by decide +kernel
theorem dX4_markFinds_28 : decode cX4_markFinds 28 = .ok (.iaload, 1) := by decide +kernel
theorem dX4_markFinds_29 : decode cX4_markFinds 29 = .ok (.iand, 1) := by decide +kernel
theorem dX4_markFinds_30 : decode cX4_markFinds 30 = .ok (.istore 6, 2) := by decide +kernel
theorem dX4_markFinds_32 : decode cX4_markFinds 32 = .ok (.iload 6, 2) := by decide +kernel
theorem dX4_markFinds_34 : decode cX4_markFinds 34 = .ok (.iload 6, 2) := by decide +kernel
theorem dX4_markFinds_36 : decode cX4_markFinds 36 = .ok (.iconst 1, 1) := by decide +kernel
theorem dX4_markFinds_37 : decode cX4_markFinds 37 = .ok (.isub, 1) := by decide +kernel
theorem dX4_markFinds_38 : decode cX4_markFinds 38 = .ok (.iand, 1) := by decide +kernel
theorem dX4_markFinds_39 : decode cX4_markFinds 39 = .ok (.ifCond .eq 32, 3) := by decide +kernel
theorem dX4_markFinds_42 : decode cX4_markFinds 42 = .ok (.aload_n 0, 1) := by decide +kernel
theorem dX4_markFinds_43 : decode cX4_markFinds 43 = .ok (.getfield 11, 3) := by decide +kernel
theorem dX4_markFinds_46 : decode cX4_markFinds 46 = .ok (.aload_n 0, 1) := by decide +kernel
theorem dX4_markFinds_47 : decode cX4_markFinds 47 = .ok (.getfield 15, 3) := by decide +kernel
theorem dX4_markFinds_50 : decode cX4_markFinds 50 = .ok (.iload 6, 2) := by decide +kernel
theorem dX4_markFinds_52 : decode cX4_markFinds 52 = .ok (.iaload, 1) := by decide +kernel
theorem dX4_markFinds_53 : decode cX4_markFinds 53 = .ok (.iaload, 1) := by decide +kernel
theorem dX4_markFinds_54 : decode cX4_markFinds 54 = .ok (.istore 7, 2) := by decide +kernel
theorem dX4_markFinds_56 : decode cX4_markFinds 56 = .ok (.iload 7, 2) := by decide +kernel
theorem dX4_markFinds_58 : decode cX4_markFinds 58 = .ok (.bipush (-2), 2) := by decide +kernel
theorem dX4_markFinds_60 : decode cX4_markFinds 60 = .ok (.if_icmp .eq 9, 3) := by decide +kernel
theorem dX4_markFinds_63 : decode cX4_markFinds 63 = .ok (.iload 7, 2) := by decide +kernel
theorem dX4_markFinds_65 : decode cX4_markFinds 65 = .ok (.iload_n 3, 1) := by decide +kernel
theorem dX4_markFinds_66 : decode cX4_markFinds 66 = .ok (.if_icmp .lt 5, 3) := by decide +kernel
theorem dX4_markFinds_69 : decode cX4_markFinds 69 = .ok (.iconst 0, 1) := by decide +kernel
theorem dX4_markFinds_70 : decode cX4_markFinds 70 = .ok (.ireturn, 1) := by decide +kernel
theorem dX4_markFinds_71 : decode cX4_markFinds 71 = .ok (.iinc 5 1, 3) := by decide +kernel
theorem dX4_markFinds_74 : decode cX4_markFinds 74 = .ok (.goto (-71), 3) := by decide +kernel
theorem dX4_markFinds_77 : decode cX4_markFinds 77 = .ok (.iconst 1, 1) := by decide +kernel
theorem dX4_markFinds_78 : decode cX4_markFinds 78 = .ok (.ireturn, 1) := by decide +kernel
theorem dX6_init_0 : decode cX6_init 0 = .ok (.aload_n 0, 1) := by decide +kernel
theorem dX6_init_1 : decode cX6_init 1 = .ok (.invokespecial 3, 3) := by decide +kernel
theorem dX6_init_4 : decode cX6_init 4 = .ok (.aload_n 0, 1) := by decide +kernel
theorem dX6_init_5 : decode cX6_init 5 = .ok (.sipush 400, 3) := by decide +kernel
theorem dX6_init_8 : decode cX6_init 8 = .ok (.newarray .int, 2) := by decide +kernel
theorem dX6_init_10 : decode cX6_init 10 = .ok (.putfield 9, 3) := by decide +kernel
theorem dX6_init_13 : decode cX6_init 13 = .ok (.aload_n 0, 1) := by decide +kernel
theorem dX6_init_14 : decode cX6_init 14 = .ok (.iconst 0, 1) := by decide +kernel
theorem dX6_init_15 : decode cX6_init 15 = .ok (.putfield 15, 3) := by decide +kernel
theorem dX6_init_18 : decode cX6_init 18 = .ok (.return_, 1) := by decide +kernel
theorem dX6_hasRoomFor_0 : decode cX6_hasRoomFor 0 = .ok (.aload_n 0, 1) := by decide +kernel
theorem dX6_hasRoomFor_1 : decode cX6_hasRoomFor 1 = .ok (.getfield 15, 3) := by decide +kernel
theorem dX6_hasRoomFor_4 : decode cX6_hasRoomFor 4 = .ok (.iload_n 1, 1) := by decide +kernel
theorem dX6_hasRoomFor_5 : decode cX6_hasRoomFor 5 = .ok (.iadd, 1) := by decide +kernel
theorem dX6_hasRoomFor_6 : decode cX6_hasRoomFor 6 = .ok (.sipush 400, 3) := by decide +kernel
theorem dX6_hasRoomFor_9 : decode cX6_hasRoomFor 9 = .ok (.if_icmp .gt 7, 3) := by decide +kernel
theorem dX6_hasRoomFor_12 : decode cX6_hasRoomFor 12 = .ok (.iconst 1, 1) := by decide +kernel
theorem dX6_hasRoomFor_13 : decode cX6_hasRoomFor 13 = .ok (.goto 4, 3) := by decide +kernel
theorem dX6_hasRoomFor_16 : decode cX6_hasRoomFor 16 = .ok (.iconst 0, 1) := by decide +kernel
theorem dX6_hasRoomFor_17 : decode cX6_hasRoomFor 17 = .ok (.ireturn, 1) := by decide +kernel
theorem dX6_takeFour_0 : decode cX6_takeFour 0 = .ok (.bipush 24, 2) := by decide +kernel
theorem dX6_takeFour_2 : decode cX6_takeFour 2 = .ok (.istore_n 2, 1) := by decide +kernel
theorem dX6_takeFour_3 : decode cX6_takeFour 3 = .ok (.iload_n 2, 1) := by decide +kernel
theorem dX6_takeFour_4 : decode cX6_takeFour 4 = .ok (.ifCond .lt 45, 3) := by decide +kernel
theorem dX6_takeFour_7 : decode cX6_takeFour 7 = .ok (.aload_n 0, 1) := by decide +kernel
theorem dX6_takeFour_8 : decode cX6_takeFour 8 = .ok (.getfield 15, 3) := by decide +kernel
theorem dX6_takeFour_11 : decode cX6_takeFour 11 = .ok (.sipush 400, 3) := by decide +kernel
theorem dX6_takeFour_14 : decode cX6_takeFour 14 = .ok (.if_icmp .ge 35, 3) := by decide +kernel
theorem dX6_takeFour_17 : decode cX6_takeFour 17 = .ok (.aload_n 0, 1) := by decide +kernel
theorem dX6_takeFour_18 : decode cX6_takeFour 18 = .ok (.getfield 9, 3) := by decide +kernel
theorem dX6_takeFour_21 : decode cX6_takeFour 21 = .ok (.aload_n 0, 1) := by decide +kernel
theorem dX6_takeFour_22 : decode cX6_takeFour 22 = .ok (.getfield 15, 3) := by decide +kernel
theorem dX6_takeFour_25 : decode cX6_takeFour 25 = .ok (.iload_n 1, 1) := by decide +kernel
theorem dX6_takeFour_26 : decode cX6_takeFour 26 = .ok (.iload_n 2, 1) := by decide +kernel
theorem dX6_takeFour_27 : decode cX6_takeFour 27 = .ok (.iushr, 1) := by decide +kernel
theorem dX6_takeFour_28 : decode cX6_takeFour 28 = .ok (.sipush 255, 3) := by decide +kernel
theorem dX6_takeFour_31 : decode cX6_takeFour 31 = .ok (.iand, 1) := by decide +kernel
theorem dX6_takeFour_32 : decode cX6_takeFour 32 = .ok (.iastore, 1) := by decide +kernel
theorem dX6_takeFour_33 : decode cX6_takeFour 33 = .ok (.aload_n 0, 1) := by decide +kernel
theorem dX6_takeFour_34 : decode cX6_takeFour 34 = .ok (.dup, 1) := by decide +kernel
theorem dX6_takeFour_35 : decode cX6_takeFour 35 = .ok (.getfield 15, 3) := by decide +kernel
theorem dX6_takeFour_38 : decode cX6_takeFour 38 = .ok (.iconst 1, 1) := by decide +kernel
theorem dX6_takeFour_39 : decode cX6_takeFour 39 = .ok (.iadd, 1) := by decide +kernel
theorem dX6_takeFour_40 : decode cX6_takeFour 40 = .ok (.putfield 15, 3) := by decide +kernel
theorem dX6_takeFour_43 : decode cX6_takeFour 43 = .ok (.iinc 2 (-8), 3) := by decide +kernel
theorem dX6_takeFour_46 : decode cX6_takeFour 46 = .ok (.goto (-43), 3) := by decide +kernel
theorem dX6_takeFour_49 : decode cX6_takeFour 49 = .ok (.return_, 1) := by decide +kernel
theorem dX6_byteAt_0 : decode cX6_byteAt 0 = .ok (.iload_n 1, 1) := by decide +kernel
theorem dX6_byteAt_1 : decode cX6_byteAt 1 = .ok (.ifCond .lt 20, 3) := by decide +kernel
theorem dX6_byteAt_4 : decode cX6_byteAt 4 = .ok (.iload_n 1, 1) := by decide +kernel
theorem dX6_byteAt_5 : decode cX6_byteAt 5 = .ok (.aload_n 0, 1) := by decide +kernel
theorem dX6_byteAt_6 : decode cX6_byteAt 6 = .ok (.getfield 15, 3) := by decide +kernel
theorem dX6_byteAt_9 : decode cX6_byteAt 9 = .ok (.if_icmp .ge 12, 3) := by decide +kernel
theorem dX6_byteAt_12 : decode cX6_byteAt 12 = .ok (.aload_n 0, 1) := by decide +kernel
theorem dX6_byteAt_13 : decode cX6_byteAt 13 = .ok (.getfield 9, 3) := by decide +kernel
theorem dX6_byteAt_16 : decode cX6_byteAt 16 = .ok (.iload_n 1, 1) := by decide +kernel
theorem dX6_byteAt_17 : decode cX6_byteAt 17 = .ok (.iaload, 1) := by decide +kernel
theorem dX6_byteAt_18 : decode cX6_byteAt 18 = .ok (.goto 4, 3) := by decide +kernel
theorem dX6_byteAt_21 : decode cX6_byteAt 21 = .ok (.iconst 0, 1) := by decide +kernel
theorem dX6_byteAt_22 : decode cX6_byteAt 22 = .ok (.ireturn, 1) := by decide +kernel
end
section
theorem dX5_init_0 : decode cX5_init 0 = .ok (.aload_n 0, 1) := by decide +kernel
theorem dX5_init_1 : decode cX5_init 1 = .ok (.invokespecial 3, 3) := by decide +kernel
theorem dX5_init_4 : decode cX5_init 4 = .ok (.aload_n 0, 1) := by decide +kernel
theorem dX5_init_5 : decode cX5_init 5 = .ok (.iconst 0, 1) := by decide +kernel
theorem dX5_init_6 : decode cX5_init 6 = .ok (.putfield 9, 3) := by decide +kernel
theorem dX5_init_9 : decode cX5_init 9 = .ok (.aload_n 0, 1) := by decide +kernel
theorem dX5_init_10 : decode cX5_init 10 = .ok (.bipush 16, 2) := by decide +kernel
theorem dX5_init_12 : decode cX5_init 12 = .ok (.newarray .int, 2) := by decide +kernel
theorem dX5_init_14 : decode cX5_init 14 = .ok (.putfield 15, 3) := by decide +kernel
theorem dX5_init_17 : decode cX5_init 17 = .ok (.aload_n 0, 1) := by decide +kernel
theorem dX5_init_18 : decode cX5_init 18 = .ok (.sipush 256, 3) := by decide +kernel
theorem dX5_init_21 : decode cX5_init 21 = .ok (.newarray .int, 2) := by decide +kernel
theorem dX5_init_23 : decode cX5_init 23 = .ok (.putfield 19, 3) := by decide +kernel
theorem dX5_init_26 : decode cX5_init 26 = .ok (.aload_n 0, 1) := by decide +kernel
theorem dX5_init_27 : decode cX5_init 27 = .ok (.sipush 256, 3) := by decide +kernel
theorem dX5_init_30 : decode cX5_init 30 = .ok (.newarray .int, 2) := by decide +kernel
theorem dX5_init_32 : decode cX5_init 32 = .ok (.putfield 22, 3) := by decide +kernel
theorem dX5_init_35 : decode cX5_init 35 = .ok (.aload_n 0, 1) := by decide +kernel
theorem dX5_init_36 : decode cX5_init 36 = .ok (.sipush 256, 3) := by decide +kernel
theorem dX5_init_39 : decode cX5_init 39 = .ok (.newarray .int, 2) := by decide +kernel
theorem dX5_init_41 : decode cX5_init 41 = .ok (.putfield 25, 3) := by decide +kernel
theorem dX5_init_44 : decode cX5_init 44 = .ok (.aload_n 0, 1) := by decide +kernel
theorem dX5_init_45 : decode cX5_init 45 = .ok (.bipush 16, 2) := by decide +kernel
theorem dX5_init_47 : decode cX5_init 47 = .ok (.newarray .int, 2) := by decide +kernel
theorem dX5_init_49 : decode cX5_init 49 = .ok (.putfield 28, 3) := by decide +kernel
theorem dX5_init_52 : decode cX5_init 52 = .ok (.aload_n 0, 1) := by decide +kernel
theorem dX5_init_53 : decode cX5_init 53 = .ok (.sipush 256, 3) := by decide +kernel
theorem dX5_init_56 : decode cX5_init 56 = .ok (.newarray .int, 2) := by decide +kernel
theorem dX5_init_58 : decode cX5_init 58 = .ok (.putfield 31, 3) := by decide +kernel
theorem dX5_init_61 : decode cX5_init 61 = .ok (.aload_n 0, 1) := by decide +kernel
theorem dX5_init_62 : decode cX5_init 62 = .ok (.bipush 16, 2) := by decide +kernel
theorem dX5_init_64 : decode cX5_init 64 = .ok (.newarray .int, 2) := by decide +kernel
theorem dX5_init_66 : decode cX5_init 66 = .ok (.putfield 34, 3) := by decide +kernel
theorem dX5_init_69 : decode cX5_init 69 = .ok (.return_, 1) := by decide +kernel
theorem dX5_look_0 : decode cX5_look 0 = .ok (.aload_n 0, 1) := by decide +kernel
theorem dX5_look_1 : decode cX5_look 1 = .ok (.aload_n 1, 1) := by decide +kernel
theorem dX5_look_2 : decode cX5_look 2 = .ok (.getfield 37, 3) := by decide +kernel
theorem dX5_look_5 : decode cX5_look 5 = .ok (.putfield 9, 3) := by decide +kernel
theorem dX5_look_8 : decode cX5_look 8 = .ok (.iconst 0, 1) := by decide +kernel
theorem dX5_look_9 : decode cX5_look 9 = .ok (.istore_n 2, 1) := by decide +kernel
theorem dX5_look_10 : decode cX5_look 10 = .ok (.iload_n 2, 1) := by decide +kernel
theorem dX5_look_11 : decode cX5_look 11 = .ok (.aload_n 0, 1) := by decide +kernel
theorem dX5_look_12 : decode cX5_look 12 = .ok (.getfield 9, 3) := by decide +kernel
theorem dX5_look_15 : decode cX5_look 15 = .ok (.if_icmp .ge 20, 3) := by decide +kernel
theorem dX5_look_18 : decode cX5_look 18 = .ok (.aload_n 0, 1) := by decide +kernel
theorem dX5_look_19 : decode cX5_look 19 = .ok (.getfield 15, 3) := by decide +kernel
theorem dX5_look_22 : decode cX5_look 22 = .ok (.iload_n 2, 1) := by decide +kernel
theorem dX5_look_23 : decode cX5_look 23 = .ok (.aload_n 1, 1) := by decide +kernel
theorem dX5_look_24 : decode cX5_look 24 = .ok (.iload_n 2, 1) := by decide +kernel
theorem dX5_look_25 : decode cX5_look 25 = .ok (.invokevirtual 40, 3) := by decide +kernel
theorem dX5_look_28 : decode cX5_look 28 = .ok (.iastore, 1) := by decide +kernel
theorem dX5_look_29 : decode cX5_look 29 = .ok (.iinc 2 1, 3) := by decide +kernel
theorem dX5_look_32 : decode cX5_look 32 = .ok (.goto (-22), 3) := by decide +kernel
theorem dX5_look_35 : decode cX5_look 35 = .ok (.aload_n 0, 1) := by decide +kernel
theorem dX5_look_36 : decode cX5_look 36 = .ok (.aload_n 1, 1) := by decide +kernel
theorem dX5_look_37 : decode cX5_look 37 = .ok (.invokevirtual 44, 3) := by decide +kernel
theorem dX5_look_40 : decode cX5_look 40 = .ok (.iconst 0, 1) := by decide +kernel
theorem dX5_look_41 : decode cX5_look 41 = .ok (.istore_n 2, 1) := by decide +kernel
theorem dX5_look_42 : decode cX5_look 42 = .ok (.iload_n 2, 1) := by decide +kernel
theorem dX5_look_43 : decode cX5_look 43 = .ok (.aload_n 0, 1) := by decide +kernel
theorem dX5_look_44 : decode cX5_look 44 = .ok (.getfield 9, 3) := by decide +kernel
theorem dX5_look_47 : decode cX5_look 47 = .ok (.if_icmp .ge 48, 3) := by decide +kernel
theorem dX5_look_50 : decode cX5_look 50 = .ok (.iconst 0, 1) := by decide +kernel
theorem dX5_look_51 : decode cX5_look 51 = .ok (.istore_n 3, 1) := by decide +kernel
theorem dX5_look_52 : decode cX5_look 52 = .ok (.iload_n 3, 1) := by decide +kernel
theorem dX5_look_53 : decode cX5_look 53 = .ok (.aload_n 0, 1) := by decide +kernel
theorem dX5_look_54 : decode cX5_look 54 = .ok (.getfield 9, 3) := by decide +kernel
theorem dX5_look_57 : decode cX5_look 57 = .ok (.if_icmp .ge 27, 3) := by decide +kernel
theorem dX5_look_60 : decode cX5_look 60 = .ok (.aload_n 0, 1) := by decide +kernel
theorem dX5_look_61 : decode cX5_look 61 = .ok (.getfield 22, 3) := by decide +kernel
theorem dX5_look_64 : decode cX5_look 64 = .ok (.bipush 16, 2) := by decide +kernel
theorem dX5_look_66 : decode cX5_look 66 = .ok (.iload_n 2, 1) := by decide +kernel
theorem dX5_look_67 : decode cX5_look 67 = .ok (.imul, 1) := by decide +kernel
theorem dX5_look_68 : decode cX5_look 68 = .ok (.iload_n 3, 1) := by decide +kernel
theorem dX5_look_69 : decode cX5_look 69 = .ok (.iadd, 1) := by decide +kernel
theorem dX5_look_70 : decode cX5_look 70 = .ok (.aload_n 0, 1) := by decide +kernel
theorem dX5_look_71 : decode cX5_look 71 = .ok (.aload_n 1, 1) := by decide +kernel
theorem dX5_look_72 : decode cX5_look 72 = .ok (.iload_n 2, 1) := by decide +kernel
theorem dX5_look_73 : decode cX5_look 73 = .ok (.iload_n 3, 1) := by decide +kernel
theorem dX5_look_74 : decode cX5_look 74 = .ok (.invokevirtual 48, 3) := by decide +kernel
theorem dX5_look_77 : decode cX5_look 77 = .ok (.iastore, 1) := by decide +kernel
theorem dX5_look_78 : decode cX5_look 78 = .ok (.iinc 3 1, 3) := by decide +kernel
theorem dX5_look_81 : decode cX5_look 81 = .ok (.goto (-29), 3) := by decide +kernel
theorem dX5_look_84 : decode cX5_look 84 = .ok (.aload_n 0, 1) := by decide +kernel
theorem dX5_look_85 : decode cX5_look 85 = .ok (.iload_n 2, 1) := by decide +kernel
theorem dX5_look_86 : decode cX5_look 86 = .ok (.invokevirtual 52, 3) := by decide +kernel
theorem dX5_look_89 : decode cX5_look 89 = .ok (.iinc 2 1, 3) := by decide +kernel
theorem dX5_look_92 : decode cX5_look 92 = .ok (.goto (-50), 3) := by decide +kernel
theorem dX5_look_95 : decode cX5_look 95 = .ok (.aload_n 0, 1) := by decide +kernel
theorem dX5_look_96 : decode cX5_look 96 = .ok (.invokevirtual 56, 3) := by decide +kernel
theorem dX5_look_99 : decode cX5_look 99 = .ok (.aload_n 0, 1) := by decide +kernel
theorem dX5_look_100 : decode cX5_look 100 = .ok (.aload_n 1, 1) := by decide +kernel
theorem dX5_look_101 : decode cX5_look 101 = .ok (.getfield 59, 3) := by decide +kernel
theorem dX5_look_104 : decode cX5_look 104 = .ok (.ifCond .ne 8, 3) := by decide +kernel
theorem dX5_look_107 : decode cX5_look 107 = .ok (.ldc 62, 2) := by decide +kernel
theorem dX5_look_109 : decode cX5_look 109 = .ok (.goto 4, 3) := by decide +kernel
theorem dX5_look_112 : decode cX5_look 112 = .ok (.iconst 0, 1) := by decide +kernel
theorem dX5_look_113 : decode cX5_look 113 = .ok (.invokevirtual 63, 3) := by decide +kernel
theorem dX5_look_116 : decode cX5_look 116 = .ok (.return_, 1) := by decide +kernel
theorem dX5_findWays_0 : decode cX5_findWays 0 = .ok (.iconst 0, 1) := by decide +kernel
theorem dX5_findWays_1 : decode cX5_findWays 1 = .ok (.istore_n 2, 1) := by decide +kernel
theorem dX5_findWays_2 : decode cX5_findWays 2 = .ok (.iload_n 2, 1) := by decide +kernel
theorem dX5_findWays_3 : decode cX5_findWays 3 = .ok (.aload_n 0, 1) := by decide +kernel
theorem dX5_findWays_4 : decode cX5_findWays 4 = .ok (.getfield 9, 3) := by decide +kernel
theorem dX5_findWays_7 : decode cX5_findWays 7 = .ok (.if_icmp .ge 74, 3) := by decide +kernel
theorem dX5_findWays_10 : decode cX5_findWays 10 = .ok (.iconst 0, 1) := by decide +kernel
theorem dX5_findWays_11 : decode cX5_findWays 11 = .ok (.istore_n 3, 1) := by decide +kernel
theorem dX5_findWays_12 : decode cX5_findWays 12 = .ok (.iload_n 3, 1) := by decide +kernel
theorem dX5_findWays_13 : decode cX5_findWays 13 = .ok (.aload_n 0, 1) := by decide +kernel
theorem dX5_findWays_14 : decode cX5_findWays 14 = .ok (.getfield 9, 3) := by decide +kernel
theorem dX5_findWays_17 : decode cX5_findWays 17 = .ok (.if_icmp .ge 58, 3) := by decide +kernel
theorem dX5_findWays_20 : decode cX5_findWays 20 = .ok (.aload_n 1, 1) := by decide +kernel
theorem dX5_findWays_21 : decode cX5_findWays 21 = .ok (.iload_n 2, 1) := by decide +kernel
theorem dX5_findWays_22 : decode cX5_findWays 22 = .ok (.iload_n 3, 1) := by decide +kernel
theorem dX5_findWays_23 : decode cX5_findWays 23 = .ok (.invokevirtual 66, 3) := by decide +kernel
theorem dX5_findWays_26 : decode cX5_findWays 26 = .ok (.ifCond .eq 17, 3) := by decide +kernel
theorem dX5_findWays_29 : decode cX5_findWays 29 = .ok (.aload_n 1, 1) := by decide +kernel
theorem dX5_findWays_30 : decode cX5_findWays 30 = .ok (.getfield 70, 3) := by decide +kernel
theorem dX5_findWays_33 : decode cX5_findWays 33 = .ok (.bipush 16, 2) := by decide +kernel
theorem dX5_findWays_35 : decode cX5_findWays 35 = .ok (.iload_n 2, 1) := by decide +kernel
theorem dX5_findWays_36 : decode cX5_findWays 36 = .ok (.imul, 1) := by decide +kernel
theorem dX5_findWays_37 : decode cX5_findWays 37 = .ok (.iload_n 3, 1) := by decide +kernel
theorem dX5_findWays_38 : decode cX5_findWays 38 = .ok (.iadd, 1) := by decide +kernel
theorem dX5_findWays_39 : decode cX5_findWays 39 = .ok (.iaload, 1) := by decide +kernel
theorem dX5_findWays_40 : decode cX5_findWays 40 = .ok (.goto 5, 3) := by decide +kernel
theorem dX5_findWays_43 : decode cX5_findWays 43 = .ok (.ldc 62, 2) := by decide +kernel
theorem dX5_findWays_45 : decode cX5_findWays 45 = .ok (.istore 4, 2) := by decide +kernel
theorem dX5_findWays_47 : decode cX5_findWays 47 = .ok (.aload_n 0, 1) := by decide +kernel
theorem dX5_findWays_48 : decode cX5_findWays 48 = .ok (.getfield 19, 3) := by decide +kernel
theorem dX5_findWays_51 : decode cX5_findWays 51 = .ok (.bipush 16, 2) := by decide +kernel
theorem dX5_findWays_53 : decode cX5_findWays 53 = .ok (.iload_n 2, 1) := by decide +kernel
theorem dX5_findWays_54 : decode cX5_findWays 54 = .ok (.imul, 1) := by decide +kernel
theorem dX5_findWays_55 : decode cX5_findWays 55 = .ok (.iload_n 3, 1) := by decide +kernel
theorem dX5_findWays_56 : decode cX5_findWays 56 = .ok (.iadd, 1) := by decide +kernel
theorem dX5_findWays_57 : decode cX5_findWays 57 = .ok (.iload_n 2, 1) := by decide +kernel
theorem dX5_findWays_58 : decode cX5_findWays 58 = .ok (.iload_n 3, 1) := by decide +kernel
theorem dX5_findWays_59 : decode cX5_findWays 59 = .ok (.if_icmp .ne 7, 3) := by decide +kernel
theorem dX5_findWays_62 : decode cX5_findWays 62 = .ok (.iconst 0, 1) := by decide +kernel
theorem dX5_findWays_63 : decode cX5_findWays 63 = .ok (.goto 5, 3) := by decide +kernel
theorem dX5_findWays_66 : decode cX5_findWays 66 = .ok (.iload 4, 2) := by decide +kernel
theorem dX5_findWays_68 : decode cX5_findWays 68 = .ok (.iastore, 1) := by decide +kernel
theorem dX5_findWays_69 : decode cX5_findWays 69 = .ok (.iinc 3 1, 3) := by decide +kernel
theorem dX5_findWays_72 : decode cX5_findWays 72 = .ok (.goto (-60), 3) := by decide +kernel
theorem dX5_findWays_75 : decode cX5_findWays 75 = .ok (.iinc 2 1, 3) := by decide +kernel
theorem dX5_findWays_78 : decode cX5_findWays 78 = .ok (.goto (-76), 3) := by decide +kernel
theorem dX5_findWays_81 : decode cX5_findWays 81 = .ok (.iconst 0, 1) := by decide +kernel
theorem dX5_findWays_82 : decode cX5_findWays 82 = .ok (.istore_n 2, 1) := by decide +kernel
theorem dX5_findWays_83 : decode cX5_findWays 83 = .ok (.iload_n 2, 1) := by decide +kernel
theorem dX5_findWays_84 : decode cX5_findWays 84 = .ok (.aload_n 0, 1) := by decide +kernel
theorem dX5_findWays_85 : decode cX5_findWays 85 = .ok (.getfield 9, 3) := by decide +kernel
theorem dX5_findWays_88 : decode cX5_findWays 88 = .ok (.if_icmp .ge 31, 3) := by decide +kernel
theorem dX5_findWays_91 : decode cX5_findWays 91 = .ok (.iconst 0, 1) := by decide +kernel
theorem dX5_findWays_92 : decode cX5_findWays 92 = .ok (.istore_n 3, 1) := by decide +kernel
theorem dX5_findWays_93 : decode cX5_findWays 93 = .ok (.iload_n 3, 1) := by decide +kernel
theorem dX5_findWays_94 : decode cX5_findWays 94 = .ok (.aload_n 0, 1) := by decide +kernel
theorem dX5_findWays_95 : decode cX5_findWays 95 = .ok (.getfield 9, 3) := by decide +kernel
theorem dX5_findWays_98 : decode cX5_findWays 98 = .ok (.if_icmp .ge 15, 3) := by decide +kernel
theorem dX5_findWays_101 : decode cX5_findWays 101 = .ok (.aload_n 0, 1) := by decide +kernel
theorem dX5_findWays_102 : decode cX5_findWays 102 = .ok (.iload_n 3, 1) := by decide +kernel
theorem dX5_findWays_103 : decode cX5_findWays 103 = .ok (.iload_n 2, 1) := by decide +kernel
theorem dX5_findWays_104 : decode cX5_findWays 104 = .ok (.invokevirtual 73, 3) := by decide +kernel
theorem dX5_findWays_107 : decode cX5_findWays 107 = .ok (.iinc 3 1, 3) := by decide +kernel
theorem dX5_findWays_110 : decode cX5_findWays 110 = .ok (.goto (-17), 3) := by decide +kernel
theorem dX5_findWays_113 : decode cX5_findWays 113 = .ok (.iinc 2 1, 3) := by decide +kernel
theorem dX5_findWays_116 : decode cX5_findWays 116 = .ok (.goto (-33), 3) := by decide +kernel
theorem dX5_findWays_119 : decode cX5_findWays 119 = .ok (.return_, 1) := by decide +kernel
theorem dX5_shortenWays_0 : decode cX5_shortenWays 0 = .ok (.aload_n 0, 1) := by decide +kernel
theorem dX5_shortenWays_1 : decode cX5_shortenWays 1 = .ok (.getfield 19, 3) := by decide +kernel
theorem dX5_shortenWays_4 : decode cX5_shortenWays 4 = .ok (.bipush 16, 2) := by decide +kernel
theorem dX5_shortenWays_6 : decode cX5_shortenWays 6 = .ok (.iload_n 1, 1) := by decide +kernel
theorem dX5_shortenWays_7 : decode cX5_shortenWays 7 = .ok (.imul, 1) := by decide +kernel
theorem dX5_shortenWays_8 : decode cX5_shortenWays 8 = .ok (.iload_n 2, 1) := by decide +kernel
theorem dX5_shortenWays_9 : decode cX5_shortenWays 9 = .ok (.iadd, 1) := by decide +kernel
theorem dX5_shortenWays_10 : decode cX5_shortenWays 10 = .ok (.iaload, 1) := by decide +kernel
theorem dX5_shortenWays_11 : decode cX5_shortenWays 11 = .ok (.istore_n 3, 1) := by decide +kernel
theorem dX5_shortenWays_12 : decode cX5_shortenWays 12 = .ok (.iload_n 3, 1) := by decide +kernel
theorem dX5_shortenWays_13 : decode cX5_shortenWays 13 = .ok (.ldc 62, 2) := by decide +kernel
theorem dX5_shortenWays_15 : decode cX5_shortenWays 15 = .ok (.if_icmp .lt 4, 3) := by decide +kernel
theorem dX5_shortenWays_18 : decode cX5_shortenWays 18 = .ok (.return_, 1) := by decide +kernel
theorem dX5_shortenWays_19 : decode cX5_shortenWays 19 = .ok (.iconst 0, 1) := by decide +kernel
theorem dX5_shortenWays_20 : decode cX5_shortenWays 20 = .ok (.istore 4, 2) := by decide +kernel
theorem dX5_shortenWays_22 : decode cX5_shortenWays 22 = .ok (.iload 4, 2) := by decide +kernel
theorem dX5_shortenWays_24 : decode cX5_shortenWays 24 = .ok (.aload_n 0, 1) := by decide +kernel
theorem dX5_shortenWays_25 : decode cX5_shortenWays 25 = .ok (.getfield 9, 3) := by decide +kernel
theorem dX5_shortenWays_28 : decode cX5_shortenWays 28 = .ok (.if_icmp .ge 56, 3) := by decide +kernel
theorem dX5_shortenWays_31 : decode cX5_shortenWays 31 = .ok (.iload_n 3, 1) := by decide +kernel
theorem dX5_shortenWays_32 : decode cX5_shortenWays 32 = .ok (.aload_n 0, 1) := by decide +kernel
theorem dX5_shortenWays_33 : decode cX5_shortenWays 33 = .ok (.getfield 19, 3) := by decide +kernel
theorem dX5_shortenWays_36 : decode cX5_shortenWays 36 = .ok (.bipush 16, 2) := by decide +kernel
theorem dX5_shortenWays_38 : decode cX5_shortenWays 38 = .ok (.iload_n 2, 1) := by decide +kernel
theorem dX5_shortenWays_39 : decode cX5_shortenWays 39 = .ok (.imul, 1) := by decide +kernel
theorem dX5_shortenWays_40 : decode cX5_shortenWays 40 = .ok (.iload 4, 2) := by decide +kernel
theorem dX5_shortenWays_42 : decode cX5_shortenWays 42 = .ok (.iadd, 1) := by decide +kernel
theorem dX5_shortenWays_43 : decode cX5_shortenWays 43 = .ok (.iaload, 1) := by decide +kernel
theorem dX5_shortenWays_44 : decode cX5_shortenWays 44 = .ok (.iadd, 1) := by decide +kernel
theorem dX5_shortenWays_45 : decode cX5_shortenWays 45 = .ok (.istore 5, 2) := by decide +kernel
theorem dX5_shortenWays_47 : decode cX5_shortenWays 47 = .ok (.iload 5, 2) := by decide +kernel
theorem dX5_shortenWays_49 : decode cX5_shortenWays 49 = .ok (.aload_n 0, 1) := by decide +kernel
theorem dX5_shortenWays_50 : decode cX5_shortenWays 50 = .ok (.getfield 19, 3) := by decide +kernel
theorem dX5_shortenWays_53 : decode cX5_shortenWays 53 = .ok (.bipush 16, 2) := by decide +kernel
theorem dX5_shortenWays_55 : decode cX5_shortenWays 55 = .ok (.iload_n 1, 1) := by decide +kernel
theorem dX5_shortenWays_56 : decode cX5_shortenWays 56 = .ok (.imul, 1) := by decide +kernel
theorem dX5_shortenWays_57 : decode cX5_shortenWays 57 = .ok (.iload 4, 2) := by decide +kernel
theorem dX5_shortenWays_59 : decode cX5_shortenWays 59 = .ok (.iadd, 1) := by decide +kernel
theorem dX5_shortenWays_60 : decode cX5_shortenWays 60 = .ok (.iaload, 1) := by decide +kernel
theorem dX5_shortenWays_61 : decode cX5_shortenWays 61 = .ok (.if_icmp .ge 17, 3) := by decide +kernel
theorem dX5_shortenWays_64 : decode cX5_shortenWays 64 = .ok (.aload_n 0, 1) := by decide +kernel
theorem dX5_shortenWays_65 : decode cX5_shortenWays 65 = .ok (.getfield 19, 3) := by decide +kernel
theorem dX5_shortenWays_68 : decode cX5_shortenWays 68 = .ok (.bipush 16, 2) := by decide +kernel
theorem dX5_shortenWays_70 : decode cX5_shortenWays 70 = .ok (.iload_n 1, 1) := by decide +kernel
theorem dX5_shortenWays_71 : decode cX5_shortenWays 71 = .ok (.imul, 1) := by decide +kernel
theorem dX5_shortenWays_72 : decode cX5_shortenWays 72 = .ok (.iload 4, 2) := by decide +kernel
theorem dX5_shortenWays_74 : decode cX5_shortenWays 74 = .ok (.iadd, 1) := by decide +kernel
theorem dX5_shortenWays_75 : decode cX5_shortenWays 75 = .ok (.iload 5, 2) := by decide +kernel
theorem dX5_shortenWays_77 : decode cX5_shortenWays 77 = .ok (.iastore, 1) := by decide +kernel
theorem dX5_shortenWays_78 : decode cX5_shortenWays 78 = .ok (.iinc 4 1, 3) := by decide +kernel
theorem dX5_shortenWays_81 : decode cX5_shortenWays 81 = .ok (.goto (-59), 3) := by decide +kernel
theorem dX5_shortenWays_84 : decode cX5_shortenWays 84 = .ok (.return_, 1) := by decide +kernel
theorem dX5_answerOf_0 : decode cX5_answerOf 0 = .ok (.aload_n 0, 1) := by decide +kernel
theorem dX5_answerOf_1 : decode cX5_answerOf 1 = .ok (.getfield 19, 3) := by decide +kernel
theorem dX5_answerOf_4 : decode cX5_answerOf 4 = .ok (.bipush 16, 2) := by decide +kernel
theorem dX5_answerOf_6 : decode cX5_answerOf 6 = .ok (.iload_n 2, 1) := by decide +kernel
theorem dX5_answerOf_7 : decode cX5_answerOf 7 = .ok (.imul, 1) := by decide +kernel
theorem dX5_answerOf_8 : decode cX5_answerOf 8 = .ok (.iload_n 3, 1) := by decide +kernel
theorem dX5_answerOf_9 : decode cX5_answerOf 9 = .ok (.iadd, 1) := by decide +kernel
theorem dX5_answerOf_10 : decode cX5_answerOf 10 = .ok (.iaload, 1) := by decide +kernel
theorem dX5_answerOf_11 : decode cX5_answerOf 11 = .ok (.istore 4, 2) := by decide +kernel
theorem dX5_answerOf_13 : decode cX5_answerOf 13 = .ok (.aload_n 0, 1) := by decide +kernel
theorem dX5_answerOf_14 : decode cX5_answerOf 14 = .ok (.getfield 15, 3) := by decide +kernel
theorem dX5_answerOf_17 : decode cX5_answerOf 17 = .ok (.iload_n 2, 1) := by decide +kernel
theorem dX5_answerOf_18 : decode cX5_answerOf 18 = .ok (.iaload, 1) := by decide +kernel
theorem dX5_answerOf_19 : decode cX5_answerOf 19 = .ok (.iload_n 3, 1) := by decide +kernel
theorem dX5_answerOf_20 : decode cX5_answerOf 20 = .ok (.ishr, 1) := by decide +kernel
theorem dX5_answerOf_21 : decode cX5_answerOf 21 = .ok (.iconst 1, 1) := by decide +kernel
theorem dX5_answerOf_22 : decode cX5_answerOf 22 = .ok (.iand, 1) := by decide +kernel
theorem dX5_answerOf_23 : decode cX5_answerOf 23 = .ok (.iconst 1, 1) := by decide +kernel
theorem dX5_answerOf_24 : decode cX5_answerOf 24 = .ok (.if_icmp .ne 7, 3) := by decide +kernel
theorem dX5_answerOf_27 : decode cX5_answerOf 27 = .ok (.iconst 1, 1) := by decide +kernel
theorem dX5_answerOf_28 : decode cX5_answerOf 28 = .ok (.goto 4, 3) := by decide +kernel
theorem dX5_answerOf_31 : decode cX5_answerOf 31 = .ok (.iconst 0, 1) := by decide +kernel
theorem dX5_answerOf_32 : decode cX5_answerOf 32 = .ok (.istore 5, 2) := by decide +kernel
theorem dX5_answerOf_34 : decode cX5_answerOf 34 = .ok (.aload_n 1, 1) := by decide +kernel
theorem dX5_answerOf_35 : decode cX5_answerOf 35 = .ok (.getfield 59, 3) := by decide +kernel
theorem dX5_answerOf_38 : decode cX5_answerOf 38 = .ok (.tableswitch 89 1 4 #[30, 46, 57, 72], 30) := by decide +kernel
theorem dX5_answerOf_68 : decode cX5_answerOf 68 = .ok (.iload_n 3, 1) := by decide +kernel
theorem dX5_answerOf_69 : decode cX5_answerOf 69 = .ok (.iload_n 2, 1) := by decide +kernel
theorem dX5_answerOf_70 : decode cX5_answerOf 70 = .ok (.if_icmp .eq 8, 3) := by decide +kernel
theorem dX5_answerOf_73 : decode cX5_answerOf 73 = .ok (.iload 5, 2) := by decide +kernel
theorem dX5_answerOf_75 : decode cX5_answerOf 75 = .ok (.ifCond .eq 7, 3) := by decide +kernel
theorem dX5_answerOf_78 : decode cX5_answerOf 78 = .ok (.iconst 1, 1) := by decide +kernel
theorem dX5_answerOf_79 : decode cX5_answerOf 79 = .ok (.goto 4, 3) := by decide +kernel
theorem dX5_answerOf_82 : decode cX5_answerOf 82 = .ok (.iconst 0, 1) := by decide +kernel
theorem dX5_answerOf_83 : decode cX5_answerOf 83 = .ok (.ireturn, 1) := by decide +kernel
theorem dX5_answerOf_84 : decode cX5_answerOf 84 = .ok (.iload 5, 2) := by decide +kernel
theorem dX5_answerOf_86 : decode cX5_answerOf 86 = .ok (.ifCond .eq 7, 3) := by decide +kernel
theorem dX5_answerOf_89 : decode cX5_answerOf 89 = .ok (.iconst 1, 1) := by decide +kernel
theorem dX5_answerOf_90 : decode cX5_answerOf 90 = .ok (.goto 4, 3) := by decide +kernel
theorem dX5_answerOf_93 : decode cX5_answerOf 93 = .ok (.iconst 0, 1) := by decide +kernel
theorem dX5_answerOf_94 : decode cX5_answerOf 94 = .ok (.ireturn, 1) := by decide +kernel
theorem dX5_answerOf_95 : decode cX5_answerOf 95 = .ok (.iload 4, 2) := by decide +kernel
theorem dX5_answerOf_97 : decode cX5_answerOf 97 = .ok (.aload_n 1, 1) := by decide +kernel
theorem dX5_answerOf_98 : decode cX5_answerOf 98 = .ok (.getfield 77, 3) := by decide +kernel
theorem dX5_answerOf_101 : decode cX5_answerOf 101 = .ok (.if_icmp .gt 7, 3) := by decide +kernel
theorem dX5_answerOf_104 : decode cX5_answerOf 104 = .ok (.iconst 1, 1) := by decide +kernel
theorem dX5_answerOf_105 : decode cX5_answerOf 105 = .ok (.goto 4, 3) := by decide +kernel
theorem dX5_answerOf_108 : decode cX5_answerOf 108 = .ok (.iconst 0, 1) := by decide +kernel
theorem dX5_answerOf_109 : decode cX5_answerOf 109 = .ok (.ireturn, 1) := by decide +kernel
theorem dX5_answerOf_110 : decode cX5_answerOf 110 = .ok (.iload 4, 2) := by decide +kernel
theorem dX5_answerOf_112 : decode cX5_answerOf 112 = .ok (.aload_n 1, 1) := by decide +kernel
theorem dX5_answerOf_113 : decode cX5_answerOf 113 = .ok (.getfield 80, 3) := by decide +kernel
theorem dX5_answerOf_116 : decode cX5_answerOf 116 = .ok (.iload_n 2, 1) := by decide +kernel
theorem dX5_answerOf_117 : decode cX5_answerOf 117 = .ok (.iaload, 1) := by decide +kernel
theorem dX5_answerOf_118 : decode cX5_answerOf 118 = .ok (.if_icmp .gt 7, 3) := by decide +kernel
theorem dX5_answerOf_121 : decode cX5_answerOf 121 = .ok (.iconst 1, 1) := by decide +kernel
theorem dX5_answerOf_122 : decode cX5_answerOf 122 = .ok (.goto 4, 3) := by decide +kernel
theorem dX5_answerOf_125 : decode cX5_answerOf 125 = .ok (.iconst 0, 1) := by decide +kernel
theorem dX5_answerOf_126 : decode cX5_answerOf 126 = .ok (.ireturn, 1) := by decide +kernel
theorem dX5_answerOf_127 : decode cX5_answerOf 127 = .ok (.iload 4, 2) := by decide +kernel
theorem dX5_answerOf_129 : decode cX5_answerOf 129 = .ok (.ireturn, 1) := by decide +kernel
theorem dX5_groupPosts_0 : decode cX5_groupPosts 0 = .ok (.iconst 0, 1) := by decide +kernel
theorem dX5_groupPosts_1 : decode cX5_groupPosts 1 = .ok (.istore_n 2, 1) := by decide +kernel
theorem dX5_groupPosts_2 : decode cX5_groupPosts 2 = .ok (.iconst 0, 1) := by decide +kernel
theorem dX5_groupPosts_3 : decode cX5_groupPosts 3 = .ok (.istore_n 3, 1) := by decide +kernel
theorem dX5_groupPosts_4 : decode cX5_groupPosts 4 = .ok (.iconst 0, 1) := by decide +kernel
theorem dX5_groupPosts_5 : decode cX5_groupPosts 5 = .ok (.istore 4, 2) := by decide +kernel
theorem dX5_groupPosts_7 : decode cX5_groupPosts 7 = .ok (.iload 4, 2) := by decide +kernel
theorem dX5_groupPosts_9 : decode cX5_groupPosts 9 = .ok (.aload_n 0, 1) := by decide +kernel
theorem dX5_groupPosts_10 : decode cX5_groupPosts 10 = .ok (.getfield 9, 3) := by decide +kernel
theorem dX5_groupPosts_13 : decode cX5_groupPosts 13 = .ok (.if_icmp .ge 48, 3) := by decide +kernel
theorem dX5_groupPosts_16 : decode cX5_groupPosts 16 = .ok (.iload_n 3, 1) := by decide +kernel
theorem dX5_groupPosts_17 : decode cX5_groupPosts 17 = .ok (.iload 4, 2) := by decide +kernel
theorem dX5_groupPosts_19 : decode cX5_groupPosts 19 = .ok (.ishr, 1) := by decide +kernel
theorem dX5_groupPosts_20 : decode cX5_groupPosts 20 = .ok (.iconst 1, 1) := by decide +kernel
theorem dX5_groupPosts_21 : decode cX5_groupPosts 21 = .ok (.iand, 1) := by decide +kernel
theorem dX5_groupPosts_22 : decode cX5_groupPosts 22 = .ok (.ifCond .ne 33, 3) := by decide +kernel
theorem dX5_groupPosts_25 : decode cX5_groupPosts 25 = .ok (.aload_n 0, 1) := by decide +kernel
theorem dX5_groupPosts_26 : decode cX5_groupPosts 26 = .ok (.iload_n 1, 1) := by decide +kernel
theorem dX5_groupPosts_27 : decode cX5_groupPosts 27 = .ok (.iload 4, 2) := by decide +kernel
theorem dX5_groupPosts_29 : decode cX5_groupPosts 29 = .ok (.invokevirtual 83, 3) := by decide +kernel
theorem dX5_groupPosts_32 : decode cX5_groupPosts 32 = .ok (.istore 5, 2) := by decide +kernel
theorem dX5_groupPosts_34 : decode cX5_groupPosts 34 = .ok (.aload_n 0, 1) := by decide +kernel
theorem dX5_groupPosts_35 : decode cX5_groupPosts 35 = .ok (.getfield 31, 3) := by decide +kernel
theorem dX5_groupPosts_38 : decode cX5_groupPosts 38 = .ok (.bipush 16, 2) := by decide +kernel
theorem dX5_groupPosts_40 : decode cX5_groupPosts 40 = .ok (.iload_n 1, 1) := by decide +kernel
theorem dX5_groupPosts_41 : decode cX5_groupPosts 41 = .ok (.imul, 1) := by decide +kernel
theorem dX5_groupPosts_42 : decode cX5_groupPosts 42 = .ok (.iload_n 2, 1) := by decide +kernel
theorem dX5_groupPosts_43 : decode cX5_groupPosts 43 = .ok (.iadd, 1) := by decide +kernel
theorem dX5_groupPosts_44 : decode cX5_groupPosts 44 = .ok (.iload 5, 2) := by decide +kernel
theorem dX5_groupPosts_46 : decode cX5_groupPosts 46 = .ok (.iastore, 1) := by decide +kernel
theorem dX5_groupPosts_47 : decode cX5_groupPosts 47 = .ok (.iload_n 3, 1) := by decide +kernel
theorem dX5_groupPosts_48 : decode cX5_groupPosts 48 = .ok (.iload 5, 2) := by decide +kernel
theorem dX5_groupPosts_50 : decode cX5_groupPosts 50 = .ok (.ior, 1) := by decide +kernel
theorem dX5_groupPosts_51 : decode cX5_groupPosts 51 = .ok (.istore_n 3, 1) := by decide +kernel
theorem dX5_groupPosts_52 : decode cX5_groupPosts 52 = .ok (.iinc 2 1, 3) := by decide +kernel
theorem dX5_groupPosts_55 : decode cX5_groupPosts 55 = .ok (.iinc 4 1, 3) := by decide +kernel
theorem dX5_groupPosts_58 : decode cX5_groupPosts 58 = .ok (.goto (-51), 3) := by decide +kernel
theorem dX5_groupPosts_61 : decode cX5_groupPosts 61 = .ok (.aload_n 0, 1) := by decide +kernel
theorem dX5_groupPosts_62 : decode cX5_groupPosts 62 = .ok (.getfield 34, 3) := by decide +kernel
theorem dX5_groupPosts_65 : decode cX5_groupPosts 65 = .ok (.iload_n 1, 1) := by decide +kernel
theorem dX5_groupPosts_66 : decode cX5_groupPosts 66 = .ok (.iload_n 2, 1) := by decide +kernel
theorem dX5_groupPosts_67 : decode cX5_groupPosts 67 = .ok (.iastore, 1) := by decide +kernel
theorem dX5_groupPosts_68 : decode cX5_groupPosts 68 = .ok (.return_, 1) := by decide +kernel
theorem dX5_sameAnswer_0 : decode cX5_sameAnswer 0 = .ok (.iconst 0, 1) := by decide +kernel
theorem dX5_sameAnswer_1 : decode cX5_sameAnswer 1 = .ok (.istore_n 3, 1) := by decide +kernel
theorem dX5_sameAnswer_2 : decode cX5_sameAnswer 2 = .ok (.iconst 0, 1) := by decide +kernel
theorem dX5_sameAnswer_3 : decode cX5_sameAnswer 3 = .ok (.istore 4, 2) := by decide +kernel
theorem dX5_sameAnswer_5 : decode cX5_sameAnswer 5 = .ok (.iload 4, 2) := by decide +kernel
theorem dX5_sameAnswer_7 : decode cX5_sameAnswer 7 = .ok (.aload_n 0, 1) := by decide +kernel
theorem dX5_sameAnswer_8 : decode cX5_sameAnswer 8 = .ok (.getfield 9, 3) := by decide +kernel
theorem dX5_sameAnswer_11 : decode cX5_sameAnswer 11 = .ok (.if_icmp .ge 42, 3) := by decide +kernel
theorem dX5_sameAnswer_14 : decode cX5_sameAnswer 14 = .ok (.aload_n 0, 1) := by decide +kernel
theorem dX5_sameAnswer_15 : decode cX5_sameAnswer 15 = .ok (.getfield 22, 3) := by decide +kernel
theorem dX5_sameAnswer_18 : decode cX5_sameAnswer 18 = .ok (.bipush 16, 2) := by decide +kernel
theorem dX5_sameAnswer_20 : decode cX5_sameAnswer 20 = .ok (.iload_n 1, 1) := by decide +kernel
theorem dX5_sameAnswer_21 : decode cX5_sameAnswer 21 = .ok (.imul, 1) := by decide +kernel
theorem dX5_sameAnswer_22 : decode cX5_sameAnswer 22 = .ok (.iload 4, 2) := by decide +kernel
theorem dX5_sameAnswer_24 : decode cX5_sameAnswer 24 = .ok (.iadd, 1) := by decide +kernel
theorem dX5_sameAnswer_25 : decode cX5_sameAnswer 25 = .ok (.iaload, 1) := by decide +kernel
theorem dX5_sameAnswer_26 : decode cX5_sameAnswer 26 = .ok (.aload_n 0, 1) := by decide +kernel
theorem dX5_sameAnswer_27 : decode cX5_sameAnswer 27 = .ok (.getfield 22, 3) := by decide +kernel
theorem dX5_sameAnswer_30 : decode cX5_sameAnswer 30 = .ok (.bipush 16, 2) := by decide +kernel
theorem dX5_sameAnswer_32 : decode cX5_sameAnswer 32 = .ok (.iload_n 1, 1) := by decide +kernel
theorem dX5_sameAnswer_33 : decode cX5_sameAnswer 33 = .ok (.imul, 1) := by decide +kernel
theorem dX5_sameAnswer_34 : decode cX5_sameAnswer 34 = .ok (.iload_n 2, 1) := by decide +kernel
theorem dX5_sameAnswer_35 : decode cX5_sameAnswer 35 = .ok (.iadd, 1) := by decide +kernel
theorem dX5_sameAnswer_36 : decode cX5_sameAnswer 36 = .ok (.iaload, 1) := by decide +kernel
theorem dX5_sameAnswer_37 : decode cX5_sameAnswer 37 = .ok (.if_icmp .ne 10, 3) := by decide +kernel
theorem dX5_sameAnswer_40 : decode cX5_sameAnswer 40 = .ok (.iload_n 3, 1) := by decide +kernel
theorem dX5_sameAnswer_41 : decode cX5_sameAnswer 41 = .ok (.iconst 1, 1) := by decide +kernel
theorem dX5_sameAnswer_42 : decode cX5_sameAnswer 42 = .ok (.iload 4, 2) := by decide +kernel
theorem dX5_sameAnswer_44 : decode cX5_sameAnswer 44 = .ok (.ishl, 1) := by decide +kernel
theorem dX5_sameAnswer_45 : decode cX5_sameAnswer 45 = .ok (.ior, 1) := by decide +kernel
theorem dX5_sameAnswer_46 : decode cX5_sameAnswer 46 = .ok (.istore_n 3, 1) := by decide +kernel
theorem dX5_sameAnswer_47 : decode cX5_sameAnswer 47 = .ok (.iinc 4 1, 3) := by decide +kernel
theorem dX5_sameAnswer_50 : decode cX5_sameAnswer 50 = .ok (.goto (-45), 3) := by decide +kernel
theorem dX5_sameAnswer_53 : decode cX5_sameAnswer 53 = .ok (.iload_n 3, 1) := by decide +kernel
theorem dX5_sameAnswer_54 : decode cX5_sameAnswer 54 = .ok (.ireturn, 1) := by decide +kernel
theorem dX5_findParters_0 : decode cX5_findParters 0 = .ok (.iconst 0, 1) := by decide +kernel
theorem dX5_findParters_1 : decode cX5_findParters 1 = .ok (.istore_n 1, 1) := by decide +kernel
theorem dX5_findParters_2 : decode cX5_findParters 2 = .ok (.iload_n 1, 1) := by decide +kernel
theorem dX5_findParters_3 : decode cX5_findParters 3 = .ok (.aload_n 0, 1) := by decide +kernel
theorem dX5_findParters_4 : decode cX5_findParters 4 = .ok (.getfield 9, 3) := by decide +kernel
theorem dX5_findParters_7 : decode cX5_findParters 7 = .ok (.if_icmp .ge 93, 3) := by decide +kernel
theorem dX5_findParters_10 : decode cX5_findParters 10 = .ok (.iload_n 1, 1) := by decide +kernel
theorem dX5_findParters_11 : decode cX5_findParters 11 = .ok (.iconst 1, 1) := by decide +kernel
theorem dX5_findParters_12 : decode cX5_findParters 12 = .ok (.iadd, 1) := by decide +kernel
theorem dX5_findParters_13 : decode cX5_findParters 13 = .ok (.istore_n 2, 1) := by decide +kernel
theorem dX5_findParters_14 : decode cX5_findParters 14 = .ok (.iload_n 2, 1) := by decide +kernel
theorem dX5_findParters_15 : decode cX5_findParters 15 = .ok (.aload_n 0, 1) := by decide +kernel
theorem dX5_findParters_16 : decode cX5_findParters 16 = .ok (.getfield 9, 3) := by decide +kernel
theorem dX5_findParters_19 : decode cX5_findParters 19 = .ok (.if_icmp .ge 75, 3) := by decide +kernel
theorem dX5_findParters_22 : decode cX5_findParters 22 = .ok (.iconst 0, 1) := by decide +kernel
theorem dX5_findParters_23 : decode cX5_findParters 23 = .ok (.istore_n 3, 1) := by decide +kernel
theorem dX5_findParters_24 : decode cX5_findParters 24 = .ok (.iconst 0, 1) := by decide +kernel
theorem dX5_findParters_25 : decode cX5_findParters 25 = .ok (.istore 4, 2) := by decide +kernel
theorem dX5_findParters_27 : decode cX5_findParters 27 = .ok (.iload 4, 2) := by decide +kernel
theorem dX5_findParters_29 : decode cX5_findParters 29 = .ok (.aload_n 0, 1) := by decide +kernel
theorem dX5_findParters_30 : decode cX5_findParters 30 = .ok (.getfield 9, 3) := by decide +kernel
theorem dX5_findParters_33 : decode cX5_findParters 33 = .ok (.if_icmp .ge 43, 3) := by decide +kernel
theorem dX5_findParters_36 : decode cX5_findParters 36 = .ok (.aload_n 0, 1) := by decide +kernel
theorem dX5_findParters_37 : decode cX5_findParters 37 = .ok (.getfield 22, 3) := by decide +kernel
theorem dX5_findParters_40 : decode cX5_findParters 40 = .ok (.bipush 16, 2) := by decide +kernel
theorem dX5_findParters_42 : decode cX5_findParters 42 = .ok (.iload 4, 2) := by decide +kernel
theorem dX5_findParters_44 : decode cX5_findParters 44 = .ok (.imul, 1) := by decide +kernel
theorem dX5_findParters_45 : decode cX5_findParters 45 = .ok (.iload_n 1, 1) := by decide +kernel
theorem dX5_findParters_46 : decode cX5_findParters 46 = .ok (.iadd, 1) := by decide +kernel
theorem dX5_findParters_47 : decode cX5_findParters 47 = .ok (.iaload, 1) := by decide +kernel
theorem dX5_findParters_48 : decode cX5_findParters 48 = .ok (.aload_n 0, 1) := by decide +kernel
theorem dX5_findParters_49 : decode cX5_findParters 49 = .ok (.getfield 22, 3) := by decide +kernel
theorem dX5_findParters_52 : decode cX5_findParters 52 = .ok (.bipush 16, 2) := by decide +kernel
theorem dX5_findParters_54 : decode cX5_findParters 54 = .ok (.iload 4, 2) := by decide +kernel
theorem dX5_findParters_56 : decode cX5_findParters 56 = .ok (.imul, 1) := by decide +kernel
theorem dX5_findParters_57 : decode cX5_findParters 57 = .ok (.iload_n 2, 1) := by decide +kernel
theorem dX5_findParters_58 : decode cX5_findParters 58 = .ok (.iadd, 1) := by decide +kernel
theorem dX5_findParters_59 : decode cX5_findParters 59 = .ok (.iaload, 1) := by decide +kernel
theorem dX5_findParters_60 : decode cX5_findParters 60 = .ok (.if_icmp .eq 10, 3) := by decide +kernel
theorem dX5_findParters_63 : decode cX5_findParters 63 = .ok (.iload_n 3, 1) := by decide +kernel
theorem dX5_findParters_64 : decode cX5_findParters 64 = .ok (.iconst 1, 1) := by decide +kernel
theorem dX5_findParters_65 : decode cX5_findParters 65 = .ok (.iload 4, 2) := by decide +kernel
theorem dX5_findParters_67 : decode cX5_findParters 67 = .ok (.ishl, 1) := by decide +kernel
theorem dX5_findParters_68 : decode cX5_findParters 68 = .ok (.ior, 1) := by decide +kernel
theorem dX5_findParters_69 : decode cX5_findParters 69 = .ok (.istore_n 3, 1) := by decide +kernel
theorem dX5_findParters_70 : decode cX5_findParters 70 = .ok (.iinc 4 1, 3) := by decide +kernel
theorem dX5_findParters_73 : decode cX5_findParters 73 = .ok (.goto (-46), 3) := by decide +kernel
theorem dX5_findParters_76 : decode cX5_findParters 76 = .ok (.aload_n 0, 1) := by decide +kernel
theorem dX5_findParters_77 : decode cX5_findParters 77 = .ok (.getfield 25, 3) := by decide +kernel
theorem dX5_findParters_80 : decode cX5_findParters 80 = .ok (.bipush 16, 2) := by decide +kernel
theorem dX5_findParters_82 : decode cX5_findParters 82 = .ok (.iload_n 1, 1) := by decide +kernel
theorem dX5_findParters_83 : decode cX5_findParters 83 = .ok (.imul, 1) := by decide +kernel
theorem dX5_findParters_84 : decode cX5_findParters 84 = .ok (.iload_n 2, 1) := by decide +kernel
theorem dX5_findParters_85 : decode cX5_findParters 85 = .ok (.iadd, 1) := by decide +kernel
theorem dX5_findParters_86 : decode cX5_findParters 86 = .ok (.iload_n 3, 1) := by decide +kernel
theorem dX5_findParters_87 : decode cX5_findParters 87 = .ok (.iastore, 1) := by decide +kernel
theorem dX5_findParters_88 : decode cX5_findParters 88 = .ok (.iinc 2 1, 3) := by decide +kernel
theorem dX5_findParters_91 : decode cX5_findParters 91 = .ok (.goto (-77), 3) := by decide +kernel
theorem dX5_findParters_94 : decode cX5_findParters 94 = .ok (.iinc 1 1, 3) := by decide +kernel
theorem dX5_findParters_97 : decode cX5_findParters 97 = .ok (.goto (-95), 3) := by decide +kernel
theorem dX5_findParters_100 : decode cX5_findParters 100 = .ok (.return_, 1) := by decide +kernel
theorem dX5_findYes_0 : decode cX5_findYes 0 = .ok (.iconst 0, 1) := by decide +kernel
theorem dX5_findYes_1 : decode cX5_findYes 1 = .ok (.istore_n 2, 1) := by decide +kernel
theorem dX5_findYes_2 : decode cX5_findYes 2 = .ok (.iload_n 2, 1) := by decide +kernel
theorem dX5_findYes_3 : decode cX5_findYes 3 = .ok (.aload_n 0, 1) := by decide +kernel
theorem dX5_findYes_4 : decode cX5_findYes 4 = .ok (.getfield 9, 3) := by decide +kernel
theorem dX5_findYes_7 : decode cX5_findYes 7 = .ok (.if_icmp .ge 59, 3) := by decide +kernel
theorem dX5_findYes_10 : decode cX5_findYes 10 = .ok (.iconst 0, 1) := by decide +kernel
theorem dX5_findYes_11 : decode cX5_findYes 11 = .ok (.istore_n 3, 1) := by decide +kernel
theorem dX5_findYes_12 : decode cX5_findYes 12 = .ok (.iconst 0, 1) := by decide +kernel
theorem dX5_findYes_13 : decode cX5_findYes 13 = .ok (.istore 4, 2) := by decide +kernel
theorem dX5_findYes_15 : decode cX5_findYes 15 = .ok (.iload 4, 2) := by decide +kernel
theorem dX5_findYes_17 : decode cX5_findYes 17 = .ok (.aload_n 0, 1) := by decide +kernel
theorem dX5_findYes_18 : decode cX5_findYes 18 = .ok (.getfield 9, 3) := by decide +kernel
theorem dX5_findYes_21 : decode cX5_findYes 21 = .ok (.if_icmp .ge 32, 3) := by decide +kernel
theorem dX5_findYes_24 : decode cX5_findYes 24 = .ok (.aload_n 0, 1) := by decide +kernel
theorem dX5_findYes_25 : decode cX5_findYes 25 = .ok (.getfield 22, 3) := by decide +kernel
theorem dX5_findYes_28 : decode cX5_findYes 28 = .ok (.bipush 16, 2) := by decide +kernel
theorem dX5_findYes_30 : decode cX5_findYes 30 = .ok (.iload 4, 2) := by decide +kernel
theorem dX5_findYes_32 : decode cX5_findYes 32 = .ok (.imul, 1) := by decide +kernel
theorem dX5_findYes_33 : decode cX5_findYes 33 = .ok (.iload_n 2, 1) := by decide +kernel
theorem dX5_findYes_34 : decode cX5_findYes 34 = .ok (.iadd, 1) := by decide +kernel
theorem dX5_findYes_35 : decode cX5_findYes 35 = .ok (.iaload, 1) := by decide +kernel
theorem dX5_findYes_36 : decode cX5_findYes 36 = .ok (.iload_n 1, 1) := by decide +kernel
theorem dX5_findYes_37 : decode cX5_findYes 37 = .ok (.if_icmp .eq 10, 3) := by decide +kernel
theorem dX5_findYes_40 : decode cX5_findYes 40 = .ok (.iload_n 3, 1) := by decide +kernel
theorem dX5_findYes_41 : decode cX5_findYes 41 = .ok (.iconst 1, 1) := by decide +kernel
theorem dX5_findYes_42 : decode cX5_findYes 42 = .ok (.iload 4, 2) := by decide +kernel
theorem dX5_findYes_44 : decode cX5_findYes 44 = .ok (.ishl, 1) := by decide +kernel
theorem dX5_findYes_45 : decode cX5_findYes 45 = .ok (.ior, 1) := by decide +kernel
theorem dX5_findYes_46 : decode cX5_findYes 46 = .ok (.istore_n 3, 1) := by decide +kernel
theorem dX5_findYes_47 : decode cX5_findYes 47 = .ok (.iinc 4 1, 3) := by decide +kernel
theorem dX5_findYes_50 : decode cX5_findYes 50 = .ok (.goto (-35), 3) := by decide +kernel
theorem dX5_findYes_53 : decode cX5_findYes 53 = .ok (.aload_n 0, 1) := by decide +kernel
theorem dX5_findYes_54 : decode cX5_findYes 54 = .ok (.getfield 28, 3) := by decide +kernel
theorem dX5_findYes_57 : decode cX5_findYes 57 = .ok (.iload_n 2, 1) := by decide +kernel
theorem dX5_findYes_58 : decode cX5_findYes 58 = .ok (.iload_n 3, 1) := by decide +kernel
theorem dX5_findYes_59 : decode cX5_findYes 59 = .ok (.iastore, 1) := by decide +kernel
theorem dX5_findYes_60 : decode cX5_findYes 60 = .ok (.iinc 2 1, 3) := by decide +kernel
theorem dX5_findYes_63 : decode cX5_findYes 63 = .ok (.goto (-61), 3) := by decide +kernel
theorem dX5_findYes_66 : decode cX5_findYes 66 = .ok (.return_, 1) := by decide +kernel
theorem dX5_countBeside_0 : decode cX5_countBeside 0 = .ok (.aload_n 0, 1) := by decide +kernel
theorem dX5_countBeside_1 : decode cX5_countBeside 1 = .ok (.getfield 15, 3) := by decide +kernel
theorem dX5_countBeside_4 : decode cX5_countBeside 4 = .ok (.iload_n 1, 1) := by decide +kernel
theorem dX5_countBeside_5 : decode cX5_countBeside 5 = .ok (.iaload, 1) := by decide +kernel
theorem dX5_countBeside_6 : decode cX5_countBeside 6 = .ok (.invokestatic 87, 3) := by decide +kernel
theorem dX5_countBeside_9 : decode cX5_countBeside 9 = .ok (.ireturn, 1) := by decide +kernel
theorem dX5_countReachedFrom_0 : decode cX5_countReachedFrom 0 = .ok (.iconst 0, 1) := by decide +kernel
theorem dX5_countReachedFrom_1 : decode cX5_countReachedFrom 1 = .ok (.istore_n 2, 1) := by decide +kernel
theorem dX5_countReachedFrom_2 : decode cX5_countReachedFrom 2 = .ok (.iconst 0, 1) := by decide +kernel
theorem dX5_countReachedFrom_3 : decode cX5_countReachedFrom 3 = .ok (.istore_n 3, 1) := by decide +kernel
theorem dX5_countReachedFrom_4 : decode cX5_countReachedFrom 4 = .ok (.iload_n 3, 1) := by decide +kernel
theorem dX5_countReachedFrom_5 : decode cX5_countReachedFrom 5 = .ok (.aload_n 0, 1) := by decide +kernel
theorem dX5_countReachedFrom_6 : decode cX5_countReachedFrom 6 = .ok (.getfield 9, 3) := by decide +kernel
theorem dX5_countReachedFrom_9 : decode cX5_countReachedFrom 9 = .ok (.if_icmp .ge 28, 3) := by decide +kernel
theorem dX5_countReachedFrom_12 : decode cX5_countReachedFrom 12 = .ok (.aload_n 0, 1) := by decide +kernel
theorem dX5_countReachedFrom_13 : decode cX5_countReachedFrom 13 = .ok (.getfield 19, 3) := by decide +kernel
theorem dX5_countReachedFrom_16 : decode cX5_countReachedFrom 16 = .ok (.bipush 16, 2) := by decide +kernel
theorem dX5_countReachedFrom_18 : decode cX5_countReachedFrom 18 = .ok (.iload_n 1, 1) := by decide +kernel
theorem dX5_countReachedFrom_19 : decode cX5_countReachedFrom 19 = .ok (.imul, 1) := by decide +kernel
theorem dX5_countReachedFrom_20 : decode cX5_countReachedFrom 20 = .ok (.iload_n 3, 1) := by decide +kernel
theorem dX5_countReachedFrom_21 : decode cX5_countReachedFrom 21 = .ok (.iadd, 1) := by decide +kernel
theorem dX5_countReachedFrom_22 : decode cX5_countReachedFrom 22 = .ok (.iaload, 1) := by decide +kernel
theorem dX5_countReachedFrom_23 : decode cX5_countReachedFrom 23 = .ok (.ldc 62, 2) := by decide +kernel
theorem dX5_countReachedFrom_25 : decode cX5_countReachedFrom 25 = .ok (.if_icmp .ge 6, 3) := by decide +kernel
theorem dX5_countReachedFrom_28 : decode cX5_countReachedFrom 28 = .ok (.iinc 2 1, 3) := by decide +kernel
theorem dX5_countReachedFrom_31 : decode cX5_countReachedFrom 31 = .ok (.iinc 3 1, 3) := by decide +kernel
theorem dX5_countReachedFrom_34 : decode cX5_countReachedFrom 34 = .ok (.goto (-30), 3) := by decide +kernel
theorem dX5_countReachedFrom_37 : decode cX5_countReachedFrom 37 = .ok (.iload_n 2, 1) := by decide +kernel
theorem dX5_countReachedFrom_38 : decode cX5_countReachedFrom 38 = .ok (.ireturn, 1) := by decide +kernel
theorem dX5_leavesLessKnots_0 : decode cX5_leavesLessKnots 0 = .ok (.iconst 0, 1) := by decide +kernel
theorem dX5_leavesLessKnots_1 : decode cX5_leavesLessKnots 1 = .ok (.istore_n 1, 1) := by decide +kernel
theorem dX5_leavesLessKnots_2 : decode cX5_leavesLessKnots 2 = .ok (.iconst 0, 1) := by decide +kernel
theorem dX5_leavesLessKnots_3 : decode cX5_leavesLessKnots 3 = .ok (.istore_n 2, 1) := by decide +kernel
theorem dX5_leavesLessKnots_4 : decode cX5_leavesLessKnots 4 = .ok (.iconst 0, 1) := by decide +kernel
theorem dX5_leavesLessKnots_5 : decode cX5_leavesLessKnots 5 = .ok (.istore_n 3, 1) := by decide +kernel
theorem dX5_leavesLessKnots_6 : decode cX5_leavesLessKnots 6 = .ok (.iload_n 3, 1) := by decide +kernel
theorem dX5_leavesLessKnots_7 : decode cX5_leavesLessKnots 7 = .ok (.aload_n 0, 1) := by decide +kernel
theorem dX5_leavesLessKnots_8 : decode cX5_leavesLessKnots 8 = .ok (.getfield 9, 3) := by decide +kernel
theorem dX5_leavesLessKnots_11 : decode cX5_leavesLessKnots 11 = .ok (.if_icmp .ge 29, 3) := by decide +kernel
theorem dX5_leavesLessKnots_14 : decode cX5_leavesLessKnots 14 = .ok (.aload_n 0, 1) := by decide +kernel
theorem dX5_leavesLessKnots_15 : decode cX5_leavesLessKnots 15 = .ok (.iload_n 3, 1) := by decide +kernel
theorem dX5_leavesLessKnots_16 : decode cX5_leavesLessKnots 16 = .ok (.invokevirtual 92, 3) := by decide +kernel
theorem dX5_leavesLessKnots_19 : decode cX5_leavesLessKnots 19 = .ok (.iconst 1, 1) := by decide +kernel
theorem dX5_leavesLessKnots_20 : decode cX5_leavesLessKnots 20 = .ok (.if_icmp .ne 14, 3) := by decide +kernel
theorem dX5_leavesLessKnots_23 : decode cX5_leavesLessKnots 23 = .ok (.iinc 1 1, 3) := by decide +kernel
theorem dX5_leavesLessKnots_26 : decode cX5_leavesLessKnots 26 = .ok (.iload_n 2, 1) := by decide +kernel
theorem dX5_leavesLessKnots_27 : decode cX5_leavesLessKnots 27 = .ok (.aload_n 0, 1) := by decide +kernel
theorem dX5_leavesLessKnots_28 : decode cX5_leavesLessKnots 28 = .ok (.iload_n 3, 1) := by decide +kernel
theorem dX5_leavesLessKnots_29 : decode cX5_leavesLessKnots 29 = .ok (.invokevirtual 95, 3) := by decide +kernel
theorem dX5_leavesLessKnots_32 : decode cX5_leavesLessKnots 32 = .ok (.ior, 1) := by decide +kernel
theorem dX5_leavesLessKnots_33 : decode cX5_leavesLessKnots 33 = .ok (.istore_n 2, 1) := by decide +kernel
theorem dX5_leavesLessKnots_34 : decode cX5_leavesLessKnots 34 = .ok (.iinc 3 1, 3) := by decide +kernel
theorem dX5_leavesLessKnots_37 : decode cX5_leavesLessKnots 37 = .ok (.goto (-31), 3) := by decide +kernel
theorem dX5_leavesLessKnots_40 : decode cX5_leavesLessKnots 40 = .ok (.iload_n 1, 1) := by decide +kernel
theorem dX5_leavesLessKnots_41 : decode cX5_leavesLessKnots 41 = .ok (.ifCond .le 11, 3) := by decide +kernel
theorem dX5_leavesLessKnots_44 : decode cX5_leavesLessKnots 44 = .ok (.iload_n 2, 1) := by decide +kernel
theorem dX5_leavesLessKnots_45 : decode cX5_leavesLessKnots 45 = .ok (.ifCond .ne 7, 3) := by decide +kernel
theorem dX5_leavesLessKnots_48 : decode cX5_leavesLessKnots 48 = .ok (.iconst 1, 1) := by decide +kernel
theorem dX5_leavesLessKnots_49 : decode cX5_leavesLessKnots 49 = .ok (.goto 4, 3) := by decide +kernel
theorem dX5_leavesLessKnots_52 : decode cX5_leavesLessKnots 52 = .ok (.iconst 0, 1) := by decide +kernel
theorem dX5_leavesLessKnots_53 : decode cX5_leavesLessKnots 53 = .ok (.istore_n 3, 1) := by decide +kernel
theorem dX5_leavesLessKnots_54 : decode cX5_leavesLessKnots 54 = .ok (.iload_n 3, 1) := by decide +kernel
theorem dX5_leavesLessKnots_55 : decode cX5_leavesLessKnots 55 = .ok (.ifCond .eq 7, 3) := by decide +kernel
theorem dX5_leavesLessKnots_58 : decode cX5_leavesLessKnots 58 = .ok (.iconst 1, 1) := by decide +kernel
theorem dX5_leavesLessKnots_59 : decode cX5_leavesLessKnots 59 = .ok (.goto 9, 3) := by decide +kernel
theorem dX5_leavesLessKnots_62 : decode cX5_leavesLessKnots 62 = .ok (.iload_n 1, 1) := by decide +kernel
theorem dX5_leavesLessKnots_63 : decode cX5_leavesLessKnots 63 = .ok (.iload_n 2, 1) := by decide +kernel
theorem dX5_leavesLessKnots_64 : decode cX5_leavesLessKnots 64 = .ok (.invokestatic 87, 3) := by decide +kernel
theorem dX5_leavesLessKnots_67 : decode cX5_leavesLessKnots 67 = .ok (.isub, 1) := by decide +kernel
theorem dX5_leavesLessKnots_68 : decode cX5_leavesLessKnots 68 = .ok (.ireturn, 1) := by decide +kernel
theorem dX5_knotOfLeaf_0 : decode cX5_knotOfLeaf 0 = .ok (.iconst 1, 1) := by decide +kernel
theorem dX5_knotOfLeaf_1 : decode cX5_knotOfLeaf 1 = .ok (.iload_n 1, 1) := by decide +kernel
theorem dX5_knotOfLeaf_2 : decode cX5_knotOfLeaf 2 = .ok (.ishl, 1) := by decide +kernel
theorem dX5_knotOfLeaf_3 : decode cX5_knotOfLeaf 3 = .ok (.istore_n 2, 1) := by decide +kernel
theorem dX5_knotOfLeaf_4 : decode cX5_knotOfLeaf 4 = .ok (.aload_n 0, 1) := by decide +kernel
theorem dX5_knotOfLeaf_5 : decode cX5_knotOfLeaf 5 = .ok (.getfield 15, 3) := by decide +kernel
theorem dX5_knotOfLeaf_8 : decode cX5_knotOfLeaf 8 = .ok (.iload_n 1, 1) := by decide +kernel
theorem dX5_knotOfLeaf_9 : decode cX5_knotOfLeaf 9 = .ok (.iaload, 1) := by decide +kernel
theorem dX5_knotOfLeaf_10 : decode cX5_knotOfLeaf 10 = .ok (.istore_n 3, 1) := by decide +kernel
theorem dX5_knotOfLeaf_11 : decode cX5_knotOfLeaf 11 = .ok (.iconst 0, 1) := by decide +kernel
theorem dX5_knotOfLeaf_12 : decode cX5_knotOfLeaf 12 = .ok (.istore 4, 2) := by decide +kernel
theorem dX5_knotOfLeaf_14 : decode cX5_knotOfLeaf 14 = .ok (.iload 4, 2) := by decide +kernel
theorem dX5_knotOfLeaf_16 : decode cX5_knotOfLeaf 16 = .ok (.aload_n 0, 1) := by decide +kernel
theorem dX5_knotOfLeaf_17 : decode cX5_knotOfLeaf 17 = .ok (.getfield 9, 3) := by decide +kernel
theorem dX5_knotOfLeaf_20 : decode cX5_knotOfLeaf 20 = .ok (.if_icmp .ge 56, 3) := by decide +kernel
theorem dX5_knotOfLeaf_23 : decode cX5_knotOfLeaf 23 = .ok (.iload_n 3, 1) := by decide +kernel
theorem dX5_knotOfLeaf_24 : decode cX5_knotOfLeaf 24 = .ok (.invokestatic 98, 3) := by decide +kernel
theorem dX5_knotOfLeaf_27 : decode cX5_knotOfLeaf 27 = .ok (.istore 5, 2) := by decide +kernel
theorem dX5_knotOfLeaf_29 : decode cX5_knotOfLeaf 29 = .ok (.iload 5, 2) := by decide +kernel
theorem dX5_knotOfLeaf_31 : decode cX5_knotOfLeaf 31 = .ok (.aload_n 0, 1) := by decide +kernel
theorem dX5_knotOfLeaf_32 : decode cX5_knotOfLeaf 32 = .ok (.getfield 9, 3) := by decide +kernel
theorem dX5_knotOfLeaf_35 : decode cX5_knotOfLeaf 35 = .ok (.if_icmp .lt 5, 3) := by decide +kernel
theorem dX5_knotOfLeaf_38 : decode cX5_knotOfLeaf 38 = .ok (.iconst 0, 1) := by decide +kernel
theorem dX5_knotOfLeaf_39 : decode cX5_knotOfLeaf 39 = .ok (.ireturn, 1) := by decide +kernel
theorem dX5_knotOfLeaf_40 : decode cX5_knotOfLeaf 40 = .ok (.aload_n 0, 1) := by decide +kernel
theorem dX5_knotOfLeaf_41 : decode cX5_knotOfLeaf 41 = .ok (.iload 5, 2) := by decide +kernel
theorem dX5_knotOfLeaf_43 : decode cX5_knotOfLeaf 43 = .ok (.invokevirtual 92, 3) := by decide +kernel
theorem dX5_knotOfLeaf_46 : decode cX5_knotOfLeaf 46 = .ok (.iconst 3, 1) := by decide +kernel
theorem dX5_knotOfLeaf_47 : decode cX5_knotOfLeaf 47 = .ok (.if_icmp .lt 5, 3) := by decide +kernel
theorem dX5_knotOfLeaf_50 : decode cX5_knotOfLeaf 50 = .ok (.iload_n 3, 1) := by decide +kernel
theorem dX5_knotOfLeaf_51 : decode cX5_knotOfLeaf 51 = .ok (.ireturn, 1) := by decide +kernel
theorem dX5_knotOfLeaf_52 : decode cX5_knotOfLeaf 52 = .ok (.aload_n 0, 1) := by decide +kernel
theorem dX5_knotOfLeaf_53 : decode cX5_knotOfLeaf 53 = .ok (.getfield 15, 3) := by decide +kernel
theorem dX5_knotOfLeaf_56 : decode cX5_knotOfLeaf 56 = .ok (.iload 5, 2) := by decide +kernel
theorem dX5_knotOfLeaf_58 : decode cX5_knotOfLeaf 58 = .ok (.iaload, 1) := by decide +kernel
theorem dX5_knotOfLeaf_59 : decode cX5_knotOfLeaf 59 = .ok (.iload_n 2, 1) := by decide +kernel
theorem dX5_knotOfLeaf_60 : decode cX5_knotOfLeaf 60 = .ok (.iconst (-1), 1) := by decide +kernel
theorem dX5_knotOfLeaf_61 : decode cX5_knotOfLeaf 61 = .ok (.ixor, 1) := by decide +kernel
theorem dX5_knotOfLeaf_62 : decode cX5_knotOfLeaf 62 = .ok (.iand, 1) := by decide +kernel
theorem dX5_knotOfLeaf_63 : decode cX5_knotOfLeaf 63 = .ok (.istore 6, 2) := by decide +kernel
theorem dX5_knotOfLeaf_65 : decode cX5_knotOfLeaf 65 = .ok (.iload_n 3, 1) := by decide +kernel
theorem dX5_knotOfLeaf_66 : decode cX5_knotOfLeaf 66 = .ok (.istore_n 2, 1) := by decide +kernel
theorem dX5_knotOfLeaf_67 : decode cX5_knotOfLeaf 67 = .ok (.iload 6, 2) := by decide +kernel
theorem dX5_knotOfLeaf_69 : decode cX5_knotOfLeaf 69 = .ok (.istore_n 3, 1) := by decide +kernel
theorem dX5_knotOfLeaf_70 : decode cX5_knotOfLeaf 70 = .ok (.iinc 4 1, 3) := by decide +kernel
theorem dX5_knotOfLeaf_73 : decode cX5_knotOfLeaf 73 = .ok (.goto (-59), 3) := by decide +kernel
theorem dX5_knotOfLeaf_76 : decode cX5_knotOfLeaf 76 = .ok (.iconst 0, 1) := by decide +kernel
theorem dX5_knotOfLeaf_77 : decode cX5_knotOfLeaf 77 = .ok (.ireturn, 1) := by decide +kernel
theorem dX5_areTwins_0 : decode cX5_areTwins 0 = .ok (.iload_n 1, 1) := by decide +kernel
theorem dX5_areTwins_1 : decode cX5_areTwins 1 = .ok (.iload_n 2, 1) := by decide +kernel
theorem dX5_areTwins_2 : decode cX5_areTwins 2 = .ok (.if_icmp .eq 25, 3) := by decide +kernel
theorem dX5_areTwins_5 : decode cX5_areTwins 5 = .ok (.aload_n 0, 1) := by decide +kernel
theorem dX5_areTwins_6 : decode cX5_areTwins 6 = .ok (.getfield 25, 3) := by decide +kernel
theorem dX5_areTwins_9 : decode cX5_areTwins 9 = .ok (.bipush 16, 2) := by decide +kernel
theorem dX5_areTwins_11 : decode cX5_areTwins 11 = .ok (.iload_n 1, 1) := by decide +kernel
theorem dX5_areTwins_12 : decode cX5_areTwins 12 = .ok (.iload_n 2, 1) := by decide +kernel
theorem dX5_areTwins_13 : decode cX5_areTwins 13 = .ok (.invokestatic 101, 3) := by decide +kernel
theorem dX5_areTwins_16 : decode cX5_areTwins 16 = .ok (.imul, 1) := by decide +kernel
theorem dX5_areTwins_17 : decode cX5_areTwins 17 = .ok (.iload_n 1, 1) := by decide +kernel
theorem dX5_areTwins_18 : decode cX5_areTwins 18 = .ok (.iload_n 2, 1) := by decide +kernel
theorem dX5_areTwins_19 : decode cX5_areTwins 19 = .ok (.invokestatic 106, 3) := by decide +kernel
theorem dX5_areTwins_22 : decode cX5_areTwins 22 = .ok (.iadd, 1) := by decide +kernel
theorem dX5_areTwins_23 : decode cX5_areTwins 23 = .ok (.iaload, 1) := by decide +kernel
theorem dX5_areTwins_24 : decode cX5_areTwins 24 = .ok (.ifCond .ne 7, 3) := by decide +kernel
theorem dX5_areTwins_27 : decode cX5_areTwins 27 = .ok (.iconst 1, 1) := by decide +kernel
theorem dX5_areTwins_28 : decode cX5_areTwins 28 = .ok (.goto 4, 3) := by decide +kernel
theorem dX5_areTwins_31 : decode cX5_areTwins 31 = .ok (.iconst 0, 1) := by decide +kernel
theorem dX5_areTwins_32 : decode cX5_areTwins 32 = .ok (.ireturn, 1) := by decide +kernel
theorem dX5_twinPair_0 : decode cX5_twinPair 0 = .ok (.iconst 0, 1) := by decide +kernel
theorem dX5_twinPair_1 : decode cX5_twinPair 1 = .ok (.istore_n 2, 1) := by decide +kernel
theorem dX5_twinPair_2 : decode cX5_twinPair 2 = .ok (.iconst 0, 1) := by decide +kernel
theorem dX5_twinPair_3 : decode cX5_twinPair 3 = .ok (.istore_n 3, 1) := by decide +kernel
theorem dX5_twinPair_4 : decode cX5_twinPair 4 = .ok (.iload_n 3, 1) := by decide +kernel
theorem dX5_twinPair_5 : decode cX5_twinPair 5 = .ok (.aload_n 0, 1) := by decide +kernel
theorem dX5_twinPair_6 : decode cX5_twinPair 6 = .ok (.getfield 9, 3) := by decide +kernel
theorem dX5_twinPair_9 : decode cX5_twinPair 9 = .ok (.if_icmp .ge 55, 3) := by decide +kernel
theorem dX5_twinPair_12 : decode cX5_twinPair 12 = .ok (.iload_n 3, 1) := by decide +kernel
theorem dX5_twinPair_13 : decode cX5_twinPair 13 = .ok (.iconst 1, 1) := by decide +kernel
theorem dX5_twinPair_14 : decode cX5_twinPair 14 = .ok (.iadd, 1) := by decide +kernel
theorem dX5_twinPair_15 : decode cX5_twinPair 15 = .ok (.istore 4, 2) := by decide +kernel
theorem dX5_twinPair_17 : decode cX5_twinPair 17 = .ok (.iload 4, 2) := by decide +kernel
theorem dX5_twinPair_19 : decode cX5_twinPair 19 = .ok (.aload_n 0, 1) := by decide +kernel
theorem dX5_twinPair_20 : decode cX5_twinPair 20 = .ok (.getfield 9, 3) := by decide +kernel
theorem dX5_twinPair_23 : decode cX5_twinPair 23 = .ok (.if_icmp .ge 35, 3) := by decide +kernel
theorem dX5_twinPair_26 : decode cX5_twinPair 26 = .ok (.aload_n 0, 1) := by decide +kernel
theorem dX5_twinPair_27 : decode cX5_twinPair 27 = .ok (.iload_n 3, 1) := by decide +kernel
theorem dX5_twinPair_28 : decode cX5_twinPair 28 = .ok (.iload 4, 2) := by decide +kernel
theorem dX5_twinPair_30 : decode cX5_twinPair 30 = .ok (.invokevirtual 109, 3) := by decide +kernel
theorem dX5_twinPair_33 : decode cX5_twinPair 33 = .ok (.ifCond .eq 19, 3) := by decide +kernel
theorem dX5_twinPair_36 : decode cX5_twinPair 36 = .ok (.iload_n 2, 1) := by decide +kernel
theorem dX5_twinPair_37 : decode cX5_twinPair 37 = .ok (.iload_n 1, 1) := by decide +kernel
theorem dX5_twinPair_38 : decode cX5_twinPair 38 = .ok (.if_icmp .ne 11, 3) := by decide +kernel
theorem dX5_twinPair_41 : decode cX5_twinPair 41 = .ok (.bipush 16, 2) := by decide +kernel
theorem dX5_twinPair_43 : decode cX5_twinPair 43 = .ok (.iload_n 3, 1) := by decide +kernel
theorem dX5_twinPair_44 : decode cX5_twinPair 44 = .ok (.imul, 1) := by decide +kernel
theorem dX5_twinPair_45 : decode cX5_twinPair 45 = .ok (.iload 4, 2) := by decide +kernel
theorem dX5_twinPair_47 : decode cX5_twinPair 47 = .ok (.iadd, 1) := by decide +kernel
theorem dX5_twinPair_48 : decode cX5_twinPair 48 = .ok (.ireturn, 1) := by decide +kernel
theorem dX5_twinPair_49 : decode cX5_twinPair 49 = .ok (.iinc 2 1, 3) := by decide +kernel
theorem dX5_twinPair_52 : decode cX5_twinPair 52 = .ok (.iinc 4 1, 3) := by decide +kernel
theorem dX5_twinPair_55 : decode cX5_twinPair 55 = .ok (.goto (-38), 3) := by decide +kernel
theorem dX5_twinPair_58 : decode cX5_twinPair 58 = .ok (.iinc 3 1, 3) := by decide +kernel
theorem dX5_twinPair_61 : decode cX5_twinPair 61 = .ok (.goto (-57), 3) := by decide +kernel
theorem dX5_twinPair_64 : decode cX5_twinPair 64 = .ok (.iconst (-1), 1) := by decide +kernel
theorem dX5_twinPair_65 : decode cX5_twinPair 65 = .ok (.ireturn, 1) := by decide +kernel
theorem dX5_pairLacks_0 : decode cX5_pairLacks 0 = .ok (.aload_n 0, 1) := by decide +kernel
theorem dX5_pairLacks_1 : decode cX5_pairLacks 1 = .ok (.getfield 25, 3) := by decide +kernel
theorem dX5_pairLacks_4 : decode cX5_pairLacks 4 = .ok (.bipush 16, 2) := by decide +kernel
theorem dX5_pairLacks_6 : decode cX5_pairLacks 6 = .ok (.iload_n 1, 1) := by decide +kernel
theorem dX5_pairLacks_7 : decode cX5_pairLacks 7 = .ok (.imul, 1) := by decide +kernel
theorem dX5_pairLacks_8 : decode cX5_pairLacks 8 = .ok (.iload_n 2, 1) := by decide +kernel
theorem dX5_pairLacks_9 : decode cX5_pairLacks 9 = .ok (.iadd, 1) := by decide +kernel
theorem dX5_pairLacks_10 : decode cX5_pairLacks 10 = .ok (.iaload, 1) := by decide +kernel
theorem dX5_pairLacks_11 : decode cX5_pairLacks 11 = .ok (.istore 5, 2) := by decide +kernel
theorem dX5_pairLacks_13 : decode cX5_pairLacks 13 = .ok (.iload 5, 2) := by decide +kernel
theorem dX5_pairLacks_15 : decode cX5_pairLacks 15 = .ok (.ifCond .eq 19, 3) := by decide +kernel
theorem dX5_pairLacks_18 : decode cX5_pairLacks 18 = .ok (.iload_n 3, 1) := by decide +kernel
theorem dX5_pairLacks_19 : decode cX5_pairLacks 19 = .ok (.iload 5, 2) := by decide +kernel
theorem dX5_pairLacks_21 : decode cX5_pairLacks 21 = .ok (.iand, 1) := by decide +kernel
theorem dX5_pairLacks_22 : decode cX5_pairLacks 22 = .ok (.invokestatic 87, 3) := by decide +kernel
theorem dX5_pairLacks_25 : decode cX5_pairLacks 25 = .ok (.iload 4, 2) := by decide +kernel
theorem dX5_pairLacks_27 : decode cX5_pairLacks 27 = .ok (.if_icmp .ge 7, 3) := by decide +kernel
theorem dX5_pairLacks_30 : decode cX5_pairLacks 30 = .ok (.iconst 1, 1) := by decide +kernel
theorem dX5_pairLacks_31 : decode cX5_pairLacks 31 = .ok (.goto 4, 3) := by decide +kernel
theorem dX5_pairLacks_34 : decode cX5_pairLacks 34 = .ok (.iconst 0, 1) := by decide +kernel
theorem dX5_pairLacks_35 : decode cX5_pairLacks 35 = .ok (.ireturn, 1) := by decide +kernel
theorem dX5_firstPairLacking_0 : decode cX5_firstPairLacking 0 = .ok (.iconst 0, 1) := by decide +kernel
theorem dX5_firstPairLacking_1 : decode cX5_firstPairLacking 1 = .ok (.istore_n 3, 1) := by decide +kernel
theorem dX5_firstPairLacking_2 : decode cX5_firstPairLacking 2 = .ok (.iload_n 3, 1) := by decide +kernel
theorem dX5_firstPairLacking_3 : decode cX5_firstPairLacking 3 = .ok (.aload_n 0, 1) := by decide +kernel
theorem dX5_firstPairLacking_4 : decode cX5_firstPairLacking 4 = .ok (.getfield 9, 3) := by decide +kernel
theorem dX5_firstPairLacking_7 : decode cX5_firstPairLacking 7 = .ok (.if_icmp .ge 49, 3) := by decide +kernel
theorem dX5_firstPairLacking_10 : decode cX5_firstPairLacking 10 = .ok (.iload_n 3, 1) := by decide +kernel
theorem dX5_firstPairLacking_11 : decode cX5_firstPairLacking 11 = .ok (.iconst 1, 1) := by decide +kernel
theorem dX5_firstPairLacking_12 : decode cX5_firstPairLacking 12 = .ok (.iadd, 1) := by decide +kernel
theorem dX5_firstPairLacking_13 : decode cX5_firstPairLacking 13 = .ok (.istore 4, 2) := by decide +kernel
theorem dX5_firstPairLacking_15 : decode cX5_firstPairLacking 15 = .ok (.iload 4, 2) := by decide +kernel
theorem dX5_firstPairLacking_17 : decode cX5_firstPairLacking 17 = .ok (.aload_n 0, 1) := by decide +kernel
theorem dX5_firstPairLacking_18 : decode cX5_firstPairLacking 18 = .ok (.getfield 9, 3) := by decide +kernel
theorem dX5_firstPairLacking_21 : decode cX5_firstPairLacking 21 = .ok (.if_icmp .ge 29, 3) := by decide +kernel
theorem dX5_firstPairLacking_24 : decode cX5_firstPairLacking 24 = .ok (.aload_n 0, 1) := by decide +kernel
theorem dX5_firstPairLacking_25 : decode cX5_firstPairLacking 25 = .ok (.iload_n 3, 1) := by decide +kernel
theorem dX5_firstPairLacking_26 : decode cX5_firstPairLacking 26 = .ok (.iload 4, 2) := by decide +kernel
theorem dX5_firstPairLacking_28 : decode cX5_firstPairLacking 28 = .ok (.iload_n 1, 1) := by decide +kernel
theorem dX5_firstPairLacking_29 : decode cX5_firstPairLacking 29 = .ok (.iload_n 2, 1) := by decide +kernel
theorem dX5_firstPairLacking_30 : decode cX5_firstPairLacking 30 = .ok (.invokevirtual 112, 3) := by decide +kernel
theorem dX5_firstPairLacking_33 : decode cX5_firstPairLacking 33 = .ok (.ifCond .eq 11, 3) := by decide +kernel
theorem dX5_firstPairLacking_36 : decode cX5_firstPairLacking 36 = .ok (.bipush 16, 2) := by decide +kernel
theorem dX5_firstPairLacking_38 : decode cX5_firstPairLacking 38 = .ok (.iload_n 3, 1) := by decide +kernel
theorem dX5_firstPairLacking_39 : decode cX5_firstPairLacking 39 = .ok (.imul, 1) := by decide +kernel
theorem dX5_firstPairLacking_40 : decode cX5_firstPairLacking 40 = .ok (.iload 4, 2) := by decide +kernel
theorem dX5_firstPairLacking_42 : decode cX5_firstPairLacking 42 = .ok (.iadd, 1) := by decide +kernel
theorem dX5_firstPairLacking_43 : decode cX5_firstPairLacking 43 = .ok (.ireturn, 1) := by decide +kernel
theorem dX5_firstPairLacking_44 : decode cX5_firstPairLacking 44 = .ok (.iinc 4 1, 3) := by decide +kernel
theorem dX5_firstPairLacking_47 : decode cX5_firstPairLacking 47 = .ok (.goto (-32), 3) := by decide +kernel
theorem dX5_firstPairLacking_50 : decode cX5_firstPairLacking 50 = .ok (.iinc 3 1, 3) := by decide +kernel
theorem dX5_firstPairLacking_53 : decode cX5_firstPairLacking 53 = .ok (.goto (-51), 3) := by decide +kernel
theorem dX5_firstPairLacking_56 : decode cX5_firstPairLacking 56 = .ok (.iconst (-1), 1) := by decide +kernel
theorem dX5_firstPairLacking_57 : decode cX5_firstPairLacking 57 = .ok (.ireturn, 1) := by decide +kernel
theorem dX5_countPairsLacking_0 : decode cX5_countPairsLacking 0 = .ok (.iconst 0, 1) := by decide +kernel
theorem dX5_countPairsLacking_1 : decode cX5_countPairsLacking 1 = .ok (.istore_n 3, 1) := by decide +kernel
theorem dX5_countPairsLacking_2 : decode cX5_countPairsLacking 2 = .ok (.iconst 0, 1) := by decide +kernel
theorem dX5_countPairsLacking_3 : decode cX5_countPairsLacking 3 = .ok (.istore 4, 2) := by decide +kernel
theorem dX5_countPairsLacking_5 : decode cX5_countPairsLacking 5 = .ok (.iload 4, 2) := by decide +kernel
theorem dX5_countPairsLacking_7 : decode cX5_countPairsLacking 7 = .ok (.aload_n 0, 1) := by decide +kernel
theorem dX5_countPairsLacking_8 : decode cX5_countPairsLacking 8 = .ok (.getfield 9, 3) := by decide +kernel
theorem dX5_countPairsLacking_11 : decode cX5_countPairsLacking 11 = .ok (.if_icmp .ge 46, 3) := by decide +kernel
theorem dX5_countPairsLacking_14 : decode cX5_countPairsLacking 14 = .ok (.iload 4, 2) := by decide +kernel
theorem dX5_countPairsLacking_16 : decode cX5_countPairsLacking 16 = .ok (.iconst 1, 1) := by decide +kernel
theorem dX5_countPairsLacking_17 : decode cX5_countPairsLacking 17 = .ok (.iadd, 1) := by decide +kernel
theorem dX5_countPairsLacking_18 : decode cX5_countPairsLacking 18 = .ok (.istore 5, 2) := by decide +kernel
theorem dX5_countPairsLacking_20 : decode cX5_countPairsLacking 20 = .ok (.iload 5, 2) := by decide +kernel
theorem dX5_countPairsLacking_22 : decode cX5_countPairsLacking 22 = .ok (.aload_n 0, 1) := by decide +kernel
theorem dX5_countPairsLacking_23 : decode cX5_countPairsLacking 23 = .ok (.getfield 9, 3) := by decide +kernel
theorem dX5_countPairsLacking_26 : decode cX5_countPairsLacking 26 = .ok (.if_icmp .ge 25, 3) := by decide +kernel
theorem dX5_countPairsLacking_29 : decode cX5_countPairsLacking 29 = .ok (.aload_n 0, 1) := by decide +kernel
theorem dX5_countPairsLacking_30 : decode cX5_countPairsLacking 30 = .ok (.iload 4, 2) := by decide +kernel
theorem dX5_countPairsLacking_32 : decode cX5_countPairsLacking 32 = .ok (.iload 5, 2) := by decide +kernel
theorem dX5_countPairsLacking_34 : decode cX5_countPairsLacking 34 = .ok (.iload_n 1, 1) := by decide +kernel
theorem dX5_countPairsLacking_35 : decode cX5_countPairsLacking 35 = .ok (.iload_n 2, 1) := by decide +kernel
theorem dX5_countPairsLacking_36 : decode cX5_countPairsLacking 36 = .ok (.invokevirtual 112, 3) := by decide +kernel
theorem dX5_countPairsLacking_39 : decode cX5_countPairsLacking 39 = .ok (.ifCond .eq 6, 3) := by decide +kernel
theorem dX5_countPairsLacking_42 : decode cX5_countPairsLacking 42 = .ok (.iinc 3 1, 3) := by decide +kernel
theorem dX5_countPairsLacking_45 : decode cX5_countPairsLacking 45 = .ok (.iinc 5 1, 3) := by decide +kernel
theorem dX5_countPairsLacking_48 : decode cX5_countPairsLacking 48 = .ok (.goto (-28), 3) := by decide +kernel
theorem dX5_countPairsLacking_51 : decode cX5_countPairsLacking 51 = .ok (.iinc 4 1, 3) := by decide +kernel
theorem dX5_countPairsLacking_54 : decode cX5_countPairsLacking 54 = .ok (.goto (-49), 3) := by decide +kernel
theorem dX5_countPairsLacking_57 : decode cX5_countPairsLacking 57 = .ok (.iload_n 3, 1) := by decide +kernel
theorem dX5_countPairsLacking_58 : decode cX5_countPairsLacking 58 = .ok (.ireturn, 1) := by decide +kernel
theorem dX5_firstPostLacking_0 : decode cX5_firstPostLacking 0 = .ok (.iconst 0, 1) := by decide +kernel
theorem dX5_firstPostLacking_1 : decode cX5_firstPostLacking 1 = .ok (.istore_n 3, 1) := by decide +kernel
theorem dX5_firstPostLacking_2 : decode cX5_firstPostLacking 2 = .ok (.iload_n 3, 1) := by decide +kernel
theorem dX5_firstPostLacking_3 : decode cX5_firstPostLacking 3 = .ok (.aload_n 0, 1) := by decide +kernel
theorem dX5_firstPostLacking_4 : decode cX5_firstPostLacking 4 = .ok (.getfield 9, 3) := by decide +kernel
theorem dX5_firstPostLacking_7 : decode cX5_firstPostLacking 7 = .ok (.if_icmp .ge 26, 3) := by decide +kernel
theorem dX5_firstPostLacking_10 : decode cX5_firstPostLacking 10 = .ok (.iload_n 1, 1) := by decide +kernel
theorem dX5_firstPostLacking_11 : decode cX5_firstPostLacking 11 = .ok (.aload_n 0, 1) := by decide +kernel
theorem dX5_firstPostLacking_12 : decode cX5_firstPostLacking 12 = .ok (.getfield 28, 3) := by decide +kernel
theorem dX5_firstPostLacking_15 : decode cX5_firstPostLacking 15 = .ok (.iload_n 3, 1) := by decide +kernel
theorem dX5_firstPostLacking_16 : decode cX5_firstPostLacking 16 = .ok (.iaload, 1) := by decide +kernel
theorem dX5_firstPostLacking_17 : decode cX5_firstPostLacking 17 = .ok (.iand, 1) := by decide +kernel
theorem dX5_firstPostLacking_18 : decode cX5_firstPostLacking 18 = .ok (.invokestatic 87, 3) := by decide +kernel
theorem dX5_firstPostLacking_21 : decode cX5_firstPostLacking 21 = .ok (.iload_n 2, 1) := by decide +kernel
theorem dX5_firstPostLacking_22 : decode cX5_firstPostLacking 22 = .ok (.if_icmp .ge 5, 3) := by decide +kernel
theorem dX5_firstPostLacking_25 : decode cX5_firstPostLacking 25 = .ok (.iload_n 3, 1) := by decide +kernel
theorem dX5_firstPostLacking_26 : decode cX5_firstPostLacking 26 = .ok (.ireturn, 1) := by decide +kernel
theorem dX5_firstPostLacking_27 : decode cX5_firstPostLacking 27 = .ok (.iinc 3 1, 3) := by decide +kernel
theorem dX5_firstPostLacking_30 : decode cX5_firstPostLacking 30 = .ok (.goto (-28), 3) := by decide +kernel
theorem dX5_firstPostLacking_33 : decode cX5_firstPostLacking 33 = .ok (.iconst (-1), 1) := by decide +kernel
theorem dX5_firstPostLacking_34 : decode cX5_firstPostLacking 34 = .ok (.ireturn, 1) := by decide +kernel
theorem dX5_countApartPairs_0 : decode cX5_countApartPairs 0 = .ok (.aload_n 0, 1) := by decide +kernel
theorem dX5_countApartPairs_1 : decode cX5_countApartPairs 1 = .ok (.iconst (-1), 1) := by decide +kernel
theorem dX5_countApartPairs_2 : decode cX5_countApartPairs 2 = .ok (.iconst 1, 1) := by decide +kernel
theorem dX5_countApartPairs_3 : decode cX5_countApartPairs 3 = .ok (.invokevirtual 116, 3) := by decide +kernel
theorem dX5_countApartPairs_6 : decode cX5_countApartPairs 6 = .ok (.ireturn, 1) := by decide +kernel
theorem dX5_apartPair_0 : decode cX5_apartPair 0 = .ok (.aload_n 0, 1) := by decide +kernel
theorem dX5_apartPair_1 : decode cX5_apartPair 1 = .ok (.iload_n 1, 1) := by decide +kernel
theorem dX5_apartPair_2 : decode cX5_apartPair 2 = .ok (.iconst 0, 1) := by decide +kernel
theorem dX5_apartPair_3 : decode cX5_apartPair 3 = .ok (.invokevirtual 116, 3) := by decide +kernel
theorem dX5_apartPair_6 : decode cX5_apartPair 6 = .ok (.ireturn, 1) := by decide +kernel
theorem dX5_goThroughApartPairs_0 : decode cX5_goThroughApartPairs 0 = .ok (.iconst 0, 1) := by decide +kernel
theorem dX5_goThroughApartPairs_1 : decode cX5_goThroughApartPairs 1 = .ok (.istore_n 3, 1) := by decide +kernel
theorem dX5_goThroughApartPairs_2 : decode cX5_goThroughApartPairs 2 = .ok (.iconst 0, 1) := by decide +kernel
theorem dX5_goThroughApartPairs_3 : decode cX5_goThroughApartPairs 3 = .ok (.istore 4, 2) := by decide +kernel
theorem dX5_goThroughApartPairs_5 : decode cX5_goThroughApartPairs 5 = .ok (.iconst 0, 1) := by decide +kernel
theorem dX5_goThroughApartPairs_6 : decode cX5_goThroughApartPairs 6 = .ok (.istore 5, 2) := by decide +kernel
theorem dX5_goThroughApartPairs_8 : decode cX5_goThroughApartPairs 8 = .ok (.iload 5, 2) := by decide +kernel
theorem dX5_goThroughApartPairs_10 : decode cX5_goThroughApartPairs 10 = .ok (.aload_n 0, 1) := by decide +kernel
theorem dX5_goThroughApartPairs_11 : decode cX5_goThroughApartPairs 11 = .ok (.getfield 9, 3) := by decide +kernel
theorem dX5_goThroughApartPairs_14 : decode cX5_goThroughApartPairs 14 = .ok (.if_icmp .ge 80, 3) := by decide +kernel
theorem dX5_goThroughApartPairs_17 : decode cX5_goThroughApartPairs 17 = .ok (.iload 5, 2) := by decide +kernel
theorem dX5_goThroughApartPairs_19 : decode cX5_goThroughApartPairs 19 = .ok (.iconst 1, 1) := by decide +kernel
theorem dX5_goThroughApartPairs_20 : decode cX5_goThroughApartPairs 20 = .ok (.iadd, 1) := by decide +kernel
theorem dX5_goThroughApartPairs_21 : decode cX5_goThroughApartPairs 21 = .ok (.istore 6, 2) := by decide +kernel
theorem dX5_goThroughApartPairs_23 : decode cX5_goThroughApartPairs 23 = .ok (.iload 6, 2) := by decide +kernel
theorem dX5_goThroughApartPairs_25 : decode cX5_goThroughApartPairs 25 = .ok (.aload_n 0, 1) := by decide +kernel
theorem dX5_goThroughApartPairs_26 : decode cX5_goThroughApartPairs 26 = .ok (.getfield 9, 3) := by decide +kernel
theorem dX5_goThroughApartPairs_29 : decode cX5_goThroughApartPairs 29 = .ok (.if_icmp .ge 59, 3) := by decide +kernel
theorem dX5_goThroughApartPairs_32 : decode cX5_goThroughApartPairs 32 = .ok (.aload_n 0, 1) := by decide +kernel
theorem dX5_goThroughApartPairs_33 : decode cX5_goThroughApartPairs 33 = .ok (.getfield 25, 3) := by decide +kernel
theorem dX5_goThroughApartPairs_36 : decode cX5_goThroughApartPairs 36 = .ok (.bipush 16, 2) := by decide +kernel
theorem dX5_goThroughApartPairs_38 : decode cX5_goThroughApartPairs 38 = .ok (.iload 5, 2) := by decide +kernel
theorem dX5_goThroughApartPairs_40 : decode cX5_goThroughApartPairs 40 = .ok (.imul, 1) := by decide +kernel
theorem dX5_goThroughApartPairs_41 : decode cX5_goThroughApartPairs 41 = .ok (.iload 6, 2) := by decide +kernel
theorem dX5_goThroughApartPairs_43 : decode cX5_goThroughApartPairs 43 = .ok (.iadd, 1) := by decide +kernel
theorem dX5_goThroughApartPairs_44 : decode cX5_goThroughApartPairs 44 = .ok (.iaload, 1) := by decide +kernel
theorem dX5_goThroughApartPairs_45 : decode cX5_goThroughApartPairs 45 = .ok (.istore 7, 2) := by decide +kernel
theorem dX5_goThroughApartPairs_47 : decode cX5_goThroughApartPairs 47 = .ok (.iload 7, 2) := by decide +kernel
theorem dX5_goThroughApartPairs_49 : decode cX5_goThroughApartPairs 49 = .ok (.ifCond .eq 33, 3) := by decide +kernel
theorem dX5_goThroughApartPairs_52 : decode cX5_goThroughApartPairs 52 = .ok (.iload 7, 2) := by decide +kernel
theorem dX5_goThroughApartPairs_54 : decode cX5_goThroughApartPairs 54 = .ok (.iload_n 3, 1) := by decide +kernel
theorem dX5_goThroughApartPairs_55 : decode cX5_goThroughApartPairs 55 = .ok (.iand, 1) := by decide +kernel
theorem dX5_goThroughApartPairs_56 : decode cX5_goThroughApartPairs 56 = .ok (.ifCond .ne 26, 3) := by decide +kernel
theorem dX5_goThroughApartPairs_59 : decode cX5_goThroughApartPairs 59 = .ok (.iload 4, 2) := by decide +kernel
theorem dX5_goThroughApartPairs_61 : decode cX5_goThroughApartPairs 61 = .ok (.iload_n 1, 1) := by decide +kernel
theorem dX5_goThroughApartPairs_62 : decode cX5_goThroughApartPairs 62 = .ok (.if_icmp .ne 12, 3) := by decide +kernel
theorem dX5_goThroughApartPairs_65 : decode cX5_goThroughApartPairs 65 = .ok (.bipush 16, 2) := by decide +kernel
theorem dX5_goThroughApartPairs_67 : decode cX5_goThroughApartPairs 67 = .ok (.iload 5, 2) := by decide +kernel
theorem dX5_goThroughApartPairs_69 : decode cX5_goThroughApartPairs 69 = .ok (.imul, 1) := by decide +kernel
theorem dX5_goThroughApartPairs_70 : decode cX5_goThroughApartPairs 70 = .ok (.iload 6, 2) := by decide +kernel
theorem dX5_goThroughApartPairs_72 : decode cX5_goThroughApartPairs 72 = .ok (.iadd, 1) := by decide +kernel
theorem dX5_goThroughApartPairs_73 : decode cX5_goThroughApartPairs 73 = .ok (.ireturn, 1) := by decide +kernel
theorem dX5_goThroughApartPairs_74 : decode cX5_goThroughApartPairs 74 = .ok (.iload_n 3, 1) := by decide +kernel
theorem dX5_goThroughApartPairs_75 : decode cX5_goThroughApartPairs 75 = .ok (.iload 7, 2) := by decide +kernel
theorem dX5_goThroughApartPairs_77 : decode cX5_goThroughApartPairs 77 = .ok (.ior, 1) := by decide +kernel
theorem dX5_goThroughApartPairs_78 : decode cX5_goThroughApartPairs 78 = .ok (.istore_n 3, 1) := by decide +kernel
theorem dX5_goThroughApartPairs_79 : decode cX5_goThroughApartPairs 79 = .ok (.iinc 4 1, 3) := by decide +kernel
theorem dX5_goThroughApartPairs_82 : decode cX5_goThroughApartPairs 82 = .ok (.iinc 6 1, 3) := by decide +kernel
theorem dX5_goThroughApartPairs_85 : decode cX5_goThroughApartPairs 85 = .ok (.goto (-62), 3) := by decide +kernel
theorem dX5_goThroughApartPairs_88 : decode cX5_goThroughApartPairs 88 = .ok (.iinc 5 1, 3) := by decide +kernel
theorem dX5_goThroughApartPairs_91 : decode cX5_goThroughApartPairs 91 = .ok (.goto (-83), 3) := by decide +kernel
theorem dX5_goThroughApartPairs_94 : decode cX5_goThroughApartPairs 94 = .ok (.iload_n 2, 1) := by decide +kernel
theorem dX5_goThroughApartPairs_95 : decode cX5_goThroughApartPairs 95 = .ok (.ifCond .eq 8, 3) := by decide +kernel
theorem dX5_goThroughApartPairs_98 : decode cX5_goThroughApartPairs 98 = .ok (.iload 4, 2) := by decide +kernel
theorem dX5_goThroughApartPairs_100 : decode cX5_goThroughApartPairs 100 = .ok (.goto 4, 3) := by decide +kernel
theorem dX5_goThroughApartPairs_103 : decode cX5_goThroughApartPairs 103 = .ok (.iconst (-1), 1) := by decide +kernel
theorem dX5_goThroughApartPairs_104 : decode cX5_goThroughApartPairs 104 = .ok (.ireturn, 1) := by decide +kernel
theorem dX5_greedySet_0 : decode cX5_greedySet 0 = .ok (.iconst 0, 1) := by decide +kernel
theorem dX5_greedySet_1 : decode cX5_greedySet 1 = .ok (.istore_n 2, 1) := by decide +kernel
theorem dX5_greedySet_2 : decode cX5_greedySet 2 = .ok (.iconst 0, 1) := by decide +kernel
theorem dX5_greedySet_3 : decode cX5_greedySet 3 = .ok (.istore_n 3, 1) := by decide +kernel
theorem dX5_greedySet_4 : decode cX5_greedySet 4 = .ok (.iload_n 3, 1) := by decide +kernel
theorem dX5_greedySet_5 : decode cX5_greedySet 5 = .ok (.aload_n 0, 1) := by decide +kernel
theorem dX5_greedySet_6 : decode cX5_greedySet 6 = .ok (.getfield 9, 3) := by decide +kernel
theorem dX5_greedySet_9 : decode cX5_greedySet 9 = .ok (.if_icmp .ge 32, 3) := by decide +kernel
theorem dX5_greedySet_12 : decode cX5_greedySet 12 = .ok (.aload_n 0, 1) := by decide +kernel
theorem dX5_greedySet_13 : decode cX5_greedySet 13 = .ok (.iload_n 2, 1) := by decide +kernel
theorem dX5_greedySet_14 : decode cX5_greedySet 14 = .ok (.iload_n 1, 1) := by decide +kernel
theorem dX5_greedySet_15 : decode cX5_greedySet 15 = .ok (.invokevirtual 120, 3) := by decide +kernel
theorem dX5_greedySet_18 : decode cX5_greedySet 18 = .ok (.istore 4, 2) := by decide +kernel
theorem dX5_greedySet_20 : decode cX5_greedySet 20 = .ok (.iload 4, 2) := by decide +kernel
theorem dX5_greedySet_22 : decode cX5_greedySet 22 = .ok (.iconst (-1), 1) := by decide +kernel
theorem dX5_greedySet_23 : decode cX5_greedySet 23 = .ok (.if_icmp .ne 5, 3) := by decide +kernel
theorem dX5_greedySet_26 : decode cX5_greedySet 26 = .ok (.iload_n 2, 1) := by decide +kernel
theorem dX5_greedySet_27 : decode cX5_greedySet 27 = .ok (.ireturn, 1) := by decide +kernel
theorem dX5_greedySet_28 : decode cX5_greedySet 28 = .ok (.iload_n 2, 1) := by decide +kernel
theorem dX5_greedySet_29 : decode cX5_greedySet 29 = .ok (.iconst 1, 1) := by decide +kernel
theorem dX5_greedySet_30 : decode cX5_greedySet 30 = .ok (.iload 4, 2) := by decide +kernel
theorem dX5_greedySet_32 : decode cX5_greedySet 32 = .ok (.ishl, 1) := by decide +kernel
theorem dX5_greedySet_33 : decode cX5_greedySet 33 = .ok (.ior, 1) := by decide +kernel
theorem dX5_greedySet_34 : decode cX5_greedySet 34 = .ok (.istore_n 2, 1) := by decide +kernel
theorem dX5_greedySet_35 : decode cX5_greedySet 35 = .ok (.iinc 3 1, 3) := by decide +kernel
theorem dX5_greedySet_38 : decode cX5_greedySet 38 = .ok (.goto (-34), 3) := by decide +kernel
theorem dX5_greedySet_41 : decode cX5_greedySet 41 = .ok (.iload_n 2, 1) := by decide +kernel
theorem dX5_greedySet_42 : decode cX5_greedySet 42 = .ok (.ireturn, 1) := by decide +kernel
theorem dX5_markPartingMost_0 : decode cX5_markPartingMost 0 = .ok (.iconst (-1), 1) := by decide +kernel
theorem dX5_markPartingMost_1 : decode cX5_markPartingMost 1 = .ok (.istore_n 3, 1) := by decide +kernel
theorem dX5_markPartingMost_2 : decode cX5_markPartingMost 2 = .ok (.iconst 0, 1) := by decide +kernel
theorem dX5_markPartingMost_3 : decode cX5_markPartingMost 3 = .ok (.istore 4, 2) := by decide +kernel
theorem dX5_markPartingMost_5 : decode cX5_markPartingMost 5 = .ok (.iconst 0, 1) := by decide +kernel
theorem dX5_markPartingMost_6 : decode cX5_markPartingMost 6 = .ok (.istore 5, 2) := by decide +kernel
theorem dX5_markPartingMost_8 : decode cX5_markPartingMost 8 = .ok (.iload 5, 2) := by decide +kernel
theorem dX5_markPartingMost_10 : decode cX5_markPartingMost 10 = .ok (.aload_n 0, 1) := by decide +kernel
theorem dX5_markPartingMost_11 : decode cX5_markPartingMost 11 = .ok (.getfield 9, 3) := by decide +kernel
theorem dX5_markPartingMost_14 : decode cX5_markPartingMost 14 = .ok (.if_icmp .ge 42, 3) := by decide +kernel
theorem dX5_markPartingMost_17 : decode cX5_markPartingMost 17 = .ok (.iload_n 1, 1) := by decide +kernel
theorem dX5_markPartingMost_18 : decode cX5_markPartingMost 18 = .ok (.iload 5, 2) := by decide +kernel
theorem dX5_markPartingMost_20 : decode cX5_markPartingMost 20 = .ok (.ishr, 1) := by decide +kernel
theorem dX5_markPartingMost_21 : decode cX5_markPartingMost 21 = .ok (.iconst 1, 1) := by decide +kernel
theorem dX5_markPartingMost_22 : decode cX5_markPartingMost 22 = .ok (.iand, 1) := by decide +kernel
theorem dX5_markPartingMost_23 : decode cX5_markPartingMost 23 = .ok (.ifCond .ne 27, 3) := by decide +kernel
theorem dX5_markPartingMost_26 : decode cX5_markPartingMost 26 = .ok (.aload_n 0, 1) := by decide +kernel
theorem dX5_markPartingMost_27 : decode cX5_markPartingMost 27 = .ok (.iload 5, 2) := by decide +kernel
theorem dX5_markPartingMost_29 : decode cX5_markPartingMost 29 = .ok (.iload_n 1, 1) := by decide +kernel
theorem dX5_markPartingMost_30 : decode cX5_markPartingMost 30 = .ok (.iload_n 2, 1) := by decide +kernel
theorem dX5_markPartingMost_31 : decode cX5_markPartingMost 31 = .ok (.invokevirtual 123, 3) := by decide +kernel
theorem dX5_markPartingMost_34 : decode cX5_markPartingMost 34 = .ok (.istore 6, 2) := by decide +kernel
theorem dX5_markPartingMost_36 : decode cX5_markPartingMost 36 = .ok (.iload 6, 2) := by decide +kernel
theorem dX5_markPartingMost_38 : decode cX5_markPartingMost 38 = .ok (.iload 4, 2) := by decide +kernel
theorem dX5_markPartingMost_40 : decode cX5_markPartingMost 40 = .ok (.if_icmp .le 10, 3) := by decide +kernel
theorem dX5_markPartingMost_43 : decode cX5_markPartingMost 43 = .ok (.iload 6, 2) := by decide +kernel
theorem dX5_markPartingMost_45 : decode cX5_markPartingMost 45 = .ok (.istore 4, 2) := by decide +kernel
theorem dX5_markPartingMost_47 : decode cX5_markPartingMost 47 = .ok (.iload 5, 2) := by decide +kernel
theorem dX5_markPartingMost_49 : decode cX5_markPartingMost 49 = .ok (.istore_n 3, 1) := by decide +kernel
theorem dX5_markPartingMost_50 : decode cX5_markPartingMost 50 = .ok (.iinc 5 1, 3) := by decide +kernel
theorem dX5_markPartingMost_53 : decode cX5_markPartingMost 53 = .ok (.goto (-45), 3) := by decide +kernel
theorem dX5_markPartingMost_56 : decode cX5_markPartingMost 56 = .ok (.iload_n 3, 1) := by decide +kernel
theorem dX5_markPartingMost_57 : decode cX5_markPartingMost 57 = .ok (.ireturn, 1) := by decide +kernel
theorem dX5_countLackingPartedBy_0 : decode cX5_countLackingPartedBy 0 = .ok (.iconst 0, 1) := by decide +kernel
theorem dX5_countLackingPartedBy_1 : decode cX5_countLackingPartedBy 1 = .ok (.istore 4, 2) := by decide +kernel
theorem dX5_countLackingPartedBy_3 : decode cX5_countLackingPartedBy 3 = .ok (.iconst 0, 1) := by decide +kernel
theorem dX5_countLackingPartedBy_4 : decode cX5_countLackingPartedBy 4 = .ok (.istore 5, 2) := by decide +kernel
theorem dX5_countLackingPartedBy_6 : decode cX5_countLackingPartedBy 6 = .ok (.iload 5, 2) := by decide +kernel
theorem dX5_countLackingPartedBy_8 : decode cX5_countLackingPartedBy 8 = .ok (.aload_n 0, 1) := by decide +kernel
theorem dX5_countLackingPartedBy_9 : decode cX5_countLackingPartedBy 9 = .ok (.getfield 9, 3) := by decide +kernel
theorem dX5_countLackingPartedBy_12 : decode cX5_countLackingPartedBy 12 = .ok (.if_icmp .ge 79, 3) := by decide +kernel
theorem dX5_countLackingPartedBy_15 : decode cX5_countLackingPartedBy 15 = .ok (.iload 5, 2) := by decide +kernel
theorem dX5_countLackingPartedBy_17 : decode cX5_countLackingPartedBy 17 = .ok (.iconst 1, 1) := by decide +kernel
theorem dX5_countLackingPartedBy_18 : decode cX5_countLackingPartedBy 18 = .ok (.iadd, 1) := by decide +kernel
theorem dX5_countLackingPartedBy_19 : decode cX5_countLackingPartedBy 19 = .ok (.istore 6, 2) := by decide +kernel
theorem dX5_countLackingPartedBy_21 : decode cX5_countLackingPartedBy 21 = .ok (.iload 6, 2) := by decide +kernel
theorem dX5_countLackingPartedBy_23 : decode cX5_countLackingPartedBy 23 = .ok (.aload_n 0, 1) := by decide +kernel
theorem dX5_countLackingPartedBy_24 : decode cX5_countLackingPartedBy 24 = .ok (.getfield 9, 3) := by decide +kernel
theorem dX5_countLackingPartedBy_27 : decode cX5_countLackingPartedBy 27 = .ok (.if_icmp .ge 58, 3) := by decide +kernel
theorem dX5_countLackingPartedBy_30 : decode cX5_countLackingPartedBy 30 = .ok (.aload_n 0, 1) := by decide +kernel
theorem dX5_countLackingPartedBy_31 : decode cX5_countLackingPartedBy 31 = .ok (.getfield 25, 3) := by decide +kernel
theorem dX5_countLackingPartedBy_34 : decode cX5_countLackingPartedBy 34 = .ok (.bipush 16, 2) := by decide +kernel
theorem dX5_countLackingPartedBy_36 : decode cX5_countLackingPartedBy 36 = .ok (.iload 5, 2) := by decide +kernel
theorem dX5_countLackingPartedBy_38 : decode cX5_countLackingPartedBy 38 = .ok (.imul, 1) := by decide +kernel
theorem dX5_countLackingPartedBy_39 : decode cX5_countLackingPartedBy 39 = .ok (.iload 6, 2) := by decide +kernel
theorem dX5_countLackingPartedBy_41 : decode cX5_countLackingPartedBy 41 = .ok (.iadd, 1) := by decide +kernel
theorem dX5_countLackingPartedBy_42 : decode cX5_countLackingPartedBy 42 = .ok (.iaload, 1) := by decide +kernel
theorem dX5_countLackingPartedBy_43 : decode cX5_countLackingPartedBy 43 = .ok (.iload_n 1, 1) := by decide +kernel
theorem dX5_countLackingPartedBy_44 : decode cX5_countLackingPartedBy 44 = .ok (.ishr, 1) := by decide +kernel
theorem dX5_countLackingPartedBy_45 : decode cX5_countLackingPartedBy 45 = .ok (.iconst 1, 1) := by decide +kernel
theorem dX5_countLackingPartedBy_46 : decode cX5_countLackingPartedBy 46 = .ok (.iand, 1) := by decide +kernel
theorem dX5_countLackingPartedBy_47 : decode cX5_countLackingPartedBy 47 = .ok (.iconst 1, 1) := by decide +kernel
theorem dX5_countLackingPartedBy_48 : decode cX5_countLackingPartedBy 48 = .ok (.if_icmp .ne 7, 3) := by decide +kernel
theorem dX5_countLackingPartedBy_51 : decode cX5_countLackingPartedBy 51 = .ok (.iconst 1, 1) := by decide +kernel
theorem dX5_countLackingPartedBy_52 : decode cX5_countLackingPartedBy 52 = .ok (.goto 4, 3) := by decide +kernel
theorem dX5_countLackingPartedBy_55 : decode cX5_countLackingPartedBy 55 = .ok (.iconst 0, 1) := by decide +kernel
theorem dX5_countLackingPartedBy_56 : decode cX5_countLackingPartedBy 56 = .ok (.istore 7, 2) := by decide +kernel
theorem dX5_countLackingPartedBy_58 : decode cX5_countLackingPartedBy 58 = .ok (.iload 7, 2) := by decide +kernel
theorem dX5_countLackingPartedBy_60 : decode cX5_countLackingPartedBy 60 = .ok (.ifCond .eq 19, 3) := by decide +kernel
theorem dX5_countLackingPartedBy_63 : decode cX5_countLackingPartedBy 63 = .ok (.aload_n 0, 1) := by decide +kernel
theorem dX5_countLackingPartedBy_64 : decode cX5_countLackingPartedBy 64 = .ok (.iload 5, 2) := by decide +kernel
theorem dX5_countLackingPartedBy_66 : decode cX5_countLackingPartedBy 66 = .ok (.iload 6, 2) := by decide +kernel
theorem dX5_countLackingPartedBy_68 : decode cX5_countLackingPartedBy 68 = .ok (.iload_n 2, 1) := by decide +kernel
theorem dX5_countLackingPartedBy_69 : decode cX5_countLackingPartedBy 69 = .ok (.iload_n 3, 1) := by decide +kernel
theorem dX5_countLackingPartedBy_70 : decode cX5_countLackingPartedBy 70 = .ok (.invokevirtual 112, 3) := by decide +kernel
theorem dX5_countLackingPartedBy_73 : decode cX5_countLackingPartedBy 73 = .ok (.ifCond .eq 6, 3) := by decide +kernel
theorem dX5_countLackingPartedBy_76 : decode cX5_countLackingPartedBy 76 = .ok (.iinc 4 1, 3) := by decide +kernel
theorem dX5_countLackingPartedBy_79 : decode cX5_countLackingPartedBy 79 = .ok (.iinc 6 1, 3) := by decide +kernel
theorem dX5_countLackingPartedBy_82 : decode cX5_countLackingPartedBy 82 = .ok (.goto (-61), 3) := by decide +kernel
theorem dX5_countLackingPartedBy_85 : decode cX5_countLackingPartedBy 85 = .ok (.iinc 5 1, 3) := by decide +kernel
theorem dX5_countLackingPartedBy_88 : decode cX5_countLackingPartedBy 88 = .ok (.goto (-82), 3) := by decide +kernel
theorem dX5_countLackingPartedBy_91 : decode cX5_countLackingPartedBy 91 = .ok (.iload 4, 2) := by decide +kernel
theorem dX5_countLackingPartedBy_93 : decode cX5_countLackingPartedBy 93 = .ok (.ireturn, 1) := by decide +kernel
theorem dX7_init_0 : decode cX7_init 0 = .ok (.aload_n 0, 1) := by decide +kernel
theorem dX7_init_1 : decode cX7_init 1 = .ok (.invokespecial 3, 3) := by decide +kernel
theorem dX7_init_4 : decode cX7_init 4 = .ok (.aload_n 0, 1) := by decide +kernel
theorem dX7_init_5 : decode cX7_init 5 = .ok (.new 9, 3) := by decide +kernel
theorem dX7_init_8 : decode cX7_init 8 = .ok (.dup, 1) := by decide +kernel
theorem dX7_init_9 : decode cX7_init 9 = .ok (.invokespecial 11, 3) := by decide +kernel
theorem dX7_init_12 : decode cX7_init 12 = .ok (.putfield 12, 3) := by decide +kernel
theorem dX7_init_15 : decode cX7_init 15 = .ok (.aload_n 0, 1) := by decide +kernel
theorem dX7_init_16 : decode cX7_init 16 = .ok (.new 16, 3) := by decide +kernel
theorem dX7_init_19 : decode cX7_init 19 = .ok (.dup, 1) := by decide +kernel
theorem dX7_init_20 : decode cX7_init 20 = .ok (.invokespecial 18, 3) := by decide +kernel
theorem dX7_init_23 : decode cX7_init 23 = .ok (.putfield 19, 3) := by decide +kernel
theorem dX7_init_26 : decode cX7_init 26 = .ok (.aload_n 0, 1) := by decide +kernel
theorem dX7_init_27 : decode cX7_init 27 = .ok (.new 23, 3) := by decide +kernel
theorem dX7_init_30 : decode cX7_init 30 = .ok (.dup, 1) := by decide +kernel
theorem dX7_init_31 : decode cX7_init 31 = .ok (.invokespecial 25, 3) := by decide +kernel
theorem dX7_init_34 : decode cX7_init 34 = .ok (.putfield 26, 3) := by decide +kernel
theorem dX7_init_37 : decode cX7_init 37 = .ok (.aload_n 0, 1) := by decide +kernel
theorem dX7_init_38 : decode cX7_init 38 = .ok (.new 30, 3) := by decide +kernel
theorem dX7_init_41 : decode cX7_init 41 = .ok (.dup, 1) := by decide +kernel
theorem dX7_init_42 : decode cX7_init 42 = .ok (.invokespecial 32, 3) := by decide +kernel
theorem dX7_init_45 : decode cX7_init 45 = .ok (.putfield 33, 3) := by decide +kernel
theorem dX7_init_48 : decode cX7_init 48 = .ok (.aload_n 0, 1) := by decide +kernel
theorem dX7_init_49 : decode cX7_init 49 = .ok (.new 37, 3) := by decide +kernel
theorem dX7_init_52 : decode cX7_init 52 = .ok (.dup, 1) := by decide +kernel
theorem dX7_init_53 : decode cX7_init 53 = .ok (.invokespecial 39, 3) := by decide +kernel
theorem dX7_init_56 : decode cX7_init 56 = .ok (.putfield 40, 3) := by decide +kernel
theorem dX7_init_59 : decode cX7_init 59 = .ok (.aload_n 0, 1) := by decide +kernel
theorem dX7_init_60 : decode cX7_init 60 = .ok (.new 44, 3) := by decide +kernel
theorem dX7_init_63 : decode cX7_init 63 = .ok (.dup, 1) := by decide +kernel
theorem dX7_init_64 : decode cX7_init 64 = .ok (.invokespecial 46, 3) := by decide +kernel
theorem dX7_init_67 : decode cX7_init 67 = .ok (.putfield 47, 3) := by decide +kernel
theorem dX7_init_70 : decode cX7_init 70 = .ok (.aload_n 0, 1) := by decide +kernel
theorem dX7_init_71 : decode cX7_init 71 = .ok (.new 51, 3) := by decide +kernel
theorem dX7_init_74 : decode cX7_init 74 = .ok (.dup, 1) := by decide +kernel
theorem dX7_init_75 : decode cX7_init 75 = .ok (.invokespecial 53, 3) := by decide +kernel
theorem dX7_init_78 : decode cX7_init 78 = .ok (.putfield 54, 3) := by decide +kernel
theorem dX7_init_81 : decode cX7_init 81 = .ok (.aload_n 0, 1) := by decide +kernel
theorem dX7_init_82 : decode cX7_init 82 = .ok (.iconst 1, 1) := by decide +kernel
theorem dX7_init_83 : decode cX7_init 83 = .ok (.putfield 58, 3) := by decide +kernel
theorem dX7_init_86 : decode cX7_init 86 = .ok (.aload_n 0, 1) := by decide +kernel
theorem dX7_init_87 : decode cX7_init 87 = .ok (.iconst 0, 1) := by decide +kernel
theorem dX7_init_88 : decode cX7_init 88 = .ok (.putfield 62, 3) := by decide +kernel
theorem dX7_init_91 : decode cX7_init 91 = .ok (.return_, 1) := by decide +kernel
theorem dX7_post_0 : decode cX7_post 0 = .ok (.aload_n 0, 1) := by decide +kernel
theorem dX7_post_1 : decode cX7_post 1 = .ok (.getfield 12, 3) := by decide +kernel
theorem dX7_post_4 : decode cX7_post 4 = .ok (.getfield 66, 3) := by decide +kernel
theorem dX7_post_7 : decode cX7_post 7 = .ok (.bipush 16, 2) := by decide +kernel
theorem dX7_post_9 : decode cX7_post 9 = .ok (.if_icmp .lt 5, 3) := by decide +kernel
theorem dX7_post_12 : decode cX7_post 12 = .ok (.iconst (-1), 1) := by decide +kernel
theorem dX7_post_13 : decode cX7_post 13 = .ok (.ireturn, 1) := by decide +kernel
theorem dX7_post_14 : decode cX7_post 14 = .ok (.aload_n 0, 1) := by decide +kernel
theorem dX7_post_15 : decode cX7_post 15 = .ok (.invokevirtual 69, 3) := by decide +kernel
theorem dX7_post_18 : decode cX7_post 18 = .ok (.aload_n 0, 1) := by decide +kernel
theorem dX7_post_19 : decode cX7_post 19 = .ok (.getfield 12, 3) := by decide +kernel
theorem dX7_post_22 : decode cX7_post 22 = .ok (.dup, 1) := by decide +kernel
theorem dX7_post_23 : decode cX7_post 23 = .ok (.getfield 66, 3) := by decide +kernel
theorem dX7_post_26 : decode cX7_post 26 = .ok (.iconst 1, 1) := by decide +kernel
theorem dX7_post_27 : decode cX7_post 27 = .ok (.iadd, 1) := by decide +kernel
theorem dX7_post_28 : decode cX7_post 28 = .ok (.putfield 66, 3) := by decide +kernel
theorem dX7_post_31 : decode cX7_post 31 = .ok (.aload_n 0, 1) := by decide +kernel
theorem dX7_post_32 : decode cX7_post 32 = .ok (.getfield 12, 3) := by decide +kernel
theorem dX7_post_35 : decode cX7_post 35 = .ok (.getfield 66, 3) := by decide +kernel
theorem dX7_post_38 : decode cX7_post 38 = .ok (.iconst 1, 1) := by decide +kernel
theorem dX7_post_39 : decode cX7_post 39 = .ok (.isub, 1) := by decide +kernel
theorem dX7_post_40 : decode cX7_post 40 = .ok (.ireturn, 1) := by decide +kernel
theorem dX7_road_0 : decode cX7_road 0 = .ok (.aload_n 0, 1) := by decide +kernel
theorem dX7_road_1 : decode cX7_road 1 = .ok (.getfield 12, 3) := by decide +kernel
theorem dX7_road_4 : decode cX7_road 4 = .ok (.iload_n 1, 1) := by decide +kernel
theorem dX7_road_5 : decode cX7_road 5 = .ok (.iload_n 2, 1) := by decide +kernel
theorem dX7_road_6 : decode cX7_road 6 = .ok (.iload_n 3, 1) := by decide +kernel
theorem dX7_road_7 : decode cX7_road 7 = .ok (.invokevirtual 72, 3) := by decide +kernel
theorem dX7_road_10 : decode cX7_road 10 = .ok (.ifCond .ne 5, 3) := by decide +kernel
theorem dX7_road_13 : decode cX7_road 13 = .ok (.iconst 0, 1) := by decide +kernel
theorem dX7_road_14 : decode cX7_road 14 = .ok (.ireturn, 1) := by decide +kernel
theorem dX7_road_15 : decode cX7_road 15 = .ok (.aload_n 0, 1) := by decide +kernel
theorem dX7_road_16 : decode cX7_road 16 = .ok (.invokevirtual 69, 3) := by decide +kernel
theorem dX7_road_19 : decode cX7_road 19 = .ok (.aload_n 0, 1) := by decide +kernel
theorem dX7_road_20 : decode cX7_road 20 = .ok (.getfield 12, 3) := by decide +kernel
theorem dX7_road_23 : decode cX7_road 23 = .ok (.iload_n 1, 1) := by decide +kernel
theorem dX7_road_24 : decode cX7_road 24 = .ok (.iload_n 2, 1) := by decide +kernel
theorem dX7_road_25 : decode cX7_road 25 = .ok (.iload_n 3, 1) := by decide +kernel
theorem dX7_road_26 : decode cX7_road 26 = .ok (.invokevirtual 76, 3) := by decide +kernel
theorem dX7_road_29 : decode cX7_road 29 = .ok (.iconst 1, 1) := by decide +kernel
theorem dX7_road_30 : decode cX7_road 30 = .ok (.ireturn, 1) := by decide +kernel
theorem dX7_cut_0 : decode cX7_cut 0 = .ok (.aload_n 0, 1) := by decide +kernel
theorem dX7_cut_1 : decode cX7_cut 1 = .ok (.getfield 12, 3) := by decide +kernel
theorem dX7_cut_4 : decode cX7_cut 4 = .ok (.iload_n 1, 1) := by decide +kernel
theorem dX7_cut_5 : decode cX7_cut 5 = .ok (.invokevirtual 80, 3) := by decide +kernel
theorem dX7_cut_8 : decode cX7_cut 8 = .ok (.ifCond .eq 26, 3) := by decide +kernel
theorem dX7_cut_11 : decode cX7_cut 11 = .ok (.aload_n 0, 1) := by decide +kernel
theorem dX7_cut_12 : decode cX7_cut 12 = .ok (.getfield 12, 3) := by decide +kernel
theorem dX7_cut_15 : decode cX7_cut 15 = .ok (.iload_n 2, 1) := by decide +kernel
theorem dX7_cut_16 : decode cX7_cut 16 = .ok (.invokevirtual 80, 3) := by decide +kernel
theorem dX7_cut_19 : decode cX7_cut 19 = .ok (.ifCond .eq 15, 3) := by decide +kernel
theorem dX7_cut_22 : decode cX7_cut 22 = .ok (.aload_n 0, 1) := by decide +kernel
theorem dX7_cut_23 : decode cX7_cut 23 = .ok (.getfield 12, 3) := by decide +kernel
theorem dX7_cut_26 : decode cX7_cut 26 = .ok (.iload_n 1, 1) := by decide +kernel
theorem dX7_cut_27 : decode cX7_cut 27 = .ok (.iload_n 2, 1) := by decide +kernel
theorem dX7_cut_28 : decode cX7_cut 28 = .ok (.invokevirtual 84, 3) := by decide +kernel
theorem dX7_cut_31 : decode cX7_cut 31 = .ok (.ifCond .ne 5, 3) := by decide +kernel
theorem dX7_cut_34 : decode cX7_cut 34 = .ok (.iconst 0, 1) := by decide +kernel
theorem dX7_cut_35 : decode cX7_cut 35 = .ok (.ireturn, 1) := by decide +kernel
theorem dX7_cut_36 : decode cX7_cut 36 = .ok (.aload_n 0, 1) := by decide +kernel
theorem dX7_cut_37 : decode cX7_cut 37 = .ok (.invokevirtual 69, 3) := by decide +kernel
theorem dX7_cut_40 : decode cX7_cut 40 = .ok (.aload_n 0, 1) := by decide +kernel
theorem dX7_cut_41 : decode cX7_cut 41 = .ok (.getfield 12, 3) := by decide +kernel
theorem dX7_cut_44 : decode cX7_cut 44 = .ok (.iload_n 1, 1) := by decide +kernel
theorem dX7_cut_45 : decode cX7_cut 45 = .ok (.iload_n 2, 1) := by decide +kernel
theorem dX7_cut_46 : decode cX7_cut 46 = .ok (.iconst 0, 1) := by decide +kernel
theorem dX7_cut_47 : decode cX7_cut 47 = .ok (.invokevirtual 76, 3) := by decide +kernel
theorem dX7_cut_50 : decode cX7_cut 50 = .ok (.iconst 1, 1) := by decide +kernel
theorem dX7_cut_51 : decode cX7_cut 51 = .ok (.ireturn, 1) := by decide +kernel
theorem dX7_feed_0 : decode cX7_feed 0 = .ok (.aload_n 0, 1) := by decide +kernel
theorem dX7_feed_1 : decode cX7_feed 1 = .ok (.getfield 26, 3) := by decide +kernel
theorem dX7_feed_4 : decode cX7_feed 4 = .ok (.bipush 20, 2) := by decide +kernel
theorem dX7_feed_6 : decode cX7_feed 6 = .ok (.invokevirtual 88, 3) := by decide +kernel
theorem dX7_feed_9 : decode cX7_feed 9 = .ok (.ifCond .ne 5, 3) := by decide +kernel
theorem dX7_feed_12 : decode cX7_feed 12 = .ok (.iconst (-1), 1) := by decide +kernel
theorem dX7_feed_13 : decode cX7_feed 13 = .ok (.ireturn, 1) := by decide +kernel
theorem dX7_feed_14 : decode cX7_feed 14 = .ok (.aload_n 0, 1) := by decide +kernel
theorem dX7_feed_15 : decode cX7_feed 15 = .ok (.getfield 26, 3) := by decide +kernel
theorem dX7_feed_18 : decode cX7_feed 18 = .ok (.iload_n 1, 1) := by decide +kernel
theorem dX7_feed_19 : decode cX7_feed 19 = .ok (.invokevirtual 91, 3) := by decide +kernel
theorem dX7_feed_22 : decode cX7_feed 22 = .ok (.aload_n 0, 1) := by decide +kernel
theorem dX7_feed_23 : decode cX7_feed 23 = .ok (.getfield 26, 3) := by decide +kernel
theorem dX7_feed_26 : decode cX7_feed 26 = .ok (.iload_n 2, 1) := by decide +kernel
theorem dX7_feed_27 : decode cX7_feed 27 = .ok (.invokevirtual 91, 3) := by decide +kernel
theorem dX7_feed_30 : decode cX7_feed 30 = .ok (.aload_n 0, 1) := by decide +kernel
theorem dX7_feed_31 : decode cX7_feed 31 = .ok (.getfield 26, 3) := by decide +kernel
theorem dX7_feed_34 : decode cX7_feed 34 = .ok (.iload_n 3, 1) := by decide +kernel
theorem dX7_feed_35 : decode cX7_feed 35 = .ok (.invokevirtual 91, 3) := by decide +kernel
theorem dX7_feed_38 : decode cX7_feed 38 = .ok (.aload_n 0, 1) := by decide +kernel
theorem dX7_feed_39 : decode cX7_feed 39 = .ok (.getfield 26, 3) := by decide +kernel
theorem dX7_feed_42 : decode cX7_feed 42 = .ok (.iload 4, 2) := by decide +kernel
theorem dX7_feed_44 : decode cX7_feed 44 = .ok (.invokevirtual 91, 3) := by decide +kernel
theorem dX7_feed_47 : decode cX7_feed 47 = .ok (.aload_n 0, 1) := by decide +kernel
theorem dX7_feed_48 : decode cX7_feed 48 = .ok (.getfield 26, 3) := by decide +kernel
theorem dX7_feed_51 : decode cX7_feed 51 = .ok (.iload 5, 2) := by decide +kernel
theorem dX7_feed_53 : decode cX7_feed 53 = .ok (.invokevirtual 91, 3) := by decide +kernel
theorem dX7_feed_56 : decode cX7_feed 56 = .ok (.aload_n 0, 1) := by decide +kernel
theorem dX7_feed_57 : decode cX7_feed 57 = .ok (.getfield 26, 3) := by decide +kernel
theorem dX7_feed_60 : decode cX7_feed 60 = .ok (.getfield 95, 3) := by decide +kernel
theorem dX7_feed_63 : decode cX7_feed 63 = .ok (.ireturn, 1) := by decide +kernel
theorem dX7_roads_0 : decode cX7_roads 0 = .ok (.iload_n 1, 1) := by decide +kernel
theorem dX7_roads_1 : decode cX7_roads 1 = .ok (.ifCond .lt 14, 3) := by decide +kernel
theorem dX7_roads_4 : decode cX7_roads 4 = .ok (.iload_n 1, 1) := by decide +kernel
theorem dX7_roads_5 : decode cX7_roads 5 = .ok (.aload_n 0, 1) := by decide +kernel
theorem dX7_roads_6 : decode cX7_roads 6 = .ok (.getfield 26, 3) := by decide +kernel
theorem dX7_roads_9 : decode cX7_roads 9 = .ok (.getfield 95, 3) := by decide +kernel
theorem dX7_roads_12 : decode cX7_roads 12 = .ok (.if_icmp .le 5, 3) := by decide +kernel
theorem dX7_roads_15 : decode cX7_roads 15 = .ok (.iconst (-1), 1) := by decide +kernel
theorem dX7_roads_16 : decode cX7_roads 16 = .ok (.ireturn, 1) := by decide +kernel
theorem dX7_roads_17 : decode cX7_roads 17 = .ok (.iconst 0, 1) := by decide +kernel
theorem dX7_roads_18 : decode cX7_roads 18 = .ok (.istore_n 2, 1) := by decide +kernel
theorem dX7_roads_19 : decode cX7_roads 19 = .ok (.iconst 0, 1) := by decide +kernel
theorem dX7_roads_20 : decode cX7_roads 20 = .ok (.istore_n 3, 1) := by decide +kernel
theorem dX7_roads_21 : decode cX7_roads 21 = .ok (.iload_n 3, 1) := by decide +kernel
theorem dX7_roads_22 : decode cX7_roads 22 = .ok (.iconst 4, 1) := by decide +kernel
theorem dX7_roads_23 : decode cX7_roads 23 = .ok (.iadd, 1) := by decide +kernel
theorem dX7_roads_24 : decode cX7_roads 24 = .ok (.iload_n 1, 1) := by decide +kernel
theorem dX7_roads_25 : decode cX7_roads 25 = .ok (.if_icmp .gt 101, 3) := by decide +kernel
theorem dX7_roads_28 : decode cX7_roads 28 = .ok (.aload_n 0, 1) := by decide +kernel
theorem dX7_roads_29 : decode cX7_roads 29 = .ok (.getfield 26, 3) := by decide +kernel
theorem dX7_roads_32 : decode cX7_roads 32 = .ok (.iload_n 3, 1) := by decide +kernel
theorem dX7_roads_33 : decode cX7_roads 33 = .ok (.invokevirtual 98, 3) := by decide +kernel
theorem dX7_roads_36 : decode cX7_roads 36 = .ok (.istore 4, 2) := by decide +kernel
theorem dX7_roads_38 : decode cX7_roads 38 = .ok (.aload_n 0, 1) := by decide +kernel
theorem dX7_roads_39 : decode cX7_roads 39 = .ok (.getfield 26, 3) := by decide +kernel
theorem dX7_roads_42 : decode cX7_roads 42 = .ok (.iload_n 3, 1) := by decide +kernel
theorem dX7_roads_43 : decode cX7_roads 43 = .ok (.iconst 1, 1) := by decide +kernel
theorem dX7_roads_44 : decode cX7_roads 44 = .ok (.iadd, 1) := by decide +kernel
theorem dX7_roads_45 : decode cX7_roads 45 = .ok (.invokevirtual 98, 3) := by decide +kernel
theorem dX7_roads_48 : decode cX7_roads 48 = .ok (.istore 5, 2) := by decide +kernel
theorem dX7_roads_50 : decode cX7_roads 50 = .ok (.sipush 256, 3) := by decide +kernel
theorem dX7_roads_53 : decode cX7_roads 53 = .ok (.aload_n 0, 1) := by decide +kernel
theorem dX7_roads_54 : decode cX7_roads 54 = .ok (.getfield 26, 3) := by decide +kernel
theorem dX7_roads_57 : decode cX7_roads 57 = .ok (.iload_n 3, 1) := by decide +kernel
theorem dX7_roads_58 : decode cX7_roads 58 = .ok (.iconst 2, 1) := by decide +kernel
theorem dX7_roads_59 : decode cX7_roads 59 = .ok (.iadd, 1) := by decide +kernel
theorem dX7_roads_60 : decode cX7_roads 60 = .ok (.invokevirtual 98, 3) := by decide +kernel
theorem dX7_roads_63 : decode cX7_roads 63 = .ok (.imul, 1) := by decide +kernel
theorem dX7_roads_64 : decode cX7_roads 64 = .ok (.aload_n 0, 1) := by decide +kernel
theorem dX7_roads_65 : decode cX7_roads 65 = .ok (.getfield 26, 3) := by decide +kernel
theorem dX7_roads_68 : decode cX7_roads 68 = .ok (.iload_n 3, 1) := by decide +kernel
theorem dX7_roads_69 : decode cX7_roads 69 = .ok (.iconst 3, 1) := by decide +kernel
theorem dX7_roads_70 : decode cX7_roads 70 = .ok (.iadd, 1) := by decide +kernel
theorem dX7_roads_71 : decode cX7_roads 71 = .ok (.invokevirtual 98, 3) := by decide +kernel
theorem dX7_roads_74 : decode cX7_roads 74 = .ok (.iadd, 1) := by decide +kernel
theorem dX7_roads_75 : decode cX7_roads 75 = .ok (.istore 6, 2) := by decide +kernel
theorem dX7_roads_77 : decode cX7_roads 77 = .ok (.aload_n 0, 1) := by decide +kernel
theorem dX7_roads_78 : decode cX7_roads 78 = .ok (.getfield 12, 3) := by decide +kernel
theorem dX7_roads_81 : decode cX7_roads 81 = .ok (.iload 4, 2) := by decide +kernel
theorem dX7_roads_83 : decode cX7_roads 83 = .ok (.iload 5, 2) := by decide +kernel
theorem dX7_roads_85 : decode cX7_roads 85 = .ok (.iload 6, 2) := by decide +kernel
theorem dX7_roads_87 : decode cX7_roads 87 = .ok (.invokevirtual 72, 3) := by decide +kernel
theorem dX7_roads_90 : decode cX7_roads 90 = .ok (.ifCond .ne 6, 3) := by decide +kernel
theorem dX7_roads_93 : decode cX7_roads 93 = .ok (.goto 33, 3) := by decide +kernel
theorem dX7_roads_96 : decode cX7_roads 96 = .ok (.iload_n 2, 1) := by decide +kernel
theorem dX7_roads_97 : decode cX7_roads 97 = .ok (.ifCond .ne 7, 3) := by decide +kernel
theorem dX7_roads_100 : decode cX7_roads 100 = .ok (.aload_n 0, 1) := by decide +kernel
theorem dX7_roads_101 : decode cX7_roads 101 = .ok (.invokevirtual 69, 3) := by decide +kernel
theorem dX7_roads_104 : decode cX7_roads 104 = .ok (.aload_n 0, 1) := by decide +kernel
theorem dX7_roads_105 : decode cX7_roads 105 = .ok (.getfield 12, 3) := by decide +kernel
theorem dX7_roads_108 : decode cX7_roads 108 = .ok (.iload 4, 2) := by decide +kernel
theorem dX7_roads_110 : decode cX7_roads 110 = .ok (.iload 5, 2) := by decide +kernel
theorem dX7_roads_112 : decode cX7_roads 112 = .ok (.iload 6, 2) := by decide +kernel
theorem dX7_roads_114 : decode cX7_roads 114 = .ok (.invokevirtual 76, 3) := by decide +kernel
theorem dX7_roads_117 : decode cX7_roads 117 = .ok (.iinc 2 1, 3) := by decide +kernel
theorem dX7_roads_120 : decode cX7_roads 120 = .ok (.iinc 3 4, 3) := by decide +kernel
theorem dX7_roads_123 : decode cX7_roads 123 = .ok (.goto (-102), 3) := by decide +kernel
theorem dX7_roads_126 : decode cX7_roads 126 = .ok (.aload_n 0, 1) := by decide +kernel
theorem dX7_roads_127 : decode cX7_roads 127 = .ok (.getfield 26, 3) := by decide +kernel
theorem dX7_roads_130 : decode cX7_roads 130 = .ok (.iconst 0, 1) := by decide +kernel
theorem dX7_roads_131 : decode cX7_roads 131 = .ok (.putfield 95, 3) := by decide +kernel
theorem dX7_roads_134 : decode cX7_roads 134 = .ok (.iload_n 2, 1) := by decide +kernel
theorem dX7_roads_135 : decode cX7_roads 135 = .ok (.ireturn, 1) := by decide +kernel
theorem dX7_reach_0 : decode cX7_reach 0 = .ok (.aload_n 0, 1) := by decide +kernel
theorem dX7_reach_1 : decode cX7_reach 1 = .ok (.getfield 12, 3) := by decide +kernel
theorem dX7_reach_4 : decode cX7_reach 4 = .ok (.iload_n 1, 1) := by decide +kernel
theorem dX7_reach_5 : decode cX7_reach 5 = .ok (.invokevirtual 80, 3) := by decide +kernel
theorem dX7_reach_8 : decode cX7_reach 8 = .ok (.ifCond .eq 14, 3) := by decide +kernel
theorem dX7_reach_11 : decode cX7_reach 11 = .ok (.iload_n 2, 1) := by decide +kernel
theorem dX7_reach_12 : decode cX7_reach 12 = .ok (.ifCond .lt 10, 3) := by decide +kernel
theorem dX7_reach_15 : decode cX7_reach 15 = .ok (.iload_n 2, 1) := by decide +kernel
theorem dX7_reach_16 : decode cX7_reach 16 = .ok (.sipush 20000, 3) := by decide +kernel
theorem dX7_reach_19 : decode cX7_reach 19 = .ok (.if_icmp .le 5, 3) := by decide +kernel
theorem dX7_reach_22 : decode cX7_reach 22 = .ok (.iconst 0, 1) := by decide +kernel
theorem dX7_reach_23 : decode cX7_reach 23 = .ok (.ireturn, 1) := by decide +kernel
theorem dX7_reach_24 : decode cX7_reach 24 = .ok (.aload_n 0, 1) := by decide +kernel
theorem dX7_reach_25 : decode cX7_reach 25 = .ok (.invokevirtual 69, 3) := by decide +kernel
theorem dX7_reach_28 : decode cX7_reach 28 = .ok (.aload_n 0, 1) := by decide +kernel
theorem dX7_reach_29 : decode cX7_reach 29 = .ok (.getfield 12, 3) := by decide +kernel
theorem dX7_reach_32 : decode cX7_reach 32 = .ok (.getfield 102, 3) := by decide +kernel
theorem dX7_reach_35 : decode cX7_reach 35 = .ok (.iload_n 1, 1) := by decide +kernel
theorem dX7_reach_36 : decode cX7_reach 36 = .ok (.iload_n 2, 1) := by decide +kernel
theorem dX7_reach_37 : decode cX7_reach 37 = .ok (.iastore, 1) := by decide +kernel
theorem dX7_reach_38 : decode cX7_reach 38 = .ok (.iconst 1, 1) := by decide +kernel
theorem dX7_reach_39 : decode cX7_reach 39 = .ok (.ireturn, 1) := by decide +kernel
theorem dX7_price_0 : decode cX7_price 0 = .ok (.aload_n 0, 1) := by decide +kernel
theorem dX7_price_1 : decode cX7_price 1 = .ok (.getfield 12, 3) := by decide +kernel
theorem dX7_price_4 : decode cX7_price 4 = .ok (.iload_n 1, 1) := by decide +kernel
theorem dX7_price_5 : decode cX7_price 5 = .ok (.invokevirtual 80, 3) := by decide +kernel
theorem dX7_price_8 : decode cX7_price 8 = .ok (.ifCond .eq 15, 3) := by decide +kernel
theorem dX7_price_11 : decode cX7_price 11 = .ok (.iload_n 2, 1) := by decide +kernel
theorem dX7_price_12 : decode cX7_price 12 = .ok (.iconst 1, 1) := by decide +kernel
theorem dX7_price_13 : decode cX7_price 13 = .ok (.if_icmp .lt 10, 3) := by decide +kernel
theorem dX7_price_16 : decode cX7_price 16 = .ok (.iload_n 2, 1) := by decide +kernel
theorem dX7_price_17 : decode cX7_price 17 = .ok (.sipush 1000, 3) := by decide +kernel
theorem dX7_price_20 : decode cX7_price 20 = .ok (.if_icmp .le 5, 3) := by decide +kernel
theorem dX7_price_23 : decode cX7_price 23 = .ok (.iconst 0, 1) := by decide +kernel
theorem dX7_price_24 : decode cX7_price 24 = .ok (.ireturn, 1) := by decide +kernel
theorem dX7_price_25 : decode cX7_price 25 = .ok (.aload_n 0, 1) := by decide +kernel
theorem dX7_price_26 : decode cX7_price 26 = .ok (.invokevirtual 69, 3) := by decide +kernel
theorem dX7_price_29 : decode cX7_price 29 = .ok (.aload_n 0, 1) := by decide +kernel
theorem dX7_price_30 : decode cX7_price 30 = .ok (.getfield 12, 3) := by decide +kernel
theorem dX7_price_33 : decode cX7_price 33 = .ok (.getfield 106, 3) := by decide +kernel
theorem dX7_price_36 : decode cX7_price 36 = .ok (.iload_n 1, 1) := by decide +kernel
theorem dX7_price_37 : decode cX7_price 37 = .ok (.iload_n 2, 1) := by decide +kernel
theorem dX7_price_38 : decode cX7_price 38 = .ok (.iastore, 1) := by decide +kernel
theorem dX7_price_39 : decode cX7_price 39 = .ok (.iconst 1, 1) := by decide +kernel
theorem dX7_price_40 : decode cX7_price 40 = .ok (.ireturn, 1) := by decide +kernel
theorem dX7_chance_0 : decode cX7_chance 0 = .ok (.aload_n 0, 1) := by decide +kernel
theorem dX7_chance_1 : decode cX7_chance 1 = .ok (.getfield 12, 3) := by decide +kernel
theorem dX7_chance_4 : decode cX7_chance 4 = .ok (.iload_n 1, 1) := by decide +kernel
theorem dX7_chance_5 : decode cX7_chance 5 = .ok (.invokevirtual 80, 3) := by decide +kernel
theorem dX7_chance_8 : decode cX7_chance 8 = .ok (.ifCond .eq 13, 3) := by decide +kernel
theorem dX7_chance_11 : decode cX7_chance 11 = .ok (.iload_n 2, 1) := by decide +kernel
theorem dX7_chance_12 : decode cX7_chance 12 = .ok (.ifCond .lt 9, 3) := by decide +kernel
theorem dX7_chance_15 : decode cX7_chance 15 = .ok (.iload_n 2, 1) := by decide +kernel
theorem dX7_chance_16 : decode cX7_chance 16 = .ok (.bipush 100, 2) := by decide +kernel
theorem dX7_chance_18 : decode cX7_chance 18 = .ok (.if_icmp .le 5, 3) := by decide +kernel
theorem dX7_chance_21 : decode cX7_chance 21 = .ok (.iconst 0, 1) := by decide +kernel
theorem dX7_chance_22 : decode cX7_chance 22 = .ok (.ireturn, 1) := by decide +kernel
theorem dX7_chance_23 : decode cX7_chance 23 = .ok (.aload_n 0, 1) := by decide +kernel
theorem dX7_chance_24 : decode cX7_chance 24 = .ok (.invokevirtual 69, 3) := by decide +kernel
theorem dX7_chance_27 : decode cX7_chance 27 = .ok (.aload_n 0, 1) := by decide +kernel
theorem dX7_chance_28 : decode cX7_chance 28 = .ok (.getfield 12, 3) := by decide +kernel
theorem dX7_chance_31 : decode cX7_chance 31 = .ok (.getfield 109, 3) := by decide +kernel
theorem dX7_chance_34 : decode cX7_chance 34 = .ok (.iload_n 1, 1) := by decide +kernel
theorem dX7_chance_35 : decode cX7_chance 35 = .ok (.iload_n 2, 1) := by decide +kernel
theorem dX7_chance_36 : decode cX7_chance 36 = .ok (.iastore, 1) := by decide +kernel
theorem dX7_chance_37 : decode cX7_chance 37 = .ok (.iconst 1, 1) := by decide +kernel
theorem dX7_chance_38 : decode cX7_chance 38 = .ok (.ireturn, 1) := by decide +kernel
theorem dX7_rule_0 : decode cX7_rule 0 = .ok (.iload_n 1, 1) := by decide +kernel
theorem dX7_rule_1 : decode cX7_rule 1 = .ok (.iconst 3, 1) := by decide +kernel
theorem dX7_rule_2 : decode cX7_rule 2 = .ok (.if_icmp .ne 9, 3) := by decide +kernel
theorem dX7_rule_5 : decode cX7_rule 5 = .ok (.sipush 20000, 3) := by decide +kernel
theorem dX7_rule_8 : decode cX7_rule 8 = .ok (.goto 4, 3) := by decide +kernel
theorem dX7_rule_11 : decode cX7_rule 11 = .ok (.iconst 0, 1) := by decide +kernel
theorem dX7_rule_12 : decode cX7_rule 12 = .ok (.istore_n 3, 1) := by decide +kernel
theorem dX7_rule_13 : decode cX7_rule 13 = .ok (.iload_n 1, 1) := by decide +kernel
theorem dX7_rule_14 : decode cX7_rule 14 = .ok (.ifCond .lt 17, 3) := by decide +kernel
theorem dX7_rule_17 : decode cX7_rule 17 = .ok (.iload_n 1, 1) := by decide +kernel
theorem dX7_rule_18 : decode cX7_rule 18 = .ok (.iconst 4, 1) := by decide +kernel
theorem dX7_rule_19 : decode cX7_rule 19 = .ok (.if_icmp .gt 12, 3) := by decide +kernel
theorem dX7_rule_22 : decode cX7_rule 22 = .ok (.iload_n 2, 1) := by decide +kernel
theorem dX7_rule_23 : decode cX7_rule 23 = .ok (.ifCond .lt 8, 3) := by decide +kernel
theorem dX7_rule_26 : decode cX7_rule 26 = .ok (.iload_n 2, 1) := by decide +kernel
theorem dX7_rule_27 : decode cX7_rule 27 = .ok (.iload_n 3, 1) := by decide +kernel
theorem dX7_rule_28 : decode cX7_rule 28 = .ok (.if_icmp .le 5, 3) := by decide +kernel
theorem dX7_rule_31 : decode cX7_rule 31 = .ok (.iconst 0, 1) := by decide +kernel
theorem dX7_rule_32 : decode cX7_rule 32 = .ok (.ireturn, 1) := by decide +kernel
theorem dX7_rule_33 : decode cX7_rule 33 = .ok (.aload_n 0, 1) := by decide +kernel
theorem dX7_rule_34 : decode cX7_rule 34 = .ok (.invokevirtual 69, 3) := by decide +kernel
theorem dX7_rule_37 : decode cX7_rule 37 = .ok (.aload_n 0, 1) := by decide +kernel
theorem dX7_rule_38 : decode cX7_rule 38 = .ok (.getfield 12, 3) := by decide +kernel
theorem dX7_rule_41 : decode cX7_rule 41 = .ok (.iload_n 1, 1) := by decide +kernel
theorem dX7_rule_42 : decode cX7_rule 42 = .ok (.putfield 112, 3) := by decide +kernel
theorem dX7_rule_45 : decode cX7_rule 45 = .ok (.aload_n 0, 1) := by decide +kernel
theorem dX7_rule_46 : decode cX7_rule 46 = .ok (.getfield 12, 3) := by decide +kernel
theorem dX7_rule_49 : decode cX7_rule 49 = .ok (.iload_n 2, 1) := by decide +kernel
theorem dX7_rule_50 : decode cX7_rule 50 = .ok (.putfield 115, 3) := by decide +kernel
theorem dX7_rule_53 : decode cX7_rule 53 = .ok (.iconst 1, 1) := by decide +kernel
theorem dX7_rule_54 : decode cX7_rule 54 = .ok (.ireturn, 1) := by decide +kernel
theorem dX7_may_0 : decode cX7_may 0 = .ok (.iload_n 1, 1) := by decide +kernel
theorem dX7_may_1 : decode cX7_may 1 = .ok (.ifCond .lt 8, 3) := by decide +kernel
theorem dX7_may_4 : decode cX7_may 4 = .ok (.iload_n 1, 1) := by decide +kernel
theorem dX7_may_5 : decode cX7_may 5 = .ok (.iconst 3, 1) := by decide +kernel
theorem dX7_may_6 : decode cX7_may 6 = .ok (.if_icmp .le 5, 3) := by decide +kernel
theorem dX7_may_9 : decode cX7_may 9 = .ok (.iconst (-1), 1) := by decide +kernel
theorem dX7_may_10 : decode cX7_may 10 = .ok (.ireturn, 1) := by decide +kernel
theorem dX7_may_11 : decode cX7_may 11 = .ok (.aload_n 0, 1) := by decide +kernel
theorem dX7_may_12 : decode cX7_may 12 = .ok (.invokevirtual 69, 3) := by decide +kernel
theorem dX7_may_15 : decode cX7_may 15 = .ok (.aload_n 0, 1) := by decide +kernel
theorem dX7_may_16 : decode cX7_may 16 = .ok (.getfield 12, 3) := by decide +kernel
theorem dX7_may_19 : decode cX7_may 19 = .ok (.iload_n 1, 1) := by decide +kernel
theorem dX7_may_20 : decode cX7_may 20 = .ok (.putfield 118, 3) := by decide +kernel
theorem dX7_may_23 : decode cX7_may 23 = .ok (.aload_n 0, 1) := by decide +kernel
theorem dX7_may_24 : decode cX7_may 24 = .ok (.getfield 12, 3) := by decide +kernel
theorem dX7_may_27 : decode cX7_may 27 = .ok (.iload_n 2, 1) := by decide +kernel
theorem dX7_may_28 : decode cX7_may 28 = .ok (.putfield 121, 3) := by decide +kernel
theorem dX7_may_31 : decode cX7_may 31 = .ok (.aload_n 0, 1) := by decide +kernel
theorem dX7_may_32 : decode cX7_may 32 = .ok (.getfield 12, 3) := by decide +kernel
theorem dX7_may_35 : decode cX7_may 35 = .ok (.invokevirtual 124, 3) := by decide +kernel
theorem dX7_may_38 : decode cX7_may 38 = .ok (.ireturn, 1) := by decide +kernel
theorem dX7_want_0 : decode cX7_want 0 = .ok (.aload_n 0, 1) := by decide +kernel
theorem dX7_want_1 : decode cX7_want 1 = .ok (.invokevirtual 69, 3) := by decide +kernel
theorem dX7_want_4 : decode cX7_want 4 = .ok (.aload_n 0, 1) := by decide +kernel
theorem dX7_want_5 : decode cX7_want 5 = .ok (.getfield 12, 3) := by decide +kernel
theorem dX7_want_8 : decode cX7_want 8 = .ok (.iload_n 1, 1) := by decide +kernel
theorem dX7_want_9 : decode cX7_want 9 = .ok (.putfield 128, 3) := by decide +kernel
theorem dX7_want_12 : decode cX7_want 12 = .ok (.return_, 1) := by decide +kernel
theorem dX7_way_0 : decode cX7_way 0 = .ok (.aload_n 0, 1) := by decide +kernel
theorem dX7_way_1 : decode cX7_way 1 = .ok (.getfield 12, 3) := by decide +kernel
theorem dX7_way_4 : decode cX7_way 4 = .ok (.iload_n 1, 1) := by decide +kernel
theorem dX7_way_5 : decode cX7_way 5 = .ok (.invokevirtual 80, 3) := by decide +kernel
theorem dX7_way_8 : decode cX7_way 8 = .ok (.ifCond .eq 14, 3) := by decide +kernel
theorem dX7_way_11 : decode cX7_way 11 = .ok (.aload_n 0, 1) := by decide +kernel
theorem dX7_way_12 : decode cX7_way 12 = .ok (.getfield 12, 3) := by decide +kernel
theorem dX7_way_15 : decode cX7_way 15 = .ok (.iload_n 2, 1) := by decide +kernel
theorem dX7_way_16 : decode cX7_way 16 = .ok (.invokevirtual 80, 3) := by decide +kernel
theorem dX7_way_19 : decode cX7_way 19 = .ok (.ifCond .ne 5, 3) := by decide +kernel
theorem dX7_way_22 : decode cX7_way 22 = .ok (.iconst (-1), 1) := by decide +kernel
theorem dX7_way_23 : decode cX7_way 23 = .ok (.ireturn, 1) := by decide +kernel
theorem dX7_way_24 : decode cX7_way 24 = .ok (.aload_n 0, 1) := by decide +kernel
theorem dX7_way_25 : decode cX7_way 25 = .ok (.invokevirtual 131, 3) := by decide +kernel
theorem dX7_way_28 : decode cX7_way 28 = .ok (.getfield 135, 3) := by decide +kernel
theorem dX7_way_31 : decode cX7_way 31 = .ok (.bipush 16, 2) := by decide +kernel
theorem dX7_way_33 : decode cX7_way 33 = .ok (.iload_n 1, 1) := by decide +kernel
theorem dX7_way_34 : decode cX7_way 34 = .ok (.imul, 1) := by decide +kernel
theorem dX7_way_35 : decode cX7_way 35 = .ok (.iload_n 2, 1) := by decide +kernel
theorem dX7_way_36 : decode cX7_way 36 = .ok (.iadd, 1) := by decide +kernel
theorem dX7_way_37 : decode cX7_way 37 = .ok (.iaload, 1) := by decide +kernel
theorem dX7_way_38 : decode cX7_way 38 = .ok (.ireturn, 1) := by decide +kernel
theorem dX7_of_0 : decode cX7_of 0 = .ok (.aload_n 0, 1) := by decide +kernel
theorem dX7_of_1 : decode cX7_of 1 = .ok (.getfield 12, 3) := by decide +kernel
theorem dX7_of_4 : decode cX7_of 4 = .ok (.iload_n 1, 1) := by decide +kernel
theorem dX7_of_5 : decode cX7_of 5 = .ok (.invokevirtual 80, 3) := by decide +kernel
theorem dX7_of_8 : decode cX7_of 8 = .ok (.ifCond .ne 5, 3) := by decide +kernel
theorem dX7_of_11 : decode cX7_of 11 = .ok (.iconst (-1), 1) := by decide +kernel
theorem dX7_of_12 : decode cX7_of 12 = .ok (.ireturn, 1) := by decide +kernel
theorem dX7_of_13 : decode cX7_of 13 = .ok (.iload_n 2, 1) := by decide +kernel
theorem dX7_of_14 : decode cX7_of 14 = .ok (.tableswitch 98 0 5 #[38, 50, 60, 70, 80, 89], 38) := by decide +kernel
theorem dX7_of_52 : decode cX7_of 52 = .ok (.aload_n 0, 1) := by decide +kernel
theorem dX7_of_53 : decode cX7_of 53 = .ok (.getfield 12, 3) := by decide +kernel
theorem dX7_of_56 : decode cX7_of 56 = .ok (.iload_n 1, 1) := by decide +kernel
theorem dX7_of_57 : decode cX7_of 57 = .ok (.invokevirtual 138, 3) := by decide +kernel
theorem dX7_of_60 : decode cX7_of 60 = .ok (.invokestatic 141, 3) := by decide +kernel
theorem dX7_of_63 : decode cX7_of 63 = .ok (.ireturn, 1) := by decide +kernel
theorem dX7_of_64 : decode cX7_of 64 = .ok (.aload_n 0, 1) := by decide +kernel
theorem dX7_of_65 : decode cX7_of 65 = .ok (.getfield 12, 3) := by decide +kernel
theorem dX7_of_68 : decode cX7_of 68 = .ok (.getfield 102, 3) := by decide +kernel
theorem dX7_of_71 : decode cX7_of 71 = .ok (.iload_n 1, 1) := by decide +kernel
theorem dX7_of_72 : decode cX7_of 72 = .ok (.iaload, 1) := by decide +kernel
theorem dX7_of_73 : decode cX7_of 73 = .ok (.ireturn, 1) := by decide +kernel
theorem dX7_of_74 : decode cX7_of 74 = .ok (.aload_n 0, 1) := by decide +kernel
theorem dX7_of_75 : decode cX7_of 75 = .ok (.getfield 12, 3) := by decide +kernel
theorem dX7_of_78 : decode cX7_of 78 = .ok (.getfield 106, 3) := by decide +kernel
theorem dX7_of_81 : decode cX7_of 81 = .ok (.iload_n 1, 1) := by decide +kernel
theorem dX7_of_82 : decode cX7_of 82 = .ok (.iaload, 1) := by decide +kernel
theorem dX7_of_83 : decode cX7_of 83 = .ok (.ireturn, 1) := by decide +kernel
theorem dX7_of_84 : decode cX7_of 84 = .ok (.aload_n 0, 1) := by decide +kernel
theorem dX7_of_85 : decode cX7_of 85 = .ok (.getfield 12, 3) := by decide +kernel
theorem dX7_of_88 : decode cX7_of 88 = .ok (.getfield 109, 3) := by decide +kernel
theorem dX7_of_91 : decode cX7_of 91 = .ok (.iload_n 1, 1) := by decide +kernel
theorem dX7_of_92 : decode cX7_of 92 = .ok (.iaload, 1) := by decide +kernel
theorem dX7_of_93 : decode cX7_of 93 = .ok (.ireturn, 1) := by decide +kernel
theorem dX7_of_94 : decode cX7_of 94 = .ok (.aload_n 0, 1) := by decide +kernel
theorem dX7_of_95 : decode cX7_of 95 = .ok (.getfield 12, 3) := by decide +kernel
theorem dX7_of_98 : decode cX7_of 98 = .ok (.iload_n 1, 1) := by decide +kernel
theorem dX7_of_99 : decode cX7_of 99 = .ok (.invokevirtual 138, 3) := by decide +kernel
theorem dX7_of_102 : decode cX7_of 102 = .ok (.ireturn, 1) := by decide +kernel
theorem dX7_of_103 : decode cX7_of 103 = .ok (.aload_n 0, 1) := by decide +kernel
theorem dX7_of_104 : decode cX7_of 104 = .ok (.invokevirtual 131, 3) := by decide +kernel
theorem dX7_of_107 : decode cX7_of 107 = .ok (.iload_n 1, 1) := by decide +kernel
theorem dX7_of_108 : decode cX7_of 108 = .ok (.invokevirtual 146, 3) := by decide +kernel
theorem dX7_of_111 : decode cX7_of 111 = .ok (.ireturn, 1) := by decide +kernel
theorem dX7_of_112 : decode cX7_of 112 = .ok (.iconst (-1), 1) := by decide +kernel
theorem dX7_of_113 : decode cX7_of 113 = .ok (.ireturn, 1) := by decide +kernel
theorem dX7_answer_0 : decode cX7_answer 0 = .ok (.aload_n 0, 1) := by decide +kernel
theorem dX7_answer_1 : decode cX7_answer 1 = .ok (.getfield 12, 3) := by decide +kernel
theorem dX7_answer_4 : decode cX7_answer 4 = .ok (.iload_n 1, 1) := by decide +kernel
theorem dX7_answer_5 : decode cX7_answer 5 = .ok (.invokevirtual 80, 3) := by decide +kernel
theorem dX7_answer_8 : decode cX7_answer 8 = .ok (.ifCond .eq 14, 3) := by decide +kernel
theorem dX7_answer_11 : decode cX7_answer 11 = .ok (.aload_n 0, 1) := by decide +kernel
theorem dX7_answer_12 : decode cX7_answer 12 = .ok (.getfield 12, 3) := by decide +kernel
theorem dX7_answer_15 : decode cX7_answer 15 = .ok (.iload_n 2, 1) := by decide +kernel
theorem dX7_answer_16 : decode cX7_answer 16 = .ok (.invokevirtual 80, 3) := by decide +kernel
theorem dX7_answer_19 : decode cX7_answer 19 = .ok (.ifCond .ne 5, 3) := by decide +kernel
theorem dX7_answer_22 : decode cX7_answer 22 = .ok (.iconst (-1), 1) := by decide +kernel
theorem dX7_answer_23 : decode cX7_answer 23 = .ok (.ireturn, 1) := by decide +kernel
theorem dX7_answer_24 : decode cX7_answer 24 = .ok (.aload_n 0, 1) := by decide +kernel
theorem dX7_answer_25 : decode cX7_answer 25 = .ok (.invokevirtual 131, 3) := by decide +kernel
theorem dX7_answer_28 : decode cX7_answer 28 = .ok (.getfield 149, 3) := by decide +kernel
theorem dX7_answer_31 : decode cX7_answer 31 = .ok (.bipush 16, 2) := by decide +kernel
theorem dX7_answer_33 : decode cX7_answer 33 = .ok (.iload_n 1, 1) := by decide +kernel
theorem dX7_answer_34 : decode cX7_answer 34 = .ok (.imul, 1) := by decide +kernel
theorem dX7_answer_35 : decode cX7_answer 35 = .ok (.iload_n 2, 1) := by decide +kernel
theorem dX7_answer_36 : decode cX7_answer 36 = .ok (.iadd, 1) := by decide +kernel
theorem dX7_answer_37 : decode cX7_answer 37 = .ok (.iaload, 1) := by decide +kernel
theorem dX7_answer_38 : decode cX7_answer 38 = .ok (.ireturn, 1) := by decide +kernel
theorem dX7_parts_0 : decode cX7_parts 0 = .ok (.aload_n 0, 1) := by decide +kernel
theorem dX7_parts_1 : decode cX7_parts 1 = .ok (.getfield 12, 3) := by decide +kernel
theorem dX7_parts_4 : decode cX7_parts 4 = .ok (.iload_n 1, 1) := by decide +kernel
theorem dX7_parts_5 : decode cX7_parts 5 = .ok (.invokevirtual 152, 3) := by decide +kernel
theorem dX7_parts_8 : decode cX7_parts 8 = .ok (.ifCond .eq 30, 3) := by decide +kernel
theorem dX7_parts_11 : decode cX7_parts 11 = .ok (.aload_n 0, 1) := by decide +kernel
theorem dX7_parts_12 : decode cX7_parts 12 = .ok (.getfield 12, 3) := by decide +kernel
theorem dX7_parts_15 : decode cX7_parts 15 = .ok (.iload_n 2, 1) := by decide +kernel
theorem dX7_parts_16 : decode cX7_parts 16 = .ok (.invokevirtual 80, 3) := by decide +kernel
theorem dX7_parts_19 : decode cX7_parts 19 = .ok (.ifCond .eq 19, 3) := by decide +kernel
theorem dX7_parts_22 : decode cX7_parts 22 = .ok (.aload_n 0, 1) := by decide +kernel
theorem dX7_parts_23 : decode cX7_parts 23 = .ok (.getfield 12, 3) := by decide +kernel
theorem dX7_parts_26 : decode cX7_parts 26 = .ok (.iload_n 3, 1) := by decide +kernel
theorem dX7_parts_27 : decode cX7_parts 27 = .ok (.invokevirtual 80, 3) := by decide +kernel
theorem dX7_parts_30 : decode cX7_parts 30 = .ok (.ifCond .eq 8, 3) := by decide +kernel
theorem dX7_parts_33 : decode cX7_parts 33 = .ok (.iload_n 2, 1) := by decide +kernel
theorem dX7_parts_34 : decode cX7_parts 34 = .ok (.iload_n 3, 1) := by decide +kernel
theorem dX7_parts_35 : decode cX7_parts 35 = .ok (.if_icmp .ne 5, 3) := by decide +kernel
theorem dX7_parts_38 : decode cX7_parts 38 = .ok (.iconst (-1), 1) := by decide +kernel
theorem dX7_parts_39 : decode cX7_parts 39 = .ok (.ireturn, 1) := by decide +kernel
theorem dX7_parts_40 : decode cX7_parts 40 = .ok (.bipush 16, 2) := by decide +kernel
theorem dX7_parts_42 : decode cX7_parts 42 = .ok (.iload_n 2, 1) := by decide +kernel
theorem dX7_parts_43 : decode cX7_parts 43 = .ok (.iload_n 3, 1) := by decide +kernel
theorem dX7_parts_44 : decode cX7_parts 44 = .ok (.invokestatic 155, 3) := by decide +kernel
theorem dX7_parts_47 : decode cX7_parts 47 = .ok (.imul, 1) := by decide +kernel
theorem dX7_parts_48 : decode cX7_parts 48 = .ok (.iload_n 2, 1) := by decide +kernel
theorem dX7_parts_49 : decode cX7_parts 49 = .ok (.iload_n 3, 1) := by decide +kernel
theorem dX7_parts_50 : decode cX7_parts 50 = .ok (.invokestatic 161, 3) := by decide +kernel
theorem dX7_parts_53 : decode cX7_parts 53 = .ok (.iadd, 1) := by decide +kernel
theorem dX7_parts_54 : decode cX7_parts 54 = .ok (.istore 4, 2) := by decide +kernel
theorem dX7_parts_56 : decode cX7_parts 56 = .ok (.iload_n 1, 1) := by decide +kernel
theorem dX7_parts_57 : decode cX7_parts 57 = .ok (.aload_n 0, 1) := by decide +kernel
theorem dX7_parts_58 : decode cX7_parts 58 = .ok (.invokevirtual 131, 3) := by decide +kernel
theorem dX7_parts_61 : decode cX7_parts 61 = .ok (.getfield 164, 3) := by decide +kernel
theorem dX7_parts_64 : decode cX7_parts 64 = .ok (.iload 4, 2) := by decide +kernel
theorem dX7_parts_66 : decode cX7_parts 66 = .ok (.iaload, 1) := by decide +kernel
theorem dX7_parts_67 : decode cX7_parts 67 = .ok (.iand, 1) := by decide +kernel
theorem dX7_parts_68 : decode cX7_parts 68 = .ok (.invokestatic 141, 3) := by decide +kernel
theorem dX7_parts_71 : decode cX7_parts 71 = .ok (.ireturn, 1) := by decide +kernel
theorem dX7_clash_0 : decode cX7_clash 0 = .ok (.aload_n 0, 1) := by decide +kernel
theorem dX7_clash_1 : decode cX7_clash 1 = .ok (.getfield 12, 3) := by decide +kernel
theorem dX7_clash_4 : decode cX7_clash 4 = .ok (.iload_n 1, 1) := by decide +kernel
theorem dX7_clash_5 : decode cX7_clash 5 = .ok (.invokevirtual 152, 3) := by decide +kernel
theorem dX7_clash_8 : decode cX7_clash 8 = .ok (.ifCond .ne 6, 3) := by decide +kernel
theorem dX7_clash_11 : decode cX7_clash 11 = .ok (.bipush (-2), 2) := by decide +kernel
theorem dX7_clash_13 : decode cX7_clash 13 = .ok (.ireturn, 1) := by decide +kernel
theorem dX7_clash_14 : decode cX7_clash 14 = .ok (.aload_n 0, 1) := by decide +kernel
theorem dX7_clash_15 : decode cX7_clash 15 = .ok (.invokevirtual 131, 3) := by decide +kernel
theorem dX7_clash_18 : decode cX7_clash 18 = .ok (.astore_n 2, 1) := by decide +kernel
theorem dX7_clash_19 : decode cX7_clash 19 = .ok (.aload_n 2, 1) := by decide +kernel
theorem dX7_clash_20 : decode cX7_clash 20 = .ok (.iload_n 1, 1) := by decide +kernel
theorem dX7_clash_21 : decode cX7_clash 21 = .ok (.aload_n 0, 1) := by decide +kernel
theorem dX7_clash_22 : decode cX7_clash 22 = .ok (.getfield 12, 3) := by decide +kernel
theorem dX7_clash_25 : decode cX7_clash 25 = .ok (.invokevirtual 124, 3) := by decide +kernel
theorem dX7_clash_28 : decode cX7_clash 28 = .ok (.invokevirtual 167, 3) := by decide +kernel
theorem dX7_clash_31 : decode cX7_clash 31 = .ok (.istore_n 3, 1) := by decide +kernel
theorem dX7_clash_32 : decode cX7_clash 32 = .ok (.iload_n 3, 1) := by decide +kernel
theorem dX7_clash_33 : decode cX7_clash 33 = .ok (.iconst (-1), 1) := by decide +kernel
theorem dX7_clash_34 : decode cX7_clash 34 = .ok (.if_icmp .ne 13, 3) := by decide +kernel
theorem dX7_clash_37 : decode cX7_clash 37 = .ok (.aload_n 0, 1) := by decide +kernel
theorem dX7_clash_38 : decode cX7_clash 38 = .ok (.getfield 12, 3) := by decide +kernel
theorem dX7_clash_41 : decode cX7_clash 41 = .ok (.getfield 128, 3) := by decide +kernel
theorem dX7_clash_44 : decode cX7_clash 44 = .ok (.ifCond .ne 5, 3) := by decide +kernel
theorem dX7_clash_47 : decode cX7_clash 47 = .ok (.iload_n 3, 1) := by decide +kernel
theorem dX7_clash_48 : decode cX7_clash 48 = .ok (.ireturn, 1) := by decide +kernel
theorem dX7_clash_49 : decode cX7_clash 49 = .ok (.aload_n 2, 1) := by decide +kernel
theorem dX7_clash_50 : decode cX7_clash 50 = .ok (.iload_n 1, 1) := by decide +kernel
theorem dX7_clash_51 : decode cX7_clash 51 = .ok (.aload_n 0, 1) := by decide +kernel
theorem dX7_clash_52 : decode cX7_clash 52 = .ok (.getfield 12, 3) := by decide +kernel
theorem dX7_clash_55 : decode cX7_clash 55 = .ok (.invokevirtual 124, 3) := by decide +kernel
theorem dX7_clash_58 : decode cX7_clash 58 = .ok (.invokevirtual 170, 3) := by decide +kernel
theorem dX7_clash_61 : decode cX7_clash 61 = .ok (.istore 4, 2) := by decide +kernel
theorem dX7_clash_63 : decode cX7_clash 63 = .ok (.iload 4, 2) := by decide +kernel
theorem dX7_clash_65 : decode cX7_clash 65 = .ok (.iconst (-1), 1) := by decide +kernel
theorem dX7_clash_66 : decode cX7_clash 66 = .ok (.if_icmp .ne 7, 3) := by decide +kernel
theorem dX7_clash_69 : decode cX7_clash 69 = .ok (.iconst (-1), 1) := by decide +kernel
theorem dX7_clash_70 : decode cX7_clash 70 = .ok (.goto 9, 3) := by decide +kernel
theorem dX7_clash_73 : decode cX7_clash 73 = .ok (.sipush 1000, 3) := by decide +kernel
theorem dX7_clash_76 : decode cX7_clash 76 = .ok (.iload 4, 2) := by decide +kernel
theorem dX7_clash_78 : decode cX7_clash 78 = .ok (.iadd, 1) := by decide +kernel
theorem dX7_clash_79 : decode cX7_clash 79 = .ok (.ireturn, 1) := by decide +kernel
theorem dX7_twins_0 : decode cX7_twins 0 = .ok (.aload_n 0, 1) := by decide +kernel
theorem dX7_twins_1 : decode cX7_twins 1 = .ok (.invokevirtual 131, 3) := by decide +kernel
theorem dX7_twins_4 : decode cX7_twins 4 = .ok (.iload_n 1, 1) := by decide +kernel
theorem dX7_twins_5 : decode cX7_twins 5 = .ok (.invokevirtual 173, 3) := by decide +kernel
theorem dX7_twins_8 : decode cX7_twins 8 = .ok (.ireturn, 1) := by decide +kernel
theorem dX7_least_0 : decode cX7_least 0 = .ok (.aload_n 0, 1) := by decide +kernel
theorem dX7_least_1 : decode cX7_least 1 = .ok (.getfield 40, 3) := by decide +kernel
theorem dX7_least_4 : decode cX7_least 4 = .ok (.aload_n 0, 1) := by decide +kernel
theorem dX7_least_5 : decode cX7_least 5 = .ok (.getfield 12, 3) := by decide +kernel
theorem dX7_least_8 : decode cX7_least 8 = .ok (.aload_n 0, 1) := by decide +kernel
theorem dX7_least_9 : decode cX7_least 9 = .ok (.invokevirtual 131, 3) := by decide +kernel
theorem dX7_least_12 : decode cX7_least 12 = .ok (.iconst 0, 1) := by decide +kernel
theorem dX7_least_13 : decode cX7_least 13 = .ok (.invokevirtual 176, 3) := by decide +kernel
theorem dX7_least_16 : decode cX7_least 16 = .ok (.aload_n 0, 1) := by decide +kernel
theorem dX7_least_17 : decode cX7_least 17 = .ok (.invokevirtual 180, 3) := by decide +kernel
theorem dX7_least_20 : decode cX7_least 20 = .ok (.ireturn, 1) := by decide +kernel
theorem dX7_every_0 : decode cX7_every 0 = .ok (.aload_n 0, 1) := by decide +kernel
theorem dX7_every_1 : decode cX7_every 1 = .ok (.getfield 40, 3) := by decide +kernel
theorem dX7_every_4 : decode cX7_every 4 = .ok (.aload_n 0, 1) := by decide +kernel
theorem dX7_every_5 : decode cX7_every 5 = .ok (.getfield 12, 3) := by decide +kernel
theorem dX7_every_8 : decode cX7_every 8 = .ok (.aload_n 0, 1) := by decide +kernel
theorem dX7_every_9 : decode cX7_every 9 = .ok (.invokevirtual 131, 3) := by decide +kernel
theorem dX7_every_12 : decode cX7_every 12 = .ok (.iconst 0, 1) := by decide +kernel
theorem dX7_every_13 : decode cX7_every 13 = .ok (.invokevirtual 176, 3) := by decide +kernel
theorem dX7_every_16 : decode cX7_every 16 = .ok (.aload_n 0, 1) := by decide +kernel
theorem dX7_every_17 : decode cX7_every 17 = .ok (.getfield 40, 3) := by decide +kernel
theorem dX7_every_20 : decode cX7_every 20 = .ok (.getfield 183, 3) := by decide +kernel
theorem dX7_every_23 : decode cX7_every 23 = .ok (.ireturn, 1) := by decide +kernel
theorem dX7_cheapest_0 : decode cX7_cheapest 0 = .ok (.aload_n 0, 1) := by decide +kernel
theorem dX7_cheapest_1 : decode cX7_cheapest 1 = .ok (.getfield 40, 3) := by decide +kernel
theorem dX7_cheapest_4 : decode cX7_cheapest 4 = .ok (.aload_n 0, 1) := by decide +kernel
theorem dX7_cheapest_5 : decode cX7_cheapest 5 = .ok (.getfield 12, 3) := by decide +kernel
theorem dX7_cheapest_8 : decode cX7_cheapest 8 = .ok (.aload_n 0, 1) := by decide +kernel
theorem dX7_cheapest_9 : decode cX7_cheapest 9 = .ok (.invokevirtual 131, 3) := by decide +kernel
theorem dX7_cheapest_12 : decode cX7_cheapest 12 = .ok (.iconst 1, 1) := by decide +kernel
theorem dX7_cheapest_13 : decode cX7_cheapest 13 = .ok (.invokevirtual 176, 3) := by decide +kernel
theorem dX7_cheapest_16 : decode cX7_cheapest 16 = .ok (.aload_n 0, 1) := by decide +kernel
theorem dX7_cheapest_17 : decode cX7_cheapest 17 = .ok (.invokevirtual 180, 3) := by decide +kernel
theorem dX7_cheapest_20 : decode cX7_cheapest 20 = .ok (.ireturn, 1) := by decide +kernel
theorem dX7_set_0 : decode cX7_set 0 = .ok (.aload_n 0, 1) := by decide +kernel
theorem dX7_set_1 : decode cX7_set 1 = .ok (.getfield 62, 3) := by decide +kernel
theorem dX7_set_4 : decode cX7_set 4 = .ok (.ireturn, 1) := by decide +kernel
theorem dX7_shown_0 : decode cX7_shown 0 = .ok (.aload_n 0, 1) := by decide +kernel
theorem dX7_shown_1 : decode cX7_shown 1 = .ok (.invokevirtual 131, 3) := by decide +kernel
theorem dX7_shown_4 : decode cX7_shown 4 = .ok (.invokevirtual 186, 3) := by decide +kernel
theorem dX7_shown_7 : decode cX7_shown 7 = .ok (.ireturn, 1) := by decide +kernel
theorem dX7_pair_0 : decode cX7_pair 0 = .ok (.aload_n 0, 1) := by decide +kernel
theorem dX7_pair_1 : decode cX7_pair 1 = .ok (.invokevirtual 131, 3) := by decide +kernel
theorem dX7_pair_4 : decode cX7_pair 4 = .ok (.iload_n 1, 1) := by decide +kernel
theorem dX7_pair_5 : decode cX7_pair 5 = .ok (.invokevirtual 189, 3) := by decide +kernel
theorem dX7_pair_8 : decode cX7_pair 8 = .ok (.ireturn, 1) := by decide +kernel
theorem dX7_greedy_0 : decode cX7_greedy 0 = .ok (.aload_n 0, 1) := by decide +kernel
theorem dX7_greedy_1 : decode cX7_greedy 1 = .ok (.invokevirtual 131, 3) := by decide +kernel
theorem dX7_greedy_4 : decode cX7_greedy 4 = .ok (.astore_n 1, 1) := by decide +kernel
theorem dX7_greedy_5 : decode cX7_greedy 5 = .ok (.aload_n 0, 1) := by decide +kernel
theorem dX7_greedy_6 : decode cX7_greedy 6 = .ok (.getfield 12, 3) := by decide +kernel
theorem dX7_greedy_9 : decode cX7_greedy 9 = .ok (.invokevirtual 124, 3) := by decide +kernel
theorem dX7_greedy_12 : decode cX7_greedy 12 = .ok (.istore_n 2, 1) := by decide +kernel
theorem dX7_greedy_13 : decode cX7_greedy 13 = .ok (.aload_n 1, 1) := by decide +kernel
theorem dX7_greedy_14 : decode cX7_greedy 14 = .ok (.iload_n 2, 1) := by decide +kernel
theorem dX7_greedy_15 : decode cX7_greedy 15 = .ok (.invokevirtual 192, 3) := by decide +kernel
theorem dX7_greedy_18 : decode cX7_greedy 18 = .ok (.istore_n 3, 1) := by decide +kernel
theorem dX7_greedy_19 : decode cX7_greedy 19 = .ok (.aload_n 1, 1) := by decide +kernel
theorem dX7_greedy_20 : decode cX7_greedy 20 = .ok (.iload_n 3, 1) := by decide +kernel
theorem dX7_greedy_21 : decode cX7_greedy 21 = .ok (.iload_n 2, 1) := by decide +kernel
theorem dX7_greedy_22 : decode cX7_greedy 22 = .ok (.invokevirtual 195, 3) := by decide +kernel
theorem dX7_greedy_25 : decode cX7_greedy 25 = .ok (.istore 4, 2) := by decide +kernel
theorem dX7_greedy_27 : decode cX7_greedy 27 = .ok (.iload 4, 2) := by decide +kernel
theorem dX7_greedy_29 : decode cX7_greedy 29 = .ok (.ifCond .le 9, 3) := by decide +kernel
theorem dX7_greedy_32 : decode cX7_greedy 32 = .ok (.bipush (-2), 2) := by decide +kernel
theorem dX7_greedy_34 : decode cX7_greedy 34 = .ok (.iload 4, 2) := by decide +kernel
theorem dX7_greedy_36 : decode cX7_greedy 36 = .ok (.isub, 1) := by decide +kernel
theorem dX7_greedy_37 : decode cX7_greedy 37 = .ok (.ireturn, 1) := by decide +kernel
theorem dX7_greedy_38 : decode cX7_greedy 38 = .ok (.aload_n 0, 1) := by decide +kernel
theorem dX7_greedy_39 : decode cX7_greedy 39 = .ok (.iload_n 3, 1) := by decide +kernel
theorem dX7_greedy_40 : decode cX7_greedy 40 = .ok (.putfield 62, 3) := by decide +kernel
theorem dX7_greedy_43 : decode cX7_greedy 43 = .ok (.iload_n 3, 1) := by decide +kernel
theorem dX7_greedy_44 : decode cX7_greedy 44 = .ok (.invokestatic 141, 3) := by decide +kernel
theorem dX7_greedy_47 : decode cX7_greedy 47 = .ok (.ireturn, 1) := by decide +kernel
theorem dX7_word_0 : decode cX7_word 0 = .ok (.aload_n 0, 1) := by decide +kernel
theorem dX7_word_1 : decode cX7_word 1 = .ok (.getfield 12, 3) := by decide +kernel
theorem dX7_word_4 : decode cX7_word 4 = .ok (.iload_n 1, 1) := by decide +kernel
theorem dX7_word_5 : decode cX7_word 5 = .ok (.invokevirtual 80, 3) := by decide +kernel
theorem dX7_word_8 : decode cX7_word 8 = .ok (.ifCond .eq 14, 3) := by decide +kernel
theorem dX7_word_11 : decode cX7_word 11 = .ok (.aload_n 0, 1) := by decide +kernel
theorem dX7_word_12 : decode cX7_word 12 = .ok (.getfield 12, 3) := by decide +kernel
theorem dX7_word_15 : decode cX7_word 15 = .ok (.iload_n 1, 1) := by decide +kernel
theorem dX7_word_16 : decode cX7_word 16 = .ok (.invokevirtual 198, 3) := by decide +kernel
theorem dX7_word_19 : decode cX7_word 19 = .ok (.ifCond .eq 5, 3) := by decide +kernel
theorem dX7_word_22 : decode cX7_word 22 = .ok (.iconst (-1), 1) := by decide +kernel
theorem dX7_word_23 : decode cX7_word 23 = .ok (.ireturn, 1) := by decide +kernel
theorem dX7_word_24 : decode cX7_word 24 = .ok (.aload_n 0, 1) := by decide +kernel
theorem dX7_word_25 : decode cX7_word 25 = .ok (.invokevirtual 69, 3) := by decide +kernel
theorem dX7_word_28 : decode cX7_word 28 = .ok (.aload_n 0, 1) := by decide +kernel
theorem dX7_word_29 : decode cX7_word 29 = .ok (.getfield 12, 3) := by decide +kernel
theorem dX7_word_32 : decode cX7_word 32 = .ok (.dup, 1) := by decide +kernel
theorem dX7_word_33 : decode cX7_word 33 = .ok (.getfield 201, 3) := by decide +kernel
theorem dX7_word_36 : decode cX7_word 36 = .ok (.iconst 1, 1) := by decide +kernel
theorem dX7_word_37 : decode cX7_word 37 = .ok (.iload_n 1, 1) := by decide +kernel
theorem dX7_word_38 : decode cX7_word 38 = .ok (.ishl, 1) := by decide +kernel
theorem dX7_word_39 : decode cX7_word 39 = .ok (.ior, 1) := by decide +kernel
theorem dX7_word_40 : decode cX7_word 40 = .ok (.putfield 201, 3) := by decide +kernel
theorem dX7_word_43 : decode cX7_word 43 = .ok (.aload_n 0, 1) := by decide +kernel
theorem dX7_word_44 : decode cX7_word 44 = .ok (.getfield 12, 3) := by decide +kernel
theorem dX7_word_47 : decode cX7_word 47 = .ok (.getfield 204, 3) := by decide +kernel
theorem dX7_word_50 : decode cX7_word 50 = .ok (.iload_n 1, 1) := by decide +kernel
theorem dX7_word_51 : decode cX7_word 51 = .ok (.iload_n 2, 1) := by decide +kernel
theorem dX7_word_52 : decode cX7_word 52 = .ok (.iastore, 1) := by decide +kernel
theorem dX7_word_53 : decode cX7_word 53 = .ok (.aload_n 0, 1) := by decide +kernel
theorem dX7_word_54 : decode cX7_word 54 = .ok (.getfield 12, 3) := by decide +kernel
theorem dX7_word_57 : decode cX7_word 57 = .ok (.getfield 201, 3) := by decide +kernel
theorem dX7_word_60 : decode cX7_word 60 = .ok (.invokestatic 141, 3) := by decide +kernel
theorem dX7_word_63 : decode cX7_word 63 = .ok (.ireturn, 1) := by decide +kernel
theorem dX7_clear_0 : decode cX7_clear 0 = .ok (.aload_n 0, 1) := by decide +kernel
theorem dX7_clear_1 : decode cX7_clear 1 = .ok (.getfield 12, 3) := by decide +kernel
theorem dX7_clear_4 : decode cX7_clear 4 = .ok (.getfield 201, 3) := by decide +kernel
theorem dX7_clear_7 : decode cX7_clear 7 = .ok (.invokestatic 141, 3) := by decide +kernel
theorem dX7_clear_10 : decode cX7_clear 10 = .ok (.istore_n 1, 1) := by decide +kernel
theorem dX7_clear_11 : decode cX7_clear 11 = .ok (.aload_n 0, 1) := by decide +kernel
theorem dX7_clear_12 : decode cX7_clear 12 = .ok (.invokevirtual 69, 3) := by decide +kernel
theorem dX7_clear_15 : decode cX7_clear 15 = .ok (.aload_n 0, 1) := by decide +kernel
theorem dX7_clear_16 : decode cX7_clear 16 = .ok (.getfield 12, 3) := by decide +kernel
theorem dX7_clear_19 : decode cX7_clear 19 = .ok (.iconst 0, 1) := by decide +kernel
theorem dX7_clear_20 : decode cX7_clear 20 = .ok (.putfield 201, 3) := by decide +kernel
theorem dX7_clear_23 : decode cX7_clear 23 = .ok (.iload_n 1, 1) := by decide +kernel
theorem dX7_clear_24 : decode cX7_clear 24 = .ok (.ireturn, 1) := by decide +kernel
theorem dX7_fits_0 : decode cX7_fits 0 = .ok (.iconst 0, 1) := by decide +kernel
theorem dX7_fits_1 : decode cX7_fits 1 = .ok (.istore_n 1, 1) := by decide +kernel
theorem dX7_fits_2 : decode cX7_fits 2 = .ok (.iconst 0, 1) := by decide +kernel
theorem dX7_fits_3 : decode cX7_fits 3 = .ok (.istore_n 2, 1) := by decide +kernel
theorem dX7_fits_4 : decode cX7_fits 4 = .ok (.iload_n 2, 1) := by decide +kernel
theorem dX7_fits_5 : decode cX7_fits 5 = .ok (.aload_n 0, 1) := by decide +kernel
theorem dX7_fits_6 : decode cX7_fits 6 = .ok (.getfield 12, 3) := by decide +kernel
theorem dX7_fits_9 : decode cX7_fits 9 = .ok (.getfield 66, 3) := by decide +kernel
theorem dX7_fits_12 : decode cX7_fits 12 = .ok (.if_icmp .ge 20, 3) := by decide +kernel
theorem dX7_fits_15 : decode cX7_fits 15 = .ok (.aload_n 0, 1) := by decide +kernel
theorem dX7_fits_16 : decode cX7_fits 16 = .ok (.iload_n 2, 1) := by decide +kernel
theorem dX7_fits_17 : decode cX7_fits 17 = .ok (.invokevirtual 207, 3) := by decide +kernel
theorem dX7_fits_20 : decode cX7_fits 20 = .ok (.ifCond .eq 6, 3) := by decide +kernel
theorem dX7_fits_23 : decode cX7_fits 23 = .ok (.iinc 1 1, 3) := by decide +kernel
theorem dX7_fits_26 : decode cX7_fits 26 = .ok (.iinc 2 1, 3) := by decide +kernel
theorem dX7_fits_29 : decode cX7_fits 29 = .ok (.goto (-25), 3) := by decide +kernel
theorem dX7_fits_32 : decode cX7_fits 32 = .ok (.iload_n 1, 1) := by decide +kernel
theorem dX7_fits_33 : decode cX7_fits 33 = .ok (.ireturn, 1) := by decide +kernel
theorem dX7_where_0 : decode cX7_where 0 = .ok (.iconst 0, 1) := by decide +kernel
theorem dX7_where_1 : decode cX7_where 1 = .ok (.istore_n 2, 1) := by decide +kernel
theorem dX7_where_2 : decode cX7_where 2 = .ok (.iconst 0, 1) := by decide +kernel
theorem dX7_where_3 : decode cX7_where 3 = .ok (.istore_n 3, 1) := by decide +kernel
theorem dX7_where_4 : decode cX7_where 4 = .ok (.iload_n 3, 1) := by decide +kernel
theorem dX7_where_5 : decode cX7_where 5 = .ok (.aload_n 0, 1) := by decide +kernel
theorem dX7_where_6 : decode cX7_where 6 = .ok (.getfield 12, 3) := by decide +kernel
theorem dX7_where_9 : decode cX7_where 9 = .ok (.getfield 66, 3) := by decide +kernel
theorem dX7_where_12 : decode cX7_where 12 = .ok (.if_icmp .ge 27, 3) := by decide +kernel
theorem dX7_where_15 : decode cX7_where 15 = .ok (.aload_n 0, 1) := by decide +kernel
theorem dX7_where_16 : decode cX7_where 16 = .ok (.iload_n 3, 1) := by decide +kernel
theorem dX7_where_17 : decode cX7_where 17 = .ok (.invokevirtual 207, 3) := by decide +kernel
theorem dX7_where_20 : decode cX7_where 20 = .ok (.ifCond .eq 13, 3) := by decide +kernel
theorem dX7_where_23 : decode cX7_where 23 = .ok (.iload_n 2, 1) := by decide +kernel
theorem dX7_where_24 : decode cX7_where 24 = .ok (.iload_n 1, 1) := by decide +kernel
theorem dX7_where_25 : decode cX7_where 25 = .ok (.if_icmp .ne 5, 3) := by decide +kernel
theorem dX7_where_28 : decode cX7_where 28 = .ok (.iload_n 3, 1) := by decide +kernel
theorem dX7_where_29 : decode cX7_where 29 = .ok (.ireturn, 1) := by decide +kernel
theorem dX7_where_30 : decode cX7_where 30 = .ok (.iinc 2 1, 3) := by decide +kernel
theorem dX7_where_33 : decode cX7_where 33 = .ok (.iinc 3 1, 3) := by decide +kernel
theorem dX7_where_36 : decode cX7_where 36 = .ok (.goto (-32), 3) := by decide +kernel
theorem dX7_where_39 : decode cX7_where 39 = .ok (.iconst (-1), 1) := by decide +kernel
theorem dX7_where_40 : decode cX7_where 40 = .ok (.ireturn, 1) := by decide +kernel
theorem dX7_against_0 : decode cX7_against 0 = .ok (.aload_n 0, 1) := by decide +kernel
theorem dX7_against_1 : decode cX7_against 1 = .ok (.getfield 12, 3) := by decide +kernel
theorem dX7_against_4 : decode cX7_against 4 = .ok (.iload_n 1, 1) := by decide +kernel
theorem dX7_against_5 : decode cX7_against 5 = .ok (.invokevirtual 80, 3) := by decide +kernel
theorem dX7_against_8 : decode cX7_against 8 = .ok (.ifCond .eq 11, 3) := by decide +kernel
theorem dX7_against_11 : decode cX7_against 11 = .ok (.aload_n 0, 1) := by decide +kernel
theorem dX7_against_12 : decode cX7_against 12 = .ok (.iload_n 1, 1) := by decide +kernel
theorem dX7_against_13 : decode cX7_against 13 = .ok (.invokevirtual 210, 3) := by decide +kernel
theorem dX7_against_16 : decode cX7_against 16 = .ok (.goto 4, 3) := by decide +kernel
theorem dX7_against_19 : decode cX7_against 19 = .ok (.iconst (-1), 1) := by decide +kernel
theorem dX7_against_20 : decode cX7_against 20 = .ok (.ireturn, 1) := by decide +kernel
theorem dX7_worst_0 : decode cX7_worst 0 = .ok (.aload_n 0, 1) := by decide +kernel
theorem dX7_worst_1 : decode cX7_worst 1 = .ok (.iload_n 1, 1) := by decide +kernel
theorem dX7_worst_2 : decode cX7_worst 2 = .ok (.invokevirtual 213, 3) := by decide +kernel
theorem dX7_worst_5 : decode cX7_worst 5 = .ok (.ifCond .ne 5, 3) := by decide +kernel
theorem dX7_worst_8 : decode cX7_worst 8 = .ok (.iconst (-1), 1) := by decide +kernel
theorem dX7_worst_9 : decode cX7_worst 9 = .ok (.ireturn, 1) := by decide +kernel
theorem dX7_worst_10 : decode cX7_worst 10 = .ok (.aload_n 0, 1) := by decide +kernel
theorem dX7_worst_11 : decode cX7_worst 11 = .ok (.getfield 47, 3) := by decide +kernel
theorem dX7_worst_14 : decode cX7_worst 14 = .ok (.iload_n 1, 1) := by decide +kernel
theorem dX7_worst_15 : decode cX7_worst 15 = .ok (.aload_n 0, 1) := by decide +kernel
theorem dX7_worst_16 : decode cX7_worst 16 = .ok (.getfield 12, 3) := by decide +kernel
theorem dX7_worst_19 : decode cX7_worst 19 = .ok (.aload_n 0, 1) := by decide +kernel
theorem dX7_worst_20 : decode cX7_worst 20 = .ok (.invokevirtual 131, 3) := by decide +kernel
theorem dX7_worst_23 : decode cX7_worst 23 = .ok (.iconst 0, 1) := by decide +kernel
theorem dX7_worst_24 : decode cX7_worst 24 = .ok (.invokevirtual 216, 3) := by decide +kernel
theorem dX7_worst_27 : decode cX7_worst 27 = .ok (.aload_n 0, 1) := by decide +kernel
theorem dX7_worst_28 : decode cX7_worst 28 = .ok (.getfield 47, 3) := by decide +kernel
theorem dX7_worst_31 : decode cX7_worst 31 = .ok (.invokevirtual 220, 3) := by decide +kernel
theorem dX7_worst_34 : decode cX7_worst 34 = .ok (.ireturn, 1) := by decide +kernel
theorem dX7_next_0 : decode cX7_next 0 = .ok (.aload_n 0, 1) := by decide +kernel
theorem dX7_next_1 : decode cX7_next 1 = .ok (.iload_n 1, 1) := by decide +kernel
theorem dX7_next_2 : decode cX7_next 2 = .ok (.invokevirtual 213, 3) := by decide +kernel
theorem dX7_next_5 : decode cX7_next 5 = .ok (.ifCond .ne 5, 3) := by decide +kernel
theorem dX7_next_8 : decode cX7_next 8 = .ok (.iconst (-1), 1) := by decide +kernel
theorem dX7_next_9 : decode cX7_next 9 = .ok (.ireturn, 1) := by decide +kernel
theorem dX7_next_10 : decode cX7_next 10 = .ok (.aload_n 0, 1) := by decide +kernel
theorem dX7_next_11 : decode cX7_next 11 = .ok (.getfield 47, 3) := by decide +kernel
theorem dX7_next_14 : decode cX7_next 14 = .ok (.iload_n 1, 1) := by decide +kernel
theorem dX7_next_15 : decode cX7_next 15 = .ok (.aload_n 0, 1) := by decide +kernel
theorem dX7_next_16 : decode cX7_next 16 = .ok (.getfield 12, 3) := by decide +kernel
theorem dX7_next_19 : decode cX7_next 19 = .ok (.aload_n 0, 1) := by decide +kernel
theorem dX7_next_20 : decode cX7_next 20 = .ok (.invokevirtual 131, 3) := by decide +kernel
theorem dX7_next_23 : decode cX7_next 23 = .ok (.iconst 0, 1) := by decide +kernel
theorem dX7_next_24 : decode cX7_next 24 = .ok (.invokevirtual 216, 3) := by decide +kernel
theorem dX7_next_27 : decode cX7_next 27 = .ok (.aload_n 0, 1) := by decide +kernel
theorem dX7_next_28 : decode cX7_next 28 = .ok (.getfield 47, 3) := by decide +kernel
theorem dX7_next_31 : decode cX7_next 31 = .ok (.invokevirtual 223, 3) := by decide +kernel
theorem dX7_next_34 : decode cX7_next 34 = .ok (.ireturn, 1) := by decide +kernel
theorem dX7_mean_0 : decode cX7_mean 0 = .ok (.aload_n 0, 1) := by decide +kernel
theorem dX7_mean_1 : decode cX7_mean 1 = .ok (.iload_n 1, 1) := by decide +kernel
theorem dX7_mean_2 : decode cX7_mean 2 = .ok (.invokevirtual 213, 3) := by decide +kernel
theorem dX7_mean_5 : decode cX7_mean 5 = .ok (.ifCond .ne 5, 3) := by decide +kernel
theorem dX7_mean_8 : decode cX7_mean 8 = .ok (.iconst (-1), 1) := by decide +kernel
theorem dX7_mean_9 : decode cX7_mean 9 = .ok (.ireturn, 1) := by decide +kernel
theorem dX7_mean_10 : decode cX7_mean 10 = .ok (.aload_n 0, 1) := by decide +kernel
theorem dX7_mean_11 : decode cX7_mean 11 = .ok (.getfield 47, 3) := by decide +kernel
theorem dX7_mean_14 : decode cX7_mean 14 = .ok (.iload_n 1, 1) := by decide +kernel
theorem dX7_mean_15 : decode cX7_mean 15 = .ok (.aload_n 0, 1) := by decide +kernel
theorem dX7_mean_16 : decode cX7_mean 16 = .ok (.getfield 12, 3) := by decide +kernel
theorem dX7_mean_19 : decode cX7_mean 19 = .ok (.aload_n 0, 1) := by decide +kernel
theorem dX7_mean_20 : decode cX7_mean 20 = .ok (.invokevirtual 131, 3) := by decide +kernel
theorem dX7_mean_23 : decode cX7_mean 23 = .ok (.iconst 1, 1) := by decide +kernel
theorem dX7_mean_24 : decode cX7_mean 24 = .ok (.invokevirtual 216, 3) := by decide +kernel
theorem dX7_mean_27 : decode cX7_mean 27 = .ok (.aload_n 0, 1) := by decide +kernel
theorem dX7_mean_28 : decode cX7_mean 28 = .ok (.getfield 47, 3) := by decide +kernel
theorem dX7_mean_31 : decode cX7_mean 31 = .ok (.invokevirtual 220, 3) := by decide +kernel
theorem dX7_mean_34 : decode cX7_mean 34 = .ok (.ireturn, 1) := by decide +kernel
theorem dX7_seek_0 : decode cX7_seek 0 = .ok (.aload_n 0, 1) := by decide +kernel
theorem dX7_seek_1 : decode cX7_seek 1 = .ok (.getfield 12, 3) := by decide +kernel
theorem dX7_seek_4 : decode cX7_seek 4 = .ok (.iload_n 1, 1) := by decide +kernel
theorem dX7_seek_5 : decode cX7_seek 5 = .ok (.invokevirtual 152, 3) := by decide +kernel
theorem dX7_seek_8 : decode cX7_seek 8 = .ok (.ifCond .eq 15, 3) := by decide +kernel
theorem dX7_seek_11 : decode cX7_seek 11 = .ok (.aload_n 0, 1) := by decide +kernel
theorem dX7_seek_12 : decode cX7_seek 12 = .ok (.getfield 12, 3) := by decide +kernel
theorem dX7_seek_15 : decode cX7_seek 15 = .ok (.getfield 66, 3) := by decide +kernel
theorem dX7_seek_18 : decode cX7_seek 18 = .ok (.bipush 10, 2) := by decide +kernel
theorem dX7_seek_20 : decode cX7_seek 20 = .ok (.if_icmp .le 5, 3) := by decide +kernel
theorem dX7_seek_23 : decode cX7_seek 23 = .ok (.iconst (-1), 1) := by decide +kernel
theorem dX7_seek_24 : decode cX7_seek 24 = .ok (.ireturn, 1) := by decide +kernel
theorem dX7_seek_25 : decode cX7_seek 25 = .ok (.aload_n 0, 1) := by decide +kernel
theorem dX7_seek_26 : decode cX7_seek 26 = .ok (.getfield 54, 3) := by decide +kernel
theorem dX7_seek_29 : decode cX7_seek 29 = .ok (.iload_n 1, 1) := by decide +kernel
theorem dX7_seek_30 : decode cX7_seek 30 = .ok (.aload_n 0, 1) := by decide +kernel
theorem dX7_seek_31 : decode cX7_seek 31 = .ok (.invokevirtual 131, 3) := by decide +kernel
theorem dX7_seek_34 : decode cX7_seek 34 = .ok (.invokevirtual 226, 3) := by decide +kernel
theorem dX7_seek_37 : decode cX7_seek 37 = .ok (.ireturn, 1) := by decide +kernel
theorem dX7_tree_0 : decode cX7_tree 0 = .ok (.aload_n 0, 1) := by decide +kernel
theorem dX7_tree_1 : decode cX7_tree 1 = .ok (.invokevirtual 131, 3) := by decide +kernel
theorem dX7_tree_4 : decode cX7_tree 4 = .ok (.astore_n 1, 1) := by decide +kernel
theorem dX7_tree_5 : decode cX7_tree 5 = .ok (.aload_n 1, 1) := by decide +kernel
theorem dX7_tree_6 : decode cX7_tree 6 = .ok (.iconst 0, 1) := by decide +kernel
theorem dX7_tree_7 : decode cX7_tree 7 = .ok (.invokevirtual 146, 3) := by decide +kernel
theorem dX7_tree_10 : decode cX7_tree 10 = .ok (.aload_n 0, 1) := by decide +kernel
theorem dX7_tree_11 : decode cX7_tree 11 = .ok (.getfield 12, 3) := by decide +kernel
theorem dX7_tree_14 : decode cX7_tree 14 = .ok (.getfield 66, 3) := by decide +kernel
theorem dX7_tree_17 : decode cX7_tree 17 = .ok (.if_icmp .ne 7, 3) := by decide +kernel
theorem dX7_tree_20 : decode cX7_tree 20 = .ok (.iconst 1, 1) := by decide +kernel
theorem dX7_tree_21 : decode cX7_tree 21 = .ok (.goto 4, 3) := by decide +kernel
theorem dX7_tree_24 : decode cX7_tree 24 = .ok (.iconst 0, 1) := by decide +kernel
theorem dX7_tree_25 : decode cX7_tree 25 = .ok (.istore_n 2, 1) := by decide +kernel
theorem dX7_tree_26 : decode cX7_tree 26 = .ok (.iload_n 2, 1) := by decide +kernel
theorem dX7_tree_27 : decode cX7_tree 27 = .ok (.ifCond .eq 22, 3) := by decide +kernel
theorem dX7_tree_30 : decode cX7_tree 30 = .ok (.aload_n 0, 1) := by decide +kernel
theorem dX7_tree_31 : decode cX7_tree 31 = .ok (.getfield 12, 3) := by decide +kernel
theorem dX7_tree_34 : decode cX7_tree 34 = .ok (.invokevirtual 230, 3) := by decide +kernel
theorem dX7_tree_37 : decode cX7_tree 37 = .ok (.aload_n 0, 1) := by decide +kernel
theorem dX7_tree_38 : decode cX7_tree 38 = .ok (.getfield 12, 3) := by decide +kernel
theorem dX7_tree_41 : decode cX7_tree 41 = .ok (.getfield 66, 3) := by decide +kernel
theorem dX7_tree_44 : decode cX7_tree 44 = .ok (.iconst 1, 1) := by decide +kernel
theorem dX7_tree_45 : decode cX7_tree 45 = .ok (.isub, 1) := by decide +kernel
theorem dX7_tree_46 : decode cX7_tree 46 = .ok (.if_icmp .eq 5, 3) := by decide +kernel
theorem dX7_tree_49 : decode cX7_tree 49 = .ok (.iconst (-1), 1) := by decide +kernel
theorem dX7_tree_50 : decode cX7_tree 50 = .ok (.ireturn, 1) := by decide +kernel
theorem dX7_tree_51 : decode cX7_tree 51 = .ok (.aload_n 1, 1) := by decide +kernel
theorem dX7_tree_52 : decode cX7_tree 52 = .ok (.invokevirtual 233, 3) := by decide +kernel
theorem dX7_tree_55 : decode cX7_tree 55 = .ok (.ireturn, 1) := by decide +kernel
theorem dX7_undo_0 : decode cX7_undo 0 = .ok (.iload_n 1, 1) := by decide +kernel
theorem dX7_undo_1 : decode cX7_undo 1 = .ok (.ifCond .lt 14, 3) := by decide +kernel
theorem dX7_undo_4 : decode cX7_undo 4 = .ok (.iload_n 1, 1) := by decide +kernel
theorem dX7_undo_5 : decode cX7_undo 5 = .ok (.aload_n 0, 1) := by decide +kernel
theorem dX7_undo_6 : decode cX7_undo 6 = .ok (.getfield 19, 3) := by decide +kernel
theorem dX7_undo_9 : decode cX7_undo 9 = .ok (.getfield 236, 3) := by decide +kernel
theorem dX7_undo_12 : decode cX7_undo 12 = .ok (.if_icmp .le 5, 3) := by decide +kernel
theorem dX7_undo_15 : decode cX7_undo 15 = .ok (.iconst (-1), 1) := by decide +kernel
theorem dX7_undo_16 : decode cX7_undo 16 = .ok (.ireturn, 1) := by decide +kernel
theorem dX7_undo_17 : decode cX7_undo 17 = .ok (.iload_n 1, 1) := by decide +kernel
theorem dX7_undo_18 : decode cX7_undo 18 = .ok (.ifCond .le 20, 3) := by decide +kernel
theorem dX7_undo_21 : decode cX7_undo 21 = .ok (.aload_n 0, 1) := by decide +kernel
theorem dX7_undo_22 : decode cX7_undo 22 = .ok (.getfield 19, 3) := by decide +kernel
theorem dX7_undo_25 : decode cX7_undo 25 = .ok (.aload_n 0, 1) := by decide +kernel
theorem dX7_undo_26 : decode cX7_undo 26 = .ok (.getfield 12, 3) := by decide +kernel
theorem dX7_undo_29 : decode cX7_undo 29 = .ok (.iload_n 1, 1) := by decide +kernel
theorem dX7_undo_30 : decode cX7_undo 30 = .ok (.invokevirtual 237, 3) := by decide +kernel
theorem dX7_undo_33 : decode cX7_undo 33 = .ok (.aload_n 0, 1) := by decide +kernel
theorem dX7_undo_34 : decode cX7_undo 34 = .ok (.iconst 1, 1) := by decide +kernel
theorem dX7_undo_35 : decode cX7_undo 35 = .ok (.putfield 58, 3) := by decide +kernel
theorem dX7_undo_38 : decode cX7_undo 38 = .ok (.iload_n 1, 1) := by decide +kernel
theorem dX7_undo_39 : decode cX7_undo 39 = .ok (.ireturn, 1) := by decide +kernel
theorem dX7_about_0 : decode cX7_about 0 = .ok (.iload_n 1, 1) := by decide +kernel
theorem dX7_about_1 : decode cX7_about 1 = .ok (.tableswitch 134 0 8 #[51, 59, 67, 75, 83, 91, 107, 118, 126], 51) := by decide +kernel
theorem dX7_about_52 : decode cX7_about 52 = .ok (.aload_n 0, 1) := by decide +kernel
theorem dX7_about_53 : decode cX7_about 53 = .ok (.getfield 12, 3) := by decide +kernel
theorem dX7_about_56 : decode cX7_about 56 = .ok (.getfield 66, 3) := by decide +kernel
theorem dX7_about_59 : decode cX7_about 59 = .ok (.ireturn, 1) := by decide +kernel
theorem dX7_about_60 : decode cX7_about 60 = .ok (.aload_n 0, 1) := by decide +kernel
theorem dX7_about_61 : decode cX7_about 61 = .ok (.getfield 12, 3) := by decide +kernel
theorem dX7_about_64 : decode cX7_about 64 = .ok (.invokevirtual 230, 3) := by decide +kernel
theorem dX7_about_67 : decode cX7_about 67 = .ok (.ireturn, 1) := by decide +kernel
theorem dX7_about_68 : decode cX7_about 68 = .ok (.aload_n 0, 1) := by decide +kernel
theorem dX7_about_69 : decode cX7_about 69 = .ok (.getfield 12, 3) := by decide +kernel
theorem dX7_about_72 : decode cX7_about 72 = .ok (.getfield 112, 3) := by decide +kernel
theorem dX7_about_75 : decode cX7_about 75 = .ok (.ireturn, 1) := by decide +kernel
theorem dX7_about_76 : decode cX7_about 76 = .ok (.aload_n 0, 1) := by decide +kernel
theorem dX7_about_77 : decode cX7_about 77 = .ok (.getfield 12, 3) := by decide +kernel
theorem dX7_about_80 : decode cX7_about 80 = .ok (.getfield 115, 3) := by decide +kernel
theorem dX7_about_83 : decode cX7_about 83 = .ok (.ireturn, 1) := by decide +kernel
theorem dX7_about_84 : decode cX7_about 84 = .ok (.aload_n 0, 1) := by decide +kernel
theorem dX7_about_85 : decode cX7_about 85 = .ok (.getfield 12, 3) := by decide +kernel
theorem dX7_about_88 : decode cX7_about 88 = .ok (.invokevirtual 124, 3) := by decide +kernel
theorem dX7_about_91 : decode cX7_about 91 = .ok (.ireturn, 1) := by decide +kernel
theorem dX7_about_92 : decode cX7_about 92 = .ok (.aload_n 0, 1) := by decide +kernel
theorem dX7_about_93 : decode cX7_about 93 = .ok (.getfield 12, 3) := by decide +kernel
theorem dX7_about_96 : decode cX7_about 96 = .ok (.getfield 128, 3) := by decide +kernel
theorem dX7_about_99 : decode cX7_about 99 = .ok (.ifCond .eq 7, 3) := by decide +kernel
theorem dX7_about_102 : decode cX7_about 102 = .ok (.iconst 1, 1) := by decide +kernel
theorem dX7_about_103 : decode cX7_about 103 = .ok (.goto 4, 3) := by decide +kernel
theorem dX7_about_106 : decode cX7_about 106 = .ok (.iconst 0, 1) := by decide +kernel
theorem dX7_about_107 : decode cX7_about 107 = .ok (.ireturn, 1) := by decide +kernel
theorem dX7_about_108 : decode cX7_about 108 = .ok (.aload_n 0, 1) := by decide +kernel
theorem dX7_about_109 : decode cX7_about 109 = .ok (.getfield 12, 3) := by decide +kernel
theorem dX7_about_112 : decode cX7_about 112 = .ok (.getfield 201, 3) := by decide +kernel
theorem dX7_about_115 : decode cX7_about 115 = .ok (.invokestatic 141, 3) := by decide +kernel
theorem dX7_about_118 : decode cX7_about 118 = .ok (.ireturn, 1) := by decide +kernel
theorem dX7_about_119 : decode cX7_about 119 = .ok (.aload_n 0, 1) := by decide +kernel
theorem dX7_about_120 : decode cX7_about 120 = .ok (.getfield 19, 3) := by decide +kernel
theorem dX7_about_123 : decode cX7_about 123 = .ok (.getfield 236, 3) := by decide +kernel
theorem dX7_about_126 : decode cX7_about 126 = .ok (.ireturn, 1) := by decide +kernel
theorem dX7_about_127 : decode cX7_about 127 = .ok (.aload_n 0, 1) := by decide +kernel
theorem dX7_about_128 : decode cX7_about 128 = .ok (.getfield 26, 3) := by decide +kernel
theorem dX7_about_131 : decode cX7_about 131 = .ok (.getfield 95, 3) := by decide +kernel
theorem dX7_about_134 : decode cX7_about 134 = .ok (.ireturn, 1) := by decide +kernel
theorem dX7_about_135 : decode cX7_about 135 = .ok (.iconst (-1), 1) := by decide +kernel
theorem dX7_about_136 : decode cX7_about 136 = .ok (.ireturn, 1) := by decide +kernel
theorem dX7_beforeAct_0 : decode cX7_beforeAct 0 = .ok (.aload_n 0, 1) := by decide +kernel
theorem dX7_beforeAct_1 : decode cX7_beforeAct 1 = .ok (.getfield 19, 3) := by decide +kernel
theorem dX7_beforeAct_4 : decode cX7_beforeAct 4 = .ok (.aload_n 0, 1) := by decide +kernel
theorem dX7_beforeAct_5 : decode cX7_beforeAct 5 = .ok (.getfield 12, 3) := by decide +kernel
theorem dX7_beforeAct_8 : decode cX7_beforeAct 8 = .ok (.invokevirtual 241, 3) := by decide +kernel
theorem dX7_beforeAct_11 : decode cX7_beforeAct 11 = .ok (.aload_n 0, 1) := by decide +kernel
theorem dX7_beforeAct_12 : decode cX7_beforeAct 12 = .ok (.iconst 1, 1) := by decide +kernel
theorem dX7_beforeAct_13 : decode cX7_beforeAct 13 = .ok (.putfield 58, 3) := by decide +kernel
theorem dX7_beforeAct_16 : decode cX7_beforeAct 16 = .ok (.return_, 1) := by decide +kernel
theorem dX7_freshSight_0 : decode cX7_freshSight 0 = .ok (.aload_n 0, 1) := by decide +kernel
theorem dX7_freshSight_1 : decode cX7_freshSight 1 = .ok (.getfield 58, 3) := by decide +kernel
theorem dX7_freshSight_4 : decode cX7_freshSight 4 = .ok (.ifCond .eq 19, 3) := by decide +kernel
theorem dX7_freshSight_7 : decode cX7_freshSight 7 = .ok (.aload_n 0, 1) := by decide +kernel
theorem dX7_freshSight_8 : decode cX7_freshSight 8 = .ok (.getfield 33, 3) := by decide +kernel
theorem dX7_freshSight_11 : decode cX7_freshSight 11 = .ok (.aload_n 0, 1) := by decide +kernel
theorem dX7_freshSight_12 : decode cX7_freshSight 12 = .ok (.getfield 12, 3) := by decide +kernel
theorem dX7_freshSight_15 : decode cX7_freshSight 15 = .ok (.invokevirtual 245, 3) := by decide +kernel
theorem dX7_freshSight_18 : decode cX7_freshSight 18 = .ok (.aload_n 0, 1) := by decide +kernel
theorem dX7_freshSight_19 : decode cX7_freshSight 19 = .ok (.iconst 0, 1) := by decide +kernel
theorem dX7_freshSight_20 : decode cX7_freshSight 20 = .ok (.putfield 58, 3) := by decide +kernel
theorem dX7_freshSight_23 : decode cX7_freshSight 23 = .ok (.aload_n 0, 1) := by decide +kernel
theorem dX7_freshSight_24 : decode cX7_freshSight 24 = .ok (.getfield 33, 3) := by decide +kernel
theorem dX7_freshSight_27 : decode cX7_freshSight 27 = .ok (.areturn, 1) := by decide +kernel
theorem dX7_tellChoice_0 : decode cX7_tellChoice 0 = .ok (.aload_n 0, 1) := by decide +kernel
theorem dX7_tellChoice_1 : decode cX7_tellChoice 1 = .ok (.getfield 40, 3) := by decide +kernel
theorem dX7_tellChoice_4 : decode cX7_tellChoice 4 = .ok (.getfield 183, 3) := by decide +kernel
theorem dX7_tellChoice_7 : decode cX7_tellChoice 7 = .ok (.ifCond .ne 6, 3) := by decide +kernel
theorem dX7_tellChoice_10 : decode cX7_tellChoice 10 = .ok (.bipush (-2), 2) := by decide +kernel
theorem dX7_tellChoice_12 : decode cX7_tellChoice 12 = .ok (.ireturn, 1) := by decide +kernel
theorem dX7_tellChoice_13 : decode cX7_tellChoice 13 = .ok (.aload_n 0, 1) := by decide +kernel
theorem dX7_tellChoice_14 : decode cX7_tellChoice 14 = .ok (.aload_n 0, 1) := by decide +kernel
theorem dX7_tellChoice_15 : decode cX7_tellChoice 15 = .ok (.getfield 40, 3) := by decide +kernel
theorem dX7_tellChoice_18 : decode cX7_tellChoice 18 = .ok (.getfield 248, 3) := by decide +kernel
theorem dX7_tellChoice_21 : decode cX7_tellChoice 21 = .ok (.putfield 62, 3) := by decide +kernel
theorem dX7_tellChoice_24 : decode cX7_tellChoice 24 = .ok (.aload_n 0, 1) := by decide +kernel
theorem dX7_tellChoice_25 : decode cX7_tellChoice 25 = .ok (.getfield 40, 3) := by decide +kernel
theorem dX7_tellChoice_28 : decode cX7_tellChoice 28 = .ok (.getfield 251, 3) := by decide +kernel
theorem dX7_tellChoice_31 : decode cX7_tellChoice 31 = .ok (.ireturn, 1) := by decide +kernel
theorem dX7_wordsAgainst_0 : decode cX7_wordsAgainst 0 = .ok (.aload_n 0, 1) := by decide +kernel
theorem dX7_wordsAgainst_1 : decode cX7_wordsAgainst 1 = .ok (.invokevirtual 131, 3) := by decide +kernel
theorem dX7_wordsAgainst_4 : decode cX7_wordsAgainst 4 = .ok (.astore_n 2, 1) := by decide +kernel
theorem dX7_wordsAgainst_5 : decode cX7_wordsAgainst 5 = .ok (.iconst 0, 1) := by decide +kernel
theorem dX7_wordsAgainst_6 : decode cX7_wordsAgainst 6 = .ok (.istore_n 3, 1) := by decide +kernel
theorem dX7_wordsAgainst_7 : decode cX7_wordsAgainst 7 = .ok (.iconst 0, 1) := by decide +kernel
theorem dX7_wordsAgainst_8 : decode cX7_wordsAgainst 8 = .ok (.istore 4, 2) := by decide +kernel
theorem dX7_wordsAgainst_10 : decode cX7_wordsAgainst 10 = .ok (.iload 4, 2) := by decide +kernel
theorem dX7_wordsAgainst_12 : decode cX7_wordsAgainst 12 = .ok (.aload_n 0, 1) := by decide +kernel
theorem dX7_wordsAgainst_13 : decode cX7_wordsAgainst 13 = .ok (.getfield 12, 3) := by decide +kernel
theorem dX7_wordsAgainst_16 : decode cX7_wordsAgainst 16 = .ok (.getfield 66, 3) := by decide +kernel
theorem dX7_wordsAgainst_19 : decode cX7_wordsAgainst 19 = .ok (.if_icmp .ge 53, 3) := by decide +kernel
theorem dX7_wordsAgainst_22 : decode cX7_wordsAgainst 22 = .ok (.aload_n 0, 1) := by decide +kernel
theorem dX7_wordsAgainst_23 : decode cX7_wordsAgainst 23 = .ok (.getfield 12, 3) := by decide +kernel
theorem dX7_wordsAgainst_26 : decode cX7_wordsAgainst 26 = .ok (.iload 4, 2) := by decide +kernel
theorem dX7_wordsAgainst_28 : decode cX7_wordsAgainst 28 = .ok (.invokevirtual 198, 3) := by decide +kernel
theorem dX7_wordsAgainst_31 : decode cX7_wordsAgainst 31 = .ok (.ifCond .eq 35, 3) := by decide +kernel
theorem dX7_wordsAgainst_34 : decode cX7_wordsAgainst 34 = .ok (.aload_n 0, 1) := by decide +kernel
theorem dX7_wordsAgainst_35 : decode cX7_wordsAgainst 35 = .ok (.getfield 12, 3) := by decide +kernel
theorem dX7_wordsAgainst_38 : decode cX7_wordsAgainst 38 = .ok (.getfield 204, 3) := by decide +kernel
theorem dX7_wordsAgainst_41 : decode cX7_wordsAgainst 41 = .ok (.iload 4, 2) := by decide +kernel
theorem dX7_wordsAgainst_43 : decode cX7_wordsAgainst 43 = .ok (.iaload, 1) := by decide +kernel
theorem dX7_wordsAgainst_44 : decode cX7_wordsAgainst 44 = .ok (.aload_n 2, 1) := by decide +kernel
theorem dX7_wordsAgainst_45 : decode cX7_wordsAgainst 45 = .ok (.getfield 149, 3) := by decide +kernel
theorem dX7_wordsAgainst_48 : decode cX7_wordsAgainst 48 = .ok (.bipush 16, 2) := by decide +kernel
theorem dX7_wordsAgainst_50 : decode cX7_wordsAgainst 50 = .ok (.iload 4, 2) := by decide +kernel
theorem dX7_wordsAgainst_52 : decode cX7_wordsAgainst 52 = .ok (.imul, 1) := by decide +kernel
theorem dX7_wordsAgainst_53 : decode cX7_wordsAgainst 53 = .ok (.iload_n 1, 1) := by decide +kernel
theorem dX7_wordsAgainst_54 : decode cX7_wordsAgainst 54 = .ok (.iadd, 1) := by decide +kernel
theorem dX7_wordsAgainst_55 : decode cX7_wordsAgainst 55 = .ok (.iaload, 1) := by decide +kernel
theorem dX7_wordsAgainst_56 : decode cX7_wordsAgainst 56 = .ok (.if_icmp .eq 10, 3) := by decide +kernel
theorem dX7_wordsAgainst_59 : decode cX7_wordsAgainst 59 = .ok (.iload_n 3, 1) := by decide +kernel
theorem dX7_wordsAgainst_60 : decode cX7_wordsAgainst 60 = .ok (.iconst 1, 1) := by decide +kernel
theorem dX7_wordsAgainst_61 : decode cX7_wordsAgainst 61 = .ok (.iload 4, 2) := by decide +kernel
theorem dX7_wordsAgainst_63 : decode cX7_wordsAgainst 63 = .ok (.ishl, 1) := by decide +kernel
theorem dX7_wordsAgainst_64 : decode cX7_wordsAgainst 64 = .ok (.ior, 1) := by decide +kernel
theorem dX7_wordsAgainst_65 : decode cX7_wordsAgainst 65 = .ok (.istore_n 3, 1) := by decide +kernel
theorem dX7_wordsAgainst_66 : decode cX7_wordsAgainst 66 = .ok (.iinc 4 1, 3) := by decide +kernel
theorem dX7_wordsAgainst_69 : decode cX7_wordsAgainst 69 = .ok (.goto (-59), 3) := by decide +kernel
theorem dX7_wordsAgainst_72 : decode cX7_wordsAgainst 72 = .ok (.iload_n 3, 1) := by decide +kernel
theorem dX7_wordsAgainst_73 : decode cX7_wordsAgainst 73 = .ok (.ireturn, 1) := by decide +kernel
theorem dX7_fitsWords_0 : decode cX7_fitsWords 0 = .ok (.aload_n 0, 1) := by decide +kernel
theorem dX7_fitsWords_1 : decode cX7_fitsWords 1 = .ok (.getfield 12, 3) := by decide +kernel
theorem dX7_fitsWords_4 : decode cX7_fitsWords 4 = .ok (.getfield 121, 3) := by decide +kernel
theorem dX7_fitsWords_7 : decode cX7_fitsWords 7 = .ok (.ifCond .eq 13, 3) := by decide +kernel
theorem dX7_fitsWords_10 : decode cX7_fitsWords 10 = .ok (.aload_n 0, 1) := by decide +kernel
theorem dX7_fitsWords_11 : decode cX7_fitsWords 11 = .ok (.getfield 12, 3) := by decide +kernel
theorem dX7_fitsWords_14 : decode cX7_fitsWords 14 = .ok (.getfield 118, 3) := by decide +kernel
theorem dX7_fitsWords_17 : decode cX7_fitsWords 17 = .ok (.goto 4, 3) := by decide +kernel
theorem dX7_fitsWords_20 : decode cX7_fitsWords 20 = .ok (.iconst 0, 1) := by decide +kernel
theorem dX7_fitsWords_21 : decode cX7_fitsWords 21 = .ok (.istore_n 2, 1) := by decide +kernel
theorem dX7_fitsWords_22 : decode cX7_fitsWords 22 = .ok (.aload_n 0, 1) := by decide +kernel
theorem dX7_fitsWords_23 : decode cX7_fitsWords 23 = .ok (.iload_n 1, 1) := by decide +kernel
theorem dX7_fitsWords_24 : decode cX7_fitsWords 24 = .ok (.invokevirtual 210, 3) := by decide +kernel
theorem dX7_fitsWords_27 : decode cX7_fitsWords 27 = .ok (.invokestatic 141, 3) := by decide +kernel
theorem dX7_fitsWords_30 : decode cX7_fitsWords 30 = .ok (.iload_n 2, 1) := by decide +kernel
theorem dX7_fitsWords_31 : decode cX7_fitsWords 31 = .ok (.if_icmp .gt 7, 3) := by decide +kernel
theorem dX7_fitsWords_34 : decode cX7_fitsWords 34 = .ok (.iconst 1, 1) := by decide +kernel
theorem dX7_fitsWords_35 : decode cX7_fitsWords 35 = .ok (.goto 4, 3) := by decide +kernel
theorem dX7_fitsWords_38 : decode cX7_fitsWords 38 = .ok (.iconst 0, 1) := by decide +kernel
theorem dX7_fitsWords_39 : decode cX7_fitsWords 39 = .ok (.ireturn, 1) := by decide +kernel
theorem dX7_canBeAsked_0 : decode cX7_canBeAsked 0 = .ok (.aload_n 0, 1) := by decide +kernel
theorem dX7_canBeAsked_1 : decode cX7_canBeAsked 1 = .ok (.getfield 12, 3) := by decide +kernel
theorem dX7_canBeAsked_4 : decode cX7_canBeAsked 4 = .ok (.iload_n 1, 1) := by decide +kernel
theorem dX7_canBeAsked_5 : decode cX7_canBeAsked 5 = .ok (.invokevirtual 152, 3) := by decide +kernel
theorem dX7_canBeAsked_8 : decode cX7_canBeAsked 8 = .ok (.ifCond .eq 16, 3) := by decide +kernel
theorem dX7_canBeAsked_11 : decode cX7_canBeAsked 11 = .ok (.iload_n 1, 1) := by decide +kernel
theorem dX7_canBeAsked_12 : decode cX7_canBeAsked 12 = .ok (.invokestatic 141, 3) := by decide +kernel
theorem dX7_canBeAsked_15 : decode cX7_canBeAsked 15 = .ok (.bipush 12, 2) := by decide +kernel
theorem dX7_canBeAsked_17 : decode cX7_canBeAsked 17 = .ok (.if_icmp .gt 7, 3) := by decide +kernel
theorem dX7_canBeAsked_20 : decode cX7_canBeAsked 20 = .ok (.iconst 1, 1) := by decide +kernel
theorem dX7_canBeAsked_21 : decode cX7_canBeAsked 21 = .ok (.goto 4, 3) := by decide +kernel
theorem dX7_canBeAsked_24 : decode cX7_canBeAsked 24 = .ok (.iconst 0, 1) := by decide +kernel
theorem dX7_canBeAsked_25 : decode cX7_canBeAsked 25 = .ok (.ireturn, 1) := by decide +kernel
end
section
theorem dX8_init_0 : decode cX8_init 0 = .ok (.aload_n 0, 1) := by decide +kernel
theorem dX8_init_1 : decode cX8_init 1 = .ok (.invokespecial 1, 3) := by decide +kernel
theorem dX8_init_4 : decode cX8_init 4 = .ok (.aload_n 0, 1) := by decide +kernel
theorem dX8_init_5 : decode cX8_init 5 = .ok (.sipush 600, 3) := by decide +kernel
theorem dX8_init_8 : decode cX8_init 8 = .ok (.newarray .int, 2) := by decide +kernel
theorem dX8_init_10 : decode cX8_init 10 = .ok (.putfield 7, 3) := by decide +kernel
theorem dX8_init_13 : decode cX8_init 13 = .ok (.aload_n 0, 1) := by decide +kernel
theorem dX8_init_14 : decode cX8_init 14 = .ok (.ldc 13, 2) := by decide +kernel
theorem dX8_init_16 : decode cX8_init 16 = .ok (.newarray .int, 2) := by decide +kernel
theorem dX8_init_18 : decode cX8_init 18 = .ok (.putfield 14, 3) := by decide +kernel
theorem dX8_init_21 : decode cX8_init 21 = .ok (.aload_n 0, 1) := by decide +kernel
theorem dX8_init_22 : decode cX8_init 22 = .ok (.sipush 400, 3) := by decide +kernel
theorem dX8_init_25 : decode cX8_init 25 = .ok (.newarray .int, 2) := by decide +kernel
theorem dX8_init_27 : decode cX8_init 27 = .ok (.putfield 17, 3) := by decide +kernel
theorem dX8_init_30 : decode cX8_init 30 = .ok (.aload_n 0, 1) := by decide +kernel
theorem dX8_init_31 : decode cX8_init 31 = .ok (.sipush 256, 3) := by decide +kernel
theorem dX8_init_34 : decode cX8_init 34 = .ok (.newarray .int, 2) := by decide +kernel
theorem dX8_init_36 : decode cX8_init 36 = .ok (.putfield 20, 3) := by decide +kernel
theorem dX8_init_39 : decode cX8_init 39 = .ok (.aload_n 0, 1) := by decide +kernel
theorem dX8_init_40 : decode cX8_init 40 = .ok (.sipush 256, 3) := by decide +kernel
theorem dX8_init_43 : decode cX8_init 43 = .ok (.newarray .int, 2) := by decide +kernel
theorem dX8_init_45 : decode cX8_init 45 = .ok (.putfield 23, 3) := by decide +kernel
theorem dX8_init_48 : decode cX8_init 48 = .ok (.aload_n 0, 1) := by decide +kernel
theorem dX8_init_49 : decode cX8_init 49 = .ok (.sipush 256, 3) := by decide +kernel
theorem dX8_init_52 : decode cX8_init 52 = .ok (.newarray .int, 2) := by decide +kernel
theorem dX8_init_54 : decode cX8_init 54 = .ok (.putfield 26, 3) := by decide +kernel
theorem dX8_init_57 : decode cX8_init 57 = .ok (.aload_n 0, 1) := by decide +kernel
theorem dX8_init_58 : decode cX8_init 58 = .ok (.bipush 16, 2) := by decide +kernel
theorem dX8_init_60 : decode cX8_init 60 = .ok (.newarray .int, 2) := by decide +kernel
theorem dX8_init_62 : decode cX8_init 62 = .ok (.putfield 29, 3) := by decide +kernel
theorem dX8_init_65 : decode cX8_init 65 = .ok (.aload_n 0, 1) := by decide +kernel
theorem dX8_init_66 : decode cX8_init 66 = .ok (.bipush 120, 2) := by decide +kernel
theorem dX8_init_68 : decode cX8_init 68 = .ok (.newarray .int, 2) := by decide +kernel
theorem dX8_init_70 : decode cX8_init 70 = .ok (.putfield 32, 3) := by decide +kernel
theorem dX8_init_73 : decode cX8_init 73 = .ok (.aload_n 0, 1) := by decide +kernel
theorem dX8_init_74 : decode cX8_init 74 = .ok (.ldc 35, 2) := by decide +kernel
theorem dX8_init_76 : decode cX8_init 76 = .ok (.newarray .int, 2) := by decide +kernel
theorem dX8_init_78 : decode cX8_init 78 = .ok (.putfield 36, 3) := by decide +kernel
theorem dX8_init_81 : decode cX8_init 81 = .ok (.aload_n 0, 1) := by decide +kernel
theorem dX8_init_82 : decode cX8_init 82 = .ok (.ldc 35, 2) := by decide +kernel
theorem dX8_init_84 : decode cX8_init 84 = .ok (.newarray .int, 2) := by decide +kernel
theorem dX8_init_86 : decode cX8_init 86 = .ok (.putfield 39, 3) := by decide +kernel
theorem dX8_init_89 : decode cX8_init 89 = .ok (.aload_n 0, 1) := by decide +kernel
theorem dX8_init_90 : decode cX8_init 90 = .ok (.ldc 35, 2) := by decide +kernel
theorem dX8_init_92 : decode cX8_init 92 = .ok (.newarray .int, 2) := by decide +kernel
theorem dX8_init_94 : decode cX8_init 94 = .ok (.putfield 42, 3) := by decide +kernel
theorem dX8_init_97 : decode cX8_init 97 = .ok (.aload_n 0, 1) := by decide +kernel
theorem dX8_init_98 : decode cX8_init 98 = .ok (.sipush 1024, 3) := by decide +kernel
theorem dX8_init_101 : decode cX8_init 101 = .ok (.newarray .int, 2) := by decide +kernel
theorem dX8_init_103 : decode cX8_init 103 = .ok (.putfield 45, 3) := by decide +kernel
theorem dX8_init_106 : decode cX8_init 106 = .ok (.aload_n 0, 1) := by decide +kernel
theorem dX8_init_107 : decode cX8_init 107 = .ok (.getfield 7, 3) := by decide +kernel
theorem dX8_init_110 : decode cX8_init 110 = .ok (.iconst 0, 1) := by decide +kernel
theorem dX8_init_111 : decode cX8_init 111 = .ok (.iconst 1, 1) := by decide +kernel
theorem dX8_init_112 : decode cX8_init 112 = .ok (.iastore, 1) := by decide +kernel
theorem dX8_init_113 : decode cX8_init 113 = .ok (.aload_n 0, 1) := by decide +kernel
theorem dX8_init_114 : decode cX8_init 114 = .ok (.iconst 0, 1) := by decide +kernel
theorem dX8_init_115 : decode cX8_init 115 = .ok (.invokevirtual 48, 3) := by decide +kernel
theorem dX8_init_118 : decode cX8_init 118 = .ok (.aload_n 0, 1) := by decide +kernel
theorem dX8_init_119 : decode cX8_init 119 = .ok (.invokevirtual 52, 3) := by decide +kernel
theorem dX8_init_122 : decode cX8_init 122 = .ok (.return_, 1) := by decide +kernel
theorem dX8_first_0 : decode cX8_first 0 = .ok (.aload_n 0, 1) := by decide +kernel
theorem dX8_first_1 : decode cX8_first 1 = .ok (.getfield 7, 3) := by decide +kernel
theorem dX8_first_4 : decode cX8_first 4 = .ok (.sipush 279, 3) := by decide +kernel
theorem dX8_first_7 : decode cX8_first 7 = .ok (.iload_n 1, 1) := by decide +kernel
theorem dX8_first_8 : decode cX8_first 8 = .ok (.iadd, 1) := by decide +kernel
theorem dX8_first_9 : decode cX8_first 9 = .ok (.iconst 1, 1) := by decide +kernel
theorem dX8_first_10 : decode cX8_first 10 = .ok (.iastore, 1) := by decide +kernel
theorem dX8_first_11 : decode cX8_first 11 = .ok (.aload_n 0, 1) := by decide +kernel
theorem dX8_first_12 : decode cX8_first 12 = .ok (.getfield 7, 3) := by decide +kernel
theorem dX8_first_15 : decode cX8_first 15 = .ok (.sipush 295, 3) := by decide +kernel
theorem dX8_first_18 : decode cX8_first 18 = .ok (.iload_n 1, 1) := by decide +kernel
theorem dX8_first_19 : decode cX8_first 19 = .ok (.iadd, 1) := by decide +kernel
theorem dX8_first_20 : decode cX8_first 20 = .ok (.iconst 1, 1) := by decide +kernel
theorem dX8_first_21 : decode cX8_first 21 = .ok (.iastore, 1) := by decide +kernel
theorem dX8_first_22 : decode cX8_first 22 = .ok (.return_, 1) := by decide +kernel
theorem dX8_act_0 : decode cX8_act 0 = .ok (.aload_n 0, 1) := by decide +kernel
theorem dX8_act_1 : decode cX8_act 1 = .ok (.aload_n 0, 1) := by decide +kernel
theorem dX8_act_2 : decode cX8_act 2 = .ok (.getfield 55, 3) := by decide +kernel
theorem dX8_act_5 : decode cX8_act 5 = .ok (.iconst 1, 1) := by decide +kernel
theorem dX8_act_6 : decode cX8_act 6 = .ok (.iadd, 1) := by decide +kernel
theorem dX8_act_7 : decode cX8_act 7 = .ok (.bipush 60, 2) := by decide +kernel
theorem dX8_act_9 : decode cX8_act 9 = .ok (.irem, 1) := by decide +kernel
theorem dX8_act_10 : decode cX8_act 10 = .ok (.putfield 55, 3) := by decide +kernel
theorem dX8_act_13 : decode cX8_act 13 = .ok (.iconst 0, 1) := by decide +kernel
theorem dX8_act_14 : decode cX8_act 14 = .ok (.istore_n 1, 1) := by decide +kernel
theorem dX8_act_15 : decode cX8_act 15 = .ok (.iload_n 1, 1) := by decide +kernel
theorem dX8_act_16 : decode cX8_act 16 = .ok (.sipush 600, 3) := by decide +kernel
theorem dX8_act_19 : decode cX8_act 19 = .ok (.if_icmp .ge 30, 3) := by decide +kernel
theorem dX8_act_22 : decode cX8_act 22 = .ok (.aload_n 0, 1) := by decide +kernel
theorem dX8_act_23 : decode cX8_act 23 = .ok (.getfield 14, 3) := by decide +kernel
theorem dX8_act_26 : decode cX8_act 26 = .ok (.sipush 600, 3) := by decide +kernel
theorem dX8_act_29 : decode cX8_act 29 = .ok (.aload_n 0, 1) := by decide +kernel
theorem dX8_act_30 : decode cX8_act 30 = .ok (.getfield 55, 3) := by decide +kernel
theorem dX8_act_33 : decode cX8_act 33 = .ok (.imul, 1) := by decide +kernel
theorem dX8_act_34 : decode cX8_act 34 = .ok (.iload_n 1, 1) := by decide +kernel
theorem dX8_act_35 : decode cX8_act 35 = .ok (.iadd, 1) := by decide +kernel
theorem dX8_act_36 : decode cX8_act 36 = .ok (.aload_n 0, 1) := by decide +kernel
theorem dX8_act_37 : decode cX8_act 37 = .ok (.getfield 7, 3) := by decide +kernel
theorem dX8_act_40 : decode cX8_act 40 = .ok (.iload_n 1, 1) := by decide +kernel
theorem dX8_act_41 : decode cX8_act 41 = .ok (.iaload, 1) := by decide +kernel
theorem dX8_act_42 : decode cX8_act 42 = .ok (.iastore, 1) := by decide +kernel
theorem dX8_act_43 : decode cX8_act 43 = .ok (.iinc 1 1, 3) := by decide +kernel
theorem dX8_act_46 : decode cX8_act 46 = .ok (.goto (-31), 3) := by decide +kernel
theorem dX8_act_49 : decode cX8_act 49 = .ok (.aload_n 0, 1) := by decide +kernel
theorem dX8_act_50 : decode cX8_act 50 = .ok (.getfield 59, 3) := by decide +kernel
theorem dX8_act_53 : decode cX8_act 53 = .ok (.bipush 60, 2) := by decide +kernel
theorem dX8_act_55 : decode cX8_act 55 = .ok (.if_icmp .ge 13, 3) := by decide +kernel
theorem dX8_act_58 : decode cX8_act 58 = .ok (.aload_n 0, 1) := by decide +kernel
theorem dX8_act_59 : decode cX8_act 59 = .ok (.dup, 1) := by decide +kernel
theorem dX8_act_60 : decode cX8_act 60 = .ok (.getfield 59, 3) := by decide +kernel
theorem dX8_act_63 : decode cX8_act 63 = .ok (.iconst 1, 1) := by decide +kernel
theorem dX8_act_64 : decode cX8_act 64 = .ok (.iadd, 1) := by decide +kernel
theorem dX8_act_65 : decode cX8_act 65 = .ok (.putfield 59, 3) := by decide +kernel
theorem dX8_act_68 : decode cX8_act 68 = .ok (.return_, 1) := by decide +kernel
theorem dX8_undo_0 : decode cX8_undo 0 = .ok (.iload_n 1, 1) := by decide +kernel
theorem dX8_undo_1 : decode cX8_undo 1 = .ok (.ifCond .lt 11, 3) := by decide +kernel
theorem dX8_undo_4 : decode cX8_undo 4 = .ok (.iload_n 1, 1) := by decide +kernel
theorem dX8_undo_5 : decode cX8_undo 5 = .ok (.aload_n 0, 1) := by decide +kernel
theorem dX8_undo_6 : decode cX8_undo 6 = .ok (.getfield 59, 3) := by decide +kernel
theorem dX8_undo_9 : decode cX8_undo 9 = .ok (.if_icmp .le 5, 3) := by decide +kernel
theorem dX8_undo_12 : decode cX8_undo 12 = .ok (.iconst (-1), 1) := by decide +kernel
theorem dX8_undo_13 : decode cX8_undo 13 = .ok (.ireturn, 1) := by decide +kernel
theorem dX8_undo_14 : decode cX8_undo 14 = .ok (.iconst 0, 1) := by decide +kernel
theorem dX8_undo_15 : decode cX8_undo 15 = .ok (.istore_n 2, 1) := by decide +kernel
theorem dX8_undo_16 : decode cX8_undo 16 = .ok (.iload_n 2, 1) := by decide +kernel
theorem dX8_undo_17 : decode cX8_undo 17 = .ok (.iload_n 1, 1) := by decide +kernel
theorem dX8_undo_18 : decode cX8_undo 18 = .ok (.if_icmp .ge 71, 3) := by decide +kernel
theorem dX8_undo_21 : decode cX8_undo 21 = .ok (.iconst 0, 1) := by decide +kernel
theorem dX8_undo_22 : decode cX8_undo 22 = .ok (.istore_n 3, 1) := by decide +kernel
theorem dX8_undo_23 : decode cX8_undo 23 = .ok (.iload_n 3, 1) := by decide +kernel
theorem dX8_undo_24 : decode cX8_undo 24 = .ok (.sipush 600, 3) := by decide +kernel
theorem dX8_undo_27 : decode cX8_undo 27 = .ok (.if_icmp .ge 30, 3) := by decide +kernel
theorem dX8_undo_30 : decode cX8_undo 30 = .ok (.aload_n 0, 1) := by decide +kernel
theorem dX8_undo_31 : decode cX8_undo 31 = .ok (.getfield 7, 3) := by decide +kernel
theorem dX8_undo_34 : decode cX8_undo 34 = .ok (.iload_n 3, 1) := by decide +kernel
theorem dX8_undo_35 : decode cX8_undo 35 = .ok (.aload_n 0, 1) := by decide +kernel
theorem dX8_undo_36 : decode cX8_undo 36 = .ok (.getfield 14, 3) := by decide +kernel
theorem dX8_undo_39 : decode cX8_undo 39 = .ok (.sipush 600, 3) := by decide +kernel
theorem dX8_undo_42 : decode cX8_undo 42 = .ok (.aload_n 0, 1) := by decide +kernel
theorem dX8_undo_43 : decode cX8_undo 43 = .ok (.getfield 55, 3) := by decide +kernel
theorem dX8_undo_46 : decode cX8_undo 46 = .ok (.imul, 1) := by decide +kernel
theorem dX8_undo_47 : decode cX8_undo 47 = .ok (.iload_n 3, 1) := by decide +kernel
theorem dX8_undo_48 : decode cX8_undo 48 = .ok (.iadd, 1) := by decide +kernel
theorem dX8_undo_49 : decode cX8_undo 49 = .ok (.iaload, 1) := by decide +kernel
theorem dX8_undo_50 : decode cX8_undo 50 = .ok (.iastore, 1) := by decide +kernel
theorem dX8_undo_51 : decode cX8_undo 51 = .ok (.iinc 3 1, 3) := by decide +kernel
theorem dX8_undo_54 : decode cX8_undo 54 = .ok (.goto (-31), 3) := by decide +kernel
theorem dX8_undo_57 : decode cX8_undo 57 = .ok (.aload_n 0, 1) := by decide +kernel
theorem dX8_undo_58 : decode cX8_undo 58 = .ok (.aload_n 0, 1) := by decide +kernel
theorem dX8_undo_59 : decode cX8_undo 59 = .ok (.getfield 55, 3) := by decide +kernel
theorem dX8_undo_62 : decode cX8_undo 62 = .ok (.bipush 60, 2) := by decide +kernel
theorem dX8_undo_64 : decode cX8_undo 64 = .ok (.iadd, 1) := by decide +kernel
theorem dX8_undo_65 : decode cX8_undo 65 = .ok (.iconst 1, 1) := by decide +kernel
theorem dX8_undo_66 : decode cX8_undo 66 = .ok (.isub, 1) := by decide +kernel
theorem dX8_undo_67 : decode cX8_undo 67 = .ok (.bipush 60, 2) := by decide +kernel
theorem dX8_undo_69 : decode cX8_undo 69 = .ok (.irem, 1) := by decide +kernel
theorem dX8_undo_70 : decode cX8_undo 70 = .ok (.putfield 55, 3) := by decide +kernel
theorem dX8_undo_73 : decode cX8_undo 73 = .ok (.aload_n 0, 1) := by decide +kernel
theorem dX8_undo_74 : decode cX8_undo 74 = .ok (.dup, 1) := by decide +kernel
theorem dX8_undo_75 : decode cX8_undo 75 = .ok (.getfield 59, 3) := by decide +kernel
theorem dX8_undo_78 : decode cX8_undo 78 = .ok (.iconst 1, 1) := by decide +kernel
theorem dX8_undo_79 : decode cX8_undo 79 = .ok (.isub, 1) := by decide +kernel
theorem dX8_undo_80 : decode cX8_undo 80 = .ok (.putfield 59, 3) := by decide +kernel
theorem dX8_undo_83 : decode cX8_undo 83 = .ok (.iinc 2 1, 3) := by decide +kernel
theorem dX8_undo_86 : decode cX8_undo 86 = .ok (.goto (-70), 3) := by decide +kernel
theorem dX8_undo_89 : decode cX8_undo 89 = .ok (.aload_n 0, 1) := by decide +kernel
theorem dX8_undo_90 : decode cX8_undo 90 = .ok (.invokevirtual 52, 3) := by decide +kernel
theorem dX8_undo_93 : decode cX8_undo 93 = .ok (.iload_n 1, 1) := by decide +kernel
theorem dX8_undo_94 : decode cX8_undo 94 = .ok (.ireturn, 1) := by decide +kernel
theorem dX8_n_0 : decode cX8_n 0 = .ok (.aload_n 0, 1) := by decide +kernel
theorem dX8_n_1 : decode cX8_n 1 = .ok (.getfield 7, 3) := by decide +kernel
theorem dX8_n_4 : decode cX8_n 4 = .ok (.iconst 0, 1) := by decide +kernel
theorem dX8_n_5 : decode cX8_n 5 = .ok (.iaload, 1) := by decide +kernel
theorem dX8_n_6 : decode cX8_n 6 = .ok (.ireturn, 1) := by decide +kernel
theorem dX8_isPost_0 : decode cX8_isPost 0 = .ok (.iload_n 1, 1) := by decide +kernel
theorem dX8_isPost_1 : decode cX8_isPost 1 = .ok (.ifCond .lt 15, 3) := by decide +kernel
theorem dX8_isPost_4 : decode cX8_isPost 4 = .ok (.iload_n 1, 1) := by decide +kernel
theorem dX8_isPost_5 : decode cX8_isPost 5 = .ok (.aload_n 0, 1) := by decide +kernel
theorem dX8_isPost_6 : decode cX8_isPost 6 = .ok (.invokevirtual 62, 3) := by decide +kernel
theorem dX8_isPost_9 : decode cX8_isPost 9 = .ok (.if_icmp .ge 7, 3) := by decide +kernel
theorem dX8_isPost_12 : decode cX8_isPost 12 = .ok (.iconst 1, 1) := by decide +kernel
theorem dX8_isPost_13 : decode cX8_isPost 13 = .ok (.goto 4, 3) := by decide +kernel
theorem dX8_isPost_16 : decode cX8_isPost 16 = .ok (.iconst 0, 1) := by decide +kernel
theorem dX8_isPost_17 : decode cX8_isPost 17 = .ok (.ireturn, 1) := by decide +kernel
theorem dX8_isSet_0 : decode cX8_isSet 0 = .ok (.iload_n 1, 1) := by decide +kernel
theorem dX8_isSet_1 : decode cX8_isSet 1 = .ok (.ifCond .lt 17, 3) := by decide +kernel
theorem dX8_isSet_4 : decode cX8_isSet 4 = .ok (.iload_n 1, 1) := by decide +kernel
theorem dX8_isSet_5 : decode cX8_isSet 5 = .ok (.iconst 1, 1) := by decide +kernel
theorem dX8_isSet_6 : decode cX8_isSet 6 = .ok (.aload_n 0, 1) := by decide +kernel
theorem dX8_isSet_7 : decode cX8_isSet 7 = .ok (.invokevirtual 62, 3) := by decide +kernel
theorem dX8_isSet_10 : decode cX8_isSet 10 = .ok (.ishl, 1) := by decide +kernel
theorem dX8_isSet_11 : decode cX8_isSet 11 = .ok (.if_icmp .ge 7, 3) := by decide +kernel
theorem dX8_isSet_14 : decode cX8_isSet 14 = .ok (.iconst 1, 1) := by decide +kernel
theorem dX8_isSet_15 : decode cX8_isSet 15 = .ok (.goto 4, 3) := by decide +kernel
theorem dX8_isSet_18 : decode cX8_isSet 18 = .ok (.iconst 0, 1) := by decide +kernel
theorem dX8_isSet_19 : decode cX8_isSet 19 = .ok (.ireturn, 1) := by decide +kernel
theorem dX8_length_0 : decode cX8_length 0 = .ok (.aload_n 0, 1) := by decide +kernel
theorem dX8_length_1 : decode cX8_length 1 = .ok (.getfield 7, 3) := by decide +kernel
theorem dX8_length_4 : decode cX8_length 4 = .ok (.bipush 7, 2) := by decide +kernel
theorem dX8_length_6 : decode cX8_length 6 = .ok (.bipush 16, 2) := by decide +kernel
theorem dX8_length_8 : decode cX8_length 8 = .ok (.iload_n 1, 1) := by decide +kernel
theorem dX8_length_9 : decode cX8_length 9 = .ok (.imul, 1) := by decide +kernel
theorem dX8_length_10 : decode cX8_length 10 = .ok (.iadd, 1) := by decide +kernel
theorem dX8_length_11 : decode cX8_length 11 = .ok (.iload_n 2, 1) := by decide +kernel
theorem dX8_length_12 : decode cX8_length 12 = .ok (.iadd, 1) := by decide +kernel
theorem dX8_length_13 : decode cX8_length 13 = .ok (.iaload, 1) := by decide +kernel
theorem dX8_length_14 : decode cX8_length 14 = .ok (.ireturn, 1) := by decide +kernel
theorem dX8_isRoad_0 : decode cX8_isRoad 0 = .ok (.aload_n 0, 1) := by decide +kernel
theorem dX8_isRoad_1 : decode cX8_isRoad 1 = .ok (.iload_n 1, 1) := by decide +kernel
theorem dX8_isRoad_2 : decode cX8_isRoad 2 = .ok (.invokevirtual 66, 3) := by decide +kernel
theorem dX8_isRoad_5 : decode cX8_isRoad 5 = .ok (.ifCond .eq 41, 3) := by decide +kernel
theorem dX8_isRoad_8 : decode cX8_isRoad 8 = .ok (.aload_n 0, 1) := by decide +kernel
theorem dX8_isRoad_9 : decode cX8_isRoad 9 = .ok (.iload_n 2, 1) := by decide +kernel
theorem dX8_isRoad_10 : decode cX8_isRoad 10 = .ok (.invokevirtual 66, 3) := by decide +kernel
theorem dX8_isRoad_13 : decode cX8_isRoad 13 = .ok (.ifCond .eq 33, 3) := by decide +kernel
theorem dX8_isRoad_16 : decode cX8_isRoad 16 = .ok (.iload_n 1, 1) := by decide +kernel
theorem dX8_isRoad_17 : decode cX8_isRoad 17 = .ok (.iload_n 2, 1) := by decide +kernel
theorem dX8_isRoad_18 : decode cX8_isRoad 18 = .ok (.if_icmp .eq 28, 3) := by decide +kernel
theorem dX8_isRoad_21 : decode cX8_isRoad 21 = .ok (.iload_n 3, 1) := by decide +kernel
theorem dX8_isRoad_22 : decode cX8_isRoad 22 = .ok (.iconst 1, 1) := by decide +kernel
theorem dX8_isRoad_23 : decode cX8_isRoad 23 = .ok (.if_icmp .lt 23, 3) := by decide +kernel
theorem dX8_isRoad_26 : decode cX8_isRoad 26 = .ok (.iload_n 3, 1) := by decide +kernel
theorem dX8_isRoad_27 : decode cX8_isRoad 27 = .ok (.sipush 1000, 3) := by decide +kernel
theorem dX8_isRoad_30 : decode cX8_isRoad 30 = .ok (.if_icmp .gt 16, 3) := by decide +kernel
theorem dX8_isRoad_33 : decode cX8_isRoad 33 = .ok (.aload_n 0, 1) := by decide +kernel
theorem dX8_isRoad_34 : decode cX8_isRoad 34 = .ok (.iload_n 1, 1) := by decide +kernel
theorem dX8_isRoad_35 : decode cX8_isRoad 35 = .ok (.iload_n 2, 1) := by decide +kernel
theorem dX8_isRoad_36 : decode cX8_isRoad 36 = .ok (.invokevirtual 70, 3) := by decide +kernel
theorem dX8_isRoad_39 : decode cX8_isRoad 39 = .ok (.ifCond .ne 7, 3) := by decide +kernel
theorem dX8_isRoad_42 : decode cX8_isRoad 42 = .ok (.iconst 1, 1) := by decide +kernel
theorem dX8_isRoad_43 : decode cX8_isRoad 43 = .ok (.goto 4, 3) := by decide +kernel
theorem dX8_isRoad_46 : decode cX8_isRoad 46 = .ok (.iconst 0, 1) := by decide +kernel
theorem dX8_isRoad_47 : decode cX8_isRoad 47 = .ok (.ireturn, 1) := by decide +kernel
theorem dX8_lay_0 : decode cX8_lay 0 = .ok (.aload_n 0, 1) := by decide +kernel
theorem dX8_lay_1 : decode cX8_lay 1 = .ok (.getfield 7, 3) := by decide +kernel
theorem dX8_lay_4 : decode cX8_lay 4 = .ok (.bipush 7, 2) := by decide +kernel
theorem dX8_lay_6 : decode cX8_lay 6 = .ok (.bipush 16, 2) := by decide +kernel
theorem dX8_lay_8 : decode cX8_lay 8 = .ok (.iload_n 1, 1) := by decide +kernel
theorem dX8_lay_9 : decode cX8_lay 9 = .ok (.imul, 1) := by decide +kernel
theorem dX8_lay_10 : decode cX8_lay 10 = .ok (.iadd, 1) := by decide +kernel
theorem dX8_lay_11 : decode cX8_lay 11 = .ok (.iload_n 2, 1) := by decide +kernel
theorem dX8_lay_12 : decode cX8_lay 12 = .ok (.iadd, 1) := by decide +kernel
theorem dX8_lay_13 : decode cX8_lay 13 = .ok (.iload_n 3, 1) := by decide +kernel
theorem dX8_lay_14 : decode cX8_lay 14 = .ok (.iastore, 1) := by decide +kernel
theorem dX8_lay_15 : decode cX8_lay 15 = .ok (.aload_n 0, 1) := by decide +kernel
theorem dX8_lay_16 : decode cX8_lay 16 = .ok (.getfield 7, 3) := by decide +kernel
theorem dX8_lay_19 : decode cX8_lay 19 = .ok (.bipush 7, 2) := by decide +kernel
theorem dX8_lay_21 : decode cX8_lay 21 = .ok (.bipush 16, 2) := by decide +kernel
theorem dX8_lay_23 : decode cX8_lay 23 = .ok (.iload_n 2, 1) := by decide +kernel
theorem dX8_lay_24 : decode cX8_lay 24 = .ok (.imul, 1) := by decide +kernel
theorem dX8_lay_25 : decode cX8_lay 25 = .ok (.iadd, 1) := by decide +kernel
theorem dX8_lay_26 : decode cX8_lay 26 = .ok (.iload_n 1, 1) := by decide +kernel
theorem dX8_lay_27 : decode cX8_lay 27 = .ok (.iadd, 1) := by decide +kernel
theorem dX8_lay_28 : decode cX8_lay 28 = .ok (.iload_n 3, 1) := by decide +kernel
theorem dX8_lay_29 : decode cX8_lay 29 = .ok (.iastore, 1) := by decide +kernel
theorem dX8_lay_30 : decode cX8_lay 30 = .ok (.return_, 1) := by decide +kernel
theorem dX8_walk_0 : decode cX8_walk 0 = .ok (.iconst 0, 1) := by decide +kernel
theorem dX8_walk_1 : decode cX8_walk 1 = .ok (.istore_n 1, 1) := by decide +kernel
theorem dX8_walk_2 : decode cX8_walk 2 = .ok (.iload_n 1, 1) := by decide +kernel
theorem dX8_walk_3 : decode cX8_walk 3 = .ok (.bipush 16, 2) := by decide +kernel
theorem dX8_walk_5 : decode cX8_walk 5 = .ok (.if_icmp .ge 63, 3) := by decide +kernel
theorem dX8_walk_8 : decode cX8_walk 8 = .ok (.iconst 0, 1) := by decide +kernel
theorem dX8_walk_9 : decode cX8_walk 9 = .ok (.istore_n 2, 1) := by decide +kernel
theorem dX8_walk_10 : decode cX8_walk 10 = .ok (.iload_n 2, 1) := by decide +kernel
theorem dX8_walk_11 : decode cX8_walk 11 = .ok (.bipush 16, 2) := by decide +kernel
theorem dX8_walk_13 : decode cX8_walk 13 = .ok (.if_icmp .ge 49, 3) := by decide +kernel
theorem dX8_walk_16 : decode cX8_walk 16 = .ok (.aload_n 0, 1) := by decide +kernel
theorem dX8_walk_17 : decode cX8_walk 17 = .ok (.getfield 20, 3) := by decide +kernel
theorem dX8_walk_20 : decode cX8_walk 20 = .ok (.bipush 16, 2) := by decide +kernel
theorem dX8_walk_22 : decode cX8_walk 22 = .ok (.iload_n 1, 1) := by decide +kernel
theorem dX8_walk_23 : decode cX8_walk 23 = .ok (.imul, 1) := by decide +kernel
theorem dX8_walk_24 : decode cX8_walk 24 = .ok (.iload_n 2, 1) := by decide +kernel
theorem dX8_walk_25 : decode cX8_walk 25 = .ok (.iadd, 1) := by decide +kernel
theorem dX8_walk_26 : decode cX8_walk 26 = .ok (.iload_n 1, 1) := by decide +kernel
theorem dX8_walk_27 : decode cX8_walk 27 = .ok (.iload_n 2, 1) := by decide +kernel
theorem dX8_walk_28 : decode cX8_walk 28 = .ok (.if_icmp .ne 7, 3) := by decide +kernel
theorem dX8_walk_31 : decode cX8_walk 31 = .ok (.iconst 0, 1) := by decide +kernel
theorem dX8_walk_32 : decode cX8_walk 32 = .ok (.goto 23, 3) := by decide +kernel
theorem dX8_walk_35 : decode cX8_walk 35 = .ok (.aload_n 0, 1) := by decide +kernel
theorem dX8_walk_36 : decode cX8_walk 36 = .ok (.iload_n 1, 1) := by decide +kernel
theorem dX8_walk_37 : decode cX8_walk 37 = .ok (.iload_n 2, 1) := by decide +kernel
theorem dX8_walk_38 : decode cX8_walk 38 = .ok (.invokevirtual 70, 3) := by decide +kernel
theorem dX8_walk_41 : decode cX8_walk 41 = .ok (.ifCond .le 12, 3) := by decide +kernel
theorem dX8_walk_44 : decode cX8_walk 44 = .ok (.aload_n 0, 1) := by decide +kernel
theorem dX8_walk_45 : decode cX8_walk 45 = .ok (.iload_n 1, 1) := by decide +kernel
theorem dX8_walk_46 : decode cX8_walk 46 = .ok (.iload_n 2, 1) := by decide +kernel
theorem dX8_walk_47 : decode cX8_walk 47 = .ok (.invokevirtual 70, 3) := by decide +kernel
theorem dX8_walk_50 : decode cX8_walk 50 = .ok (.goto 5, 3) := by decide +kernel
theorem dX8_walk_53 : decode cX8_walk 53 = .ok (.ldc 74, 2) := by decide +kernel
theorem dX8_walk_55 : decode cX8_walk 55 = .ok (.iastore, 1) := by decide +kernel
theorem dX8_walk_56 : decode cX8_walk 56 = .ok (.iinc 2 1, 3) := by decide +kernel
theorem dX8_walk_59 : decode cX8_walk 59 = .ok (.goto (-49), 3) := by decide +kernel
theorem dX8_walk_62 : decode cX8_walk 62 = .ok (.iinc 1 1, 3) := by decide +kernel
theorem dX8_walk_65 : decode cX8_walk 65 = .ok (.goto (-63), 3) := by decide +kernel
theorem dX8_walk_68 : decode cX8_walk 68 = .ok (.iconst 0, 1) := by decide +kernel
theorem dX8_walk_69 : decode cX8_walk 69 = .ok (.istore_n 1, 1) := by decide +kernel
theorem dX8_walk_70 : decode cX8_walk 70 = .ok (.iload_n 1, 1) := by decide +kernel
theorem dX8_walk_71 : decode cX8_walk 71 = .ok (.aload_n 0, 1) := by decide +kernel
theorem dX8_walk_72 : decode cX8_walk 72 = .ok (.invokevirtual 62, 3) := by decide +kernel
theorem dX8_walk_75 : decode cX8_walk 75 = .ok (.if_icmp .ge 95, 3) := by decide +kernel
theorem dX8_walk_78 : decode cX8_walk 78 = .ok (.iconst 0, 1) := by decide +kernel
theorem dX8_walk_79 : decode cX8_walk 79 = .ok (.istore_n 2, 1) := by decide +kernel
theorem dX8_walk_80 : decode cX8_walk 80 = .ok (.iload_n 2, 1) := by decide +kernel
theorem dX8_walk_81 : decode cX8_walk 81 = .ok (.aload_n 0, 1) := by decide +kernel
theorem dX8_walk_82 : decode cX8_walk 82 = .ok (.invokevirtual 62, 3) := by decide +kernel
theorem dX8_walk_85 : decode cX8_walk 85 = .ok (.if_icmp .ge 79, 3) := by decide +kernel
theorem dX8_walk_88 : decode cX8_walk 88 = .ok (.iconst 0, 1) := by decide +kernel
theorem dX8_walk_89 : decode cX8_walk 89 = .ok (.istore_n 3, 1) := by decide +kernel
theorem dX8_walk_90 : decode cX8_walk 90 = .ok (.iload_n 3, 1) := by decide +kernel
theorem dX8_walk_91 : decode cX8_walk 91 = .ok (.aload_n 0, 1) := by decide +kernel
theorem dX8_walk_92 : decode cX8_walk 92 = .ok (.invokevirtual 62, 3) := by decide +kernel
theorem dX8_walk_95 : decode cX8_walk 95 = .ok (.if_icmp .ge 63, 3) := by decide +kernel
theorem dX8_walk_98 : decode cX8_walk 98 = .ok (.aload_n 0, 1) := by decide +kernel
theorem dX8_walk_99 : decode cX8_walk 99 = .ok (.getfield 20, 3) := by decide +kernel
theorem dX8_walk_102 : decode cX8_walk 102 = .ok (.bipush 16, 2) := by decide +kernel
theorem dX8_walk_104 : decode cX8_walk 104 = .ok (.iload_n 2, 1) := by decide +kernel
theorem dX8_walk_105 : decode cX8_walk 105 = .ok (.imul, 1) := by decide +kernel
theorem dX8_walk_106 : decode cX8_walk 106 = .ok (.iload_n 1, 1) := by decide +kernel
theorem dX8_walk_107 : decode cX8_walk 107 = .ok (.iadd, 1) := by decide +kernel
theorem dX8_walk_108 : decode cX8_walk 108 = .ok (.iaload, 1) := by decide +kernel
theorem dX8_walk_109 : decode cX8_walk 109 = .ok (.aload_n 0, 1) := by decide +kernel
theorem dX8_walk_110 : decode cX8_walk 110 = .ok (.getfield 20, 3) := by decide +kernel
theorem dX8_walk_113 : decode cX8_walk 113 = .ok (.bipush 16, 2) := by decide +kernel
theorem dX8_walk_115 : decode cX8_walk 115 = .ok (.iload_n 1, 1) := by decide +kernel
theorem dX8_walk_116 : decode cX8_walk 116 = .ok (.imul, 1) := by decide +kernel
theorem dX8_walk_117 : decode cX8_walk 117 = .ok (.iload_n 3, 1) := by decide +kernel
theorem dX8_walk_118 : decode cX8_walk 118 = .ok (.iadd, 1) := by decide +kernel
theorem dX8_walk_119 : decode cX8_walk 119 = .ok (.iaload, 1) := by decide +kernel
theorem dX8_walk_120 : decode cX8_walk 120 = .ok (.iadd, 1) := by decide +kernel
theorem dX8_walk_121 : decode cX8_walk 121 = .ok (.istore 4, 2) := by decide +kernel
theorem dX8_walk_123 : decode cX8_walk 123 = .ok (.iload 4, 2) := by decide +kernel
theorem dX8_walk_125 : decode cX8_walk 125 = .ok (.aload_n 0, 1) := by decide +kernel
theorem dX8_walk_126 : decode cX8_walk 126 = .ok (.getfield 20, 3) := by decide +kernel
theorem dX8_walk_129 : decode cX8_walk 129 = .ok (.bipush 16, 2) := by decide +kernel
theorem dX8_walk_131 : decode cX8_walk 131 = .ok (.iload_n 2, 1) := by decide +kernel
theorem dX8_walk_132 : decode cX8_walk 132 = .ok (.imul, 1) := by decide +kernel
theorem dX8_walk_133 : decode cX8_walk 133 = .ok (.iload_n 3, 1) := by decide +kernel
theorem dX8_walk_134 : decode cX8_walk 134 = .ok (.iadd, 1) := by decide +kernel
theorem dX8_walk_135 : decode cX8_walk 135 = .ok (.iaload, 1) := by decide +kernel
theorem dX8_walk_136 : decode cX8_walk 136 = .ok (.if_icmp .ge 16, 3) := by decide +kernel
theorem dX8_walk_139 : decode cX8_walk 139 = .ok (.aload_n 0, 1) := by decide +kernel
theorem dX8_walk_140 : decode cX8_walk 140 = .ok (.getfield 20, 3) := by decide +kernel
theorem dX8_walk_143 : decode cX8_walk 143 = .ok (.bipush 16, 2) := by decide +kernel
theorem dX8_walk_145 : decode cX8_walk 145 = .ok (.iload_n 2, 1) := by decide +kernel
theorem dX8_walk_146 : decode cX8_walk 146 = .ok (.imul, 1) := by decide +kernel
theorem dX8_walk_147 : decode cX8_walk 147 = .ok (.iload_n 3, 1) := by decide +kernel
theorem dX8_walk_148 : decode cX8_walk 148 = .ok (.iadd, 1) := by decide +kernel
theorem dX8_walk_149 : decode cX8_walk 149 = .ok (.iload 4, 2) := by decide +kernel
theorem dX8_walk_151 : decode cX8_walk 151 = .ok (.iastore, 1) := by decide +kernel
theorem dX8_walk_152 : decode cX8_walk 152 = .ok (.iinc 3 1, 3) := by decide +kernel
theorem dX8_walk_155 : decode cX8_walk 155 = .ok (.goto (-65), 3) := by decide +kernel
theorem dX8_walk_158 : decode cX8_walk 158 = .ok (.iinc 2 1, 3) := by decide +kernel
theorem dX8_walk_161 : decode cX8_walk 161 = .ok (.goto (-81), 3) := by decide +kernel
theorem dX8_walk_164 : decode cX8_walk 164 = .ok (.iinc 1 1, 3) := by decide +kernel
theorem dX8_walk_167 : decode cX8_walk 167 = .ok (.goto (-97), 3) := by decide +kernel
theorem dX8_walk_170 : decode cX8_walk 170 = .ok (.iconst 0, 1) := by decide +kernel
theorem dX8_walk_171 : decode cX8_walk 171 = .ok (.istore_n 1, 1) := by decide +kernel
theorem dX8_walk_172 : decode cX8_walk 172 = .ok (.iload_n 1, 1) := by decide +kernel
theorem dX8_walk_173 : decode cX8_walk 173 = .ok (.aload_n 0, 1) := by decide +kernel
theorem dX8_walk_174 : decode cX8_walk 174 = .ok (.invokevirtual 62, 3) := by decide +kernel
theorem dX8_walk_177 : decode cX8_walk 177 = .ok (.if_icmp .ge 42, 3) := by decide +kernel
theorem dX8_walk_180 : decode cX8_walk 180 = .ok (.iconst 0, 1) := by decide +kernel
theorem dX8_walk_181 : decode cX8_walk 181 = .ok (.istore_n 2, 1) := by decide +kernel
theorem dX8_walk_182 : decode cX8_walk 182 = .ok (.iload_n 2, 1) := by decide +kernel
theorem dX8_walk_183 : decode cX8_walk 183 = .ok (.aload_n 0, 1) := by decide +kernel
theorem dX8_walk_184 : decode cX8_walk 184 = .ok (.invokevirtual 62, 3) := by decide +kernel
theorem dX8_walk_187 : decode cX8_walk 187 = .ok (.if_icmp .ge 26, 3) := by decide +kernel
theorem dX8_walk_190 : decode cX8_walk 190 = .ok (.aload_n 0, 1) := by decide +kernel
theorem dX8_walk_191 : decode cX8_walk 191 = .ok (.getfield 23, 3) := by decide +kernel
theorem dX8_walk_194 : decode cX8_walk 194 = .ok (.bipush 16, 2) := by decide +kernel
theorem dX8_walk_196 : decode cX8_walk 196 = .ok (.iload_n 1, 1) := by decide +kernel
theorem dX8_walk_197 : decode cX8_walk 197 = .ok (.imul, 1) := by decide +kernel
theorem dX8_walk_198 : decode cX8_walk 198 = .ok (.iload_n 2, 1) := by decide +kernel
theorem dX8_walk_199 : decode cX8_walk 199 = .ok (.iadd, 1) := by decide +kernel
theorem dX8_walk_200 : decode cX8_walk 200 = .ok (.aload_n 0, 1) := by decide +kernel
theorem dX8_walk_201 : decode cX8_walk 201 = .ok (.iload_n 1, 1) := by decide +kernel
theorem dX8_walk_202 : decode cX8_walk 202 = .ok (.iload_n 2, 1) := by decide +kernel
theorem dX8_walk_203 : decode cX8_walk 203 = .ok (.invokevirtual 75, 3) := by decide +kernel
theorem dX8_walk_206 : decode cX8_walk 206 = .ok (.iastore, 1) := by decide +kernel
theorem dX8_walk_207 : decode cX8_walk 207 = .ok (.iinc 2 1, 3) := by decide +kernel
theorem dX8_walk_210 : decode cX8_walk 210 = .ok (.goto (-28), 3) := by decide +kernel
theorem dX8_walk_213 : decode cX8_walk 213 = .ok (.iinc 1 1, 3) := by decide +kernel
theorem dX8_walk_216 : decode cX8_walk 216 = .ok (.goto (-44), 3) := by decide +kernel
theorem dX8_walk_219 : decode cX8_walk 219 = .ok (.return_, 1) := by decide +kernel
theorem dX8_says_0 : decode cX8_says 0 = .ok (.aload_n 0, 1) := by decide +kernel
theorem dX8_says_1 : decode cX8_says 1 = .ok (.getfield 20, 3) := by decide +kernel
theorem dX8_says_4 : decode cX8_says 4 = .ok (.bipush 16, 2) := by decide +kernel
theorem dX8_says_6 : decode cX8_says 6 = .ok (.iload_n 1, 1) := by decide +kernel
theorem dX8_says_7 : decode cX8_says 7 = .ok (.imul, 1) := by decide +kernel
theorem dX8_says_8 : decode cX8_says 8 = .ok (.iload_n 2, 1) := by decide +kernel
theorem dX8_says_9 : decode cX8_says 9 = .ok (.iadd, 1) := by decide +kernel
theorem dX8_says_10 : decode cX8_says 10 = .ok (.iaload, 1) := by decide +kernel
theorem dX8_says_11 : decode cX8_says 11 = .ok (.istore_n 3, 1) := by decide +kernel
theorem dX8_says_12 : decode cX8_says 12 = .ok (.aload_n 0, 1) := by decide +kernel
theorem dX8_says_13 : decode cX8_says 13 = .ok (.iload_n 1, 1) := by decide +kernel
theorem dX8_says_14 : decode cX8_says 14 = .ok (.iload_n 2, 1) := by decide +kernel
theorem dX8_says_15 : decode cX8_says 15 = .ok (.invokevirtual 70, 3) := by decide +kernel
theorem dX8_says_18 : decode cX8_says 18 = .ok (.ifCond .le 7, 3) := by decide +kernel
theorem dX8_says_21 : decode cX8_says 21 = .ok (.iconst 1, 1) := by decide +kernel
theorem dX8_says_22 : decode cX8_says 22 = .ok (.goto 4, 3) := by decide +kernel
theorem dX8_says_25 : decode cX8_says 25 = .ok (.iconst 0, 1) := by decide +kernel
theorem dX8_says_26 : decode cX8_says 26 = .ok (.istore 4, 2) := by decide +kernel
theorem dX8_says_28 : decode cX8_says 28 = .ok (.aload_n 0, 1) := by decide +kernel
theorem dX8_says_29 : decode cX8_says 29 = .ok (.getfield 7, 3) := by decide +kernel
theorem dX8_says_32 : decode cX8_says 32 = .ok (.iconst 1, 1) := by decide +kernel
theorem dX8_says_33 : decode cX8_says 33 = .ok (.iaload, 1) := by decide +kernel
theorem dX8_says_34 : decode cX8_says 34 = .ok (.tableswitch 75 0 3 #[30, 32, 48, 59], 30) := by decide +kernel
theorem dX8_says_64 : decode cX8_says 64 = .ok (.iload_n 3, 1) := by decide +kernel
theorem dX8_says_65 : decode cX8_says 65 = .ok (.ireturn, 1) := by decide +kernel
theorem dX8_says_66 : decode cX8_says 66 = .ok (.iload 4, 2) := by decide +kernel
theorem dX8_says_68 : decode cX8_says 68 = .ok (.ifCond .ne 8, 3) := by decide +kernel
theorem dX8_says_71 : decode cX8_says 71 = .ok (.iload_n 1, 1) := by decide +kernel
theorem dX8_says_72 : decode cX8_says 72 = .ok (.iload_n 2, 1) := by decide +kernel
theorem dX8_says_73 : decode cX8_says 73 = .ok (.if_icmp .ne 7, 3) := by decide +kernel
theorem dX8_says_76 : decode cX8_says 76 = .ok (.iconst 1, 1) := by decide +kernel
theorem dX8_says_77 : decode cX8_says 77 = .ok (.goto 4, 3) := by decide +kernel
theorem dX8_says_80 : decode cX8_says 80 = .ok (.iconst 0, 1) := by decide +kernel
theorem dX8_says_81 : decode cX8_says 81 = .ok (.ireturn, 1) := by decide +kernel
theorem dX8_says_82 : decode cX8_says 82 = .ok (.iload 4, 2) := by decide +kernel
theorem dX8_says_84 : decode cX8_says 84 = .ok (.ifCond .eq 7, 3) := by decide +kernel
theorem dX8_says_87 : decode cX8_says 87 = .ok (.iconst 1, 1) := by decide +kernel
theorem dX8_says_88 : decode cX8_says 88 = .ok (.goto 4, 3) := by decide +kernel
theorem dX8_says_91 : decode cX8_says 91 = .ok (.iconst 0, 1) := by decide +kernel
theorem dX8_says_92 : decode cX8_says 92 = .ok (.ireturn, 1) := by decide +kernel
theorem dX8_says_93 : decode cX8_says 93 = .ok (.iload_n 3, 1) := by decide +kernel
theorem dX8_says_94 : decode cX8_says 94 = .ok (.aload_n 0, 1) := by decide +kernel
theorem dX8_says_95 : decode cX8_says 95 = .ok (.getfield 7, 3) := by decide +kernel
theorem dX8_says_98 : decode cX8_says 98 = .ok (.iconst 2, 1) := by decide +kernel
theorem dX8_says_99 : decode cX8_says 99 = .ok (.iaload, 1) := by decide +kernel
theorem dX8_says_100 : decode cX8_says 100 = .ok (.if_icmp .gt 7, 3) := by decide +kernel
theorem dX8_says_103 : decode cX8_says 103 = .ok (.iconst 1, 1) := by decide +kernel
theorem dX8_says_104 : decode cX8_says 104 = .ok (.goto 4, 3) := by decide +kernel
theorem dX8_says_107 : decode cX8_says 107 = .ok (.iconst 0, 1) := by decide +kernel
theorem dX8_says_108 : decode cX8_says 108 = .ok (.ireturn, 1) := by decide +kernel
theorem dX8_says_109 : decode cX8_says 109 = .ok (.iload_n 3, 1) := by decide +kernel
theorem dX8_says_110 : decode cX8_says 110 = .ok (.aload_n 0, 1) := by decide +kernel
theorem dX8_says_111 : decode cX8_says 111 = .ok (.getfield 7, 3) := by decide +kernel
theorem dX8_says_114 : decode cX8_says 114 = .ok (.sipush 263, 3) := by decide +kernel
theorem dX8_says_117 : decode cX8_says 117 = .ok (.iload_n 1, 1) := by decide +kernel
theorem dX8_says_118 : decode cX8_says 118 = .ok (.iadd, 1) := by decide +kernel
theorem dX8_says_119 : decode cX8_says 119 = .ok (.iaload, 1) := by decide +kernel
theorem dX8_says_120 : decode cX8_says 120 = .ok (.if_icmp .gt 7, 3) := by decide +kernel
theorem dX8_says_123 : decode cX8_says 123 = .ok (.iconst 1, 1) := by decide +kernel
theorem dX8_says_124 : decode cX8_says 124 = .ok (.goto 4, 3) := by decide +kernel
theorem dX8_says_127 : decode cX8_says 127 = .ok (.iconst 0, 1) := by decide +kernel
theorem dX8_says_128 : decode cX8_says 128 = .ok (.ireturn, 1) := by decide +kernel
theorem dX8_answerOf_0 : decode cX8_answerOf 0 = .ok (.aload_n 0, 1) := by decide +kernel
theorem dX8_answerOf_1 : decode cX8_answerOf 1 = .ok (.getfield 23, 3) := by decide +kernel
theorem dX8_answerOf_4 : decode cX8_answerOf 4 = .ok (.bipush 16, 2) := by decide +kernel
theorem dX8_answerOf_6 : decode cX8_answerOf 6 = .ok (.iload_n 1, 1) := by decide +kernel
theorem dX8_answerOf_7 : decode cX8_answerOf 7 = .ok (.imul, 1) := by decide +kernel
theorem dX8_answerOf_8 : decode cX8_answerOf 8 = .ok (.iload_n 2, 1) := by decide +kernel
theorem dX8_answerOf_9 : decode cX8_answerOf 9 = .ok (.iadd, 1) := by decide +kernel
theorem dX8_answerOf_10 : decode cX8_answerOf 10 = .ok (.iaload, 1) := by decide +kernel
theorem dX8_answerOf_11 : decode cX8_answerOf 11 = .ok (.ireturn, 1) := by decide +kernel
theorem dX8_post_0 : decode cX8_post 0 = .ok (.aload_n 0, 1) := by decide +kernel
theorem dX8_post_1 : decode cX8_post 1 = .ok (.invokevirtual 62, 3) := by decide +kernel
theorem dX8_post_4 : decode cX8_post 4 = .ok (.bipush 16, 2) := by decide +kernel
theorem dX8_post_6 : decode cX8_post 6 = .ok (.if_icmp .ne 5, 3) := by decide +kernel
theorem dX8_post_9 : decode cX8_post 9 = .ok (.iconst (-1), 1) := by decide +kernel
theorem dX8_post_10 : decode cX8_post 10 = .ok (.ireturn, 1) := by decide +kernel
theorem dX8_post_11 : decode cX8_post 11 = .ok (.aload_n 0, 1) := by decide +kernel
theorem dX8_post_12 : decode cX8_post 12 = .ok (.invokevirtual 78, 3) := by decide +kernel
theorem dX8_post_15 : decode cX8_post 15 = .ok (.aload_n 0, 1) := by decide +kernel
theorem dX8_post_16 : decode cX8_post 16 = .ok (.aload_n 0, 1) := by decide +kernel
theorem dX8_post_17 : decode cX8_post 17 = .ok (.invokevirtual 62, 3) := by decide +kernel
theorem dX8_post_20 : decode cX8_post 20 = .ok (.invokevirtual 48, 3) := by decide +kernel
theorem dX8_post_23 : decode cX8_post 23 = .ok (.aload_n 0, 1) := by decide +kernel
theorem dX8_post_24 : decode cX8_post 24 = .ok (.getfield 7, 3) := by decide +kernel
theorem dX8_post_27 : decode cX8_post 27 = .ok (.iconst 0, 1) := by decide +kernel
theorem dX8_post_28 : decode cX8_post 28 = .ok (.dup2, 1) := by decide +kernel
theorem dX8_post_29 : decode cX8_post 29 = .ok (.iaload, 1) := by decide +kernel
theorem dX8_post_30 : decode cX8_post 30 = .ok (.iconst 1, 1) := by decide +kernel
theorem dX8_post_31 : decode cX8_post 31 = .ok (.iadd, 1) := by decide +kernel
theorem dX8_post_32 : decode cX8_post 32 = .ok (.iastore, 1) := by decide +kernel
theorem dX8_post_33 : decode cX8_post 33 = .ok (.aload_n 0, 1) := by decide +kernel
theorem dX8_post_34 : decode cX8_post 34 = .ok (.invokevirtual 52, 3) := by decide +kernel
theorem dX8_post_37 : decode cX8_post 37 = .ok (.aload_n 0, 1) := by decide +kernel
theorem dX8_post_38 : decode cX8_post 38 = .ok (.invokevirtual 62, 3) := by decide +kernel
theorem dX8_post_41 : decode cX8_post 41 = .ok (.iconst 1, 1) := by decide +kernel
theorem dX8_post_42 : decode cX8_post 42 = .ok (.isub, 1) := by decide +kernel
theorem dX8_post_43 : decode cX8_post 43 = .ok (.ireturn, 1) := by decide +kernel
theorem dX8_road_0 : decode cX8_road 0 = .ok (.aload_n 0, 1) := by decide +kernel
theorem dX8_road_1 : decode cX8_road 1 = .ok (.iload_n 1, 1) := by decide +kernel
theorem dX8_road_2 : decode cX8_road 2 = .ok (.iload_n 2, 1) := by decide +kernel
theorem dX8_road_3 : decode cX8_road 3 = .ok (.iload_n 3, 1) := by decide +kernel
theorem dX8_road_4 : decode cX8_road 4 = .ok (.invokevirtual 81, 3) := by decide +kernel
theorem dX8_road_7 : decode cX8_road 7 = .ok (.ifCond .ne 5, 3) := by decide +kernel
theorem dX8_road_10 : decode cX8_road 10 = .ok (.iconst 0, 1) := by decide +kernel
theorem dX8_road_11 : decode cX8_road 11 = .ok (.ireturn, 1) := by decide +kernel
theorem dX8_road_12 : decode cX8_road 12 = .ok (.aload_n 0, 1) := by decide +kernel
theorem dX8_road_13 : decode cX8_road 13 = .ok (.invokevirtual 78, 3) := by decide +kernel
theorem dX8_road_16 : decode cX8_road 16 = .ok (.aload_n 0, 1) := by decide +kernel
theorem dX8_road_17 : decode cX8_road 17 = .ok (.iload_n 1, 1) := by decide +kernel
theorem dX8_road_18 : decode cX8_road 18 = .ok (.iload_n 2, 1) := by decide +kernel
theorem dX8_road_19 : decode cX8_road 19 = .ok (.iload_n 3, 1) := by decide +kernel
theorem dX8_road_20 : decode cX8_road 20 = .ok (.invokevirtual 85, 3) := by decide +kernel
theorem dX8_road_23 : decode cX8_road 23 = .ok (.aload_n 0, 1) := by decide +kernel
theorem dX8_road_24 : decode cX8_road 24 = .ok (.invokevirtual 52, 3) := by decide +kernel
theorem dX8_road_27 : decode cX8_road 27 = .ok (.iconst 1, 1) := by decide +kernel
theorem dX8_road_28 : decode cX8_road 28 = .ok (.ireturn, 1) := by decide +kernel
theorem dX8_cut_0 : decode cX8_cut 0 = .ok (.aload_n 0, 1) := by decide +kernel
theorem dX8_cut_1 : decode cX8_cut 1 = .ok (.iload_n 1, 1) := by decide +kernel
theorem dX8_cut_2 : decode cX8_cut 2 = .ok (.invokevirtual 66, 3) := by decide +kernel
theorem dX8_cut_5 : decode cX8_cut 5 = .ok (.ifCond .eq 20, 3) := by decide +kernel
theorem dX8_cut_8 : decode cX8_cut 8 = .ok (.aload_n 0, 1) := by decide +kernel
theorem dX8_cut_9 : decode cX8_cut 9 = .ok (.iload_n 2, 1) := by decide +kernel
theorem dX8_cut_10 : decode cX8_cut 10 = .ok (.invokevirtual 66, 3) := by decide +kernel
theorem dX8_cut_13 : decode cX8_cut 13 = .ok (.ifCond .eq 12, 3) := by decide +kernel
theorem dX8_cut_16 : decode cX8_cut 16 = .ok (.aload_n 0, 1) := by decide +kernel
theorem dX8_cut_17 : decode cX8_cut 17 = .ok (.iload_n 1, 1) := by decide +kernel
theorem dX8_cut_18 : decode cX8_cut 18 = .ok (.iload_n 2, 1) := by decide +kernel
theorem dX8_cut_19 : decode cX8_cut 19 = .ok (.invokevirtual 70, 3) := by decide +kernel
theorem dX8_cut_22 : decode cX8_cut 22 = .ok (.ifCond .ne 5, 3) := by decide +kernel
theorem dX8_cut_25 : decode cX8_cut 25 = .ok (.iconst 0, 1) := by decide +kernel
theorem dX8_cut_26 : decode cX8_cut 26 = .ok (.ireturn, 1) := by decide +kernel
theorem dX8_cut_27 : decode cX8_cut 27 = .ok (.aload_n 0, 1) := by decide +kernel
theorem dX8_cut_28 : decode cX8_cut 28 = .ok (.invokevirtual 78, 3) := by decide +kernel
theorem dX8_cut_31 : decode cX8_cut 31 = .ok (.aload_n 0, 1) := by decide +kernel
theorem dX8_cut_32 : decode cX8_cut 32 = .ok (.iload_n 1, 1) := by decide +kernel
theorem dX8_cut_33 : decode cX8_cut 33 = .ok (.iload_n 2, 1) := by decide +kernel
theorem dX8_cut_34 : decode cX8_cut 34 = .ok (.iconst 0, 1) := by decide +kernel
theorem dX8_cut_35 : decode cX8_cut 35 = .ok (.invokevirtual 85, 3) := by decide +kernel
theorem dX8_cut_38 : decode cX8_cut 38 = .ok (.aload_n 0, 1) := by decide +kernel
theorem dX8_cut_39 : decode cX8_cut 39 = .ok (.invokevirtual 52, 3) := by decide +kernel
theorem dX8_cut_42 : decode cX8_cut 42 = .ok (.iconst 1, 1) := by decide +kernel
theorem dX8_cut_43 : decode cX8_cut 43 = .ok (.ireturn, 1) := by decide +kernel
theorem dX8_feed_0 : decode cX8_feed 0 = .ok (.aload_n 0, 1) := by decide +kernel
theorem dX8_feed_1 : decode cX8_feed 1 = .ok (.getfield 89, 3) := by decide +kernel
theorem dX8_feed_4 : decode cX8_feed 4 = .ok (.bipush 20, 2) := by decide +kernel
theorem dX8_feed_6 : decode cX8_feed 6 = .ok (.iadd, 1) := by decide +kernel
theorem dX8_feed_7 : decode cX8_feed 7 = .ok (.sipush 400, 3) := by decide +kernel
theorem dX8_feed_10 : decode cX8_feed 10 = .ok (.if_icmp .le 5, 3) := by decide +kernel
theorem dX8_feed_13 : decode cX8_feed 13 = .ok (.iconst (-1), 1) := by decide +kernel
theorem dX8_feed_14 : decode cX8_feed 14 = .ok (.ireturn, 1) := by decide +kernel
theorem dX8_feed_15 : decode cX8_feed 15 = .ok (.aload_n 0, 1) := by decide +kernel
theorem dX8_feed_16 : decode cX8_feed 16 = .ok (.iload_n 1, 1) := by decide +kernel
theorem dX8_feed_17 : decode cX8_feed 17 = .ok (.invokevirtual 92, 3) := by decide +kernel
theorem dX8_feed_20 : decode cX8_feed 20 = .ok (.aload_n 0, 1) := by decide +kernel
theorem dX8_feed_21 : decode cX8_feed 21 = .ok (.iload_n 2, 1) := by decide +kernel
theorem dX8_feed_22 : decode cX8_feed 22 = .ok (.invokevirtual 92, 3) := by decide +kernel
theorem dX8_feed_25 : decode cX8_feed 25 = .ok (.aload_n 0, 1) := by decide +kernel
theorem dX8_feed_26 : decode cX8_feed 26 = .ok (.iload_n 3, 1) := by decide +kernel
theorem dX8_feed_27 : decode cX8_feed 27 = .ok (.invokevirtual 92, 3) := by decide +kernel
theorem dX8_feed_30 : decode cX8_feed 30 = .ok (.aload_n 0, 1) := by decide +kernel
theorem dX8_feed_31 : decode cX8_feed 31 = .ok (.iload 4, 2) := by decide +kernel
theorem dX8_feed_33 : decode cX8_feed 33 = .ok (.invokevirtual 92, 3) := by decide +kernel
theorem dX8_feed_36 : decode cX8_feed 36 = .ok (.aload_n 0, 1) := by decide +kernel
theorem dX8_feed_37 : decode cX8_feed 37 = .ok (.iload 5, 2) := by decide +kernel
theorem dX8_feed_39 : decode cX8_feed 39 = .ok (.invokevirtual 92, 3) := by decide +kernel
theorem dX8_feed_42 : decode cX8_feed 42 = .ok (.aload_n 0, 1) := by decide +kernel
theorem dX8_feed_43 : decode cX8_feed 43 = .ok (.getfield 89, 3) := by decide +kernel
theorem dX8_feed_46 : decode cX8_feed 46 = .ok (.ireturn, 1) := by decide +kernel
theorem dX8_four_0 : decode cX8_four 0 = .ok (.bipush 24, 2) := by decide +kernel
theorem dX8_four_2 : decode cX8_four 2 = .ok (.istore_n 2, 1) := by decide +kernel
theorem dX8_four_3 : decode cX8_four 3 = .ok (.iload_n 2, 1) := by decide +kernel
theorem dX8_four_4 : decode cX8_four 4 = .ok (.ifCond .lt 35, 3) := by decide +kernel
theorem dX8_four_7 : decode cX8_four 7 = .ok (.aload_n 0, 1) := by decide +kernel
theorem dX8_four_8 : decode cX8_four 8 = .ok (.getfield 17, 3) := by decide +kernel
theorem dX8_four_11 : decode cX8_four 11 = .ok (.aload_n 0, 1) := by decide +kernel
theorem dX8_four_12 : decode cX8_four 12 = .ok (.getfield 89, 3) := by decide +kernel
theorem dX8_four_15 : decode cX8_four 15 = .ok (.iload_n 1, 1) := by decide +kernel
theorem dX8_four_16 : decode cX8_four 16 = .ok (.iload_n 2, 1) := by decide +kernel
theorem dX8_four_17 : decode cX8_four 17 = .ok (.ishr, 1) := by decide +kernel
theorem dX8_four_18 : decode cX8_four 18 = .ok (.sipush 255, 3) := by decide +kernel
theorem dX8_four_21 : decode cX8_four 21 = .ok (.iand, 1) := by decide +kernel
theorem dX8_four_22 : decode cX8_four 22 = .ok (.iastore, 1) := by decide +kernel
theorem dX8_four_23 : decode cX8_four 23 = .ok (.aload_n 0, 1) := by decide +kernel
theorem dX8_four_24 : decode cX8_four 24 = .ok (.dup, 1) := by decide +kernel
theorem dX8_four_25 : decode cX8_four 25 = .ok (.getfield 89, 3) := by decide +kernel
theorem dX8_four_28 : decode cX8_four 28 = .ok (.iconst 1, 1) := by decide +kernel
theorem dX8_four_29 : decode cX8_four 29 = .ok (.iadd, 1) := by decide +kernel
theorem dX8_four_30 : decode cX8_four 30 = .ok (.putfield 89, 3) := by decide +kernel
theorem dX8_four_33 : decode cX8_four 33 = .ok (.iinc 2 (-8), 3) := by decide +kernel
theorem dX8_four_36 : decode cX8_four 36 = .ok (.goto (-33), 3) := by decide +kernel
theorem dX8_four_39 : decode cX8_four 39 = .ok (.return_, 1) := by decide +kernel
theorem dX8_roads_0 : decode cX8_roads 0 = .ok (.iload_n 1, 1) := by decide +kernel
theorem dX8_roads_1 : decode cX8_roads 1 = .ok (.ifCond .lt 11, 3) := by decide +kernel
theorem dX8_roads_4 : decode cX8_roads 4 = .ok (.iload_n 1, 1) := by decide +kernel
theorem dX8_roads_5 : decode cX8_roads 5 = .ok (.aload_n 0, 1) := by decide +kernel
theorem dX8_roads_6 : decode cX8_roads 6 = .ok (.getfield 89, 3) := by decide +kernel
theorem dX8_roads_9 : decode cX8_roads 9 = .ok (.if_icmp .le 5, 3) := by decide +kernel
theorem dX8_roads_12 : decode cX8_roads 12 = .ok (.iconst (-1), 1) := by decide +kernel
theorem dX8_roads_13 : decode cX8_roads 13 = .ok (.ireturn, 1) := by decide +kernel
theorem dX8_roads_14 : decode cX8_roads 14 = .ok (.aload_n 0, 1) := by decide +kernel
theorem dX8_roads_15 : decode cX8_roads 15 = .ok (.iconst 0, 1) := by decide +kernel
theorem dX8_roads_16 : decode cX8_roads 16 = .ok (.putfield 89, 3) := by decide +kernel
theorem dX8_roads_19 : decode cX8_roads 19 = .ok (.iconst 0, 1) := by decide +kernel
theorem dX8_roads_20 : decode cX8_roads 20 = .ok (.istore_n 2, 1) := by decide +kernel
theorem dX8_roads_21 : decode cX8_roads 21 = .ok (.iconst 1, 1) := by decide +kernel
theorem dX8_roads_22 : decode cX8_roads 22 = .ok (.istore_n 3, 1) := by decide +kernel
theorem dX8_roads_23 : decode cX8_roads 23 = .ok (.iconst 0, 1) := by decide +kernel
theorem dX8_roads_24 : decode cX8_roads 24 = .ok (.istore 4, 2) := by decide +kernel
theorem dX8_roads_26 : decode cX8_roads 26 = .ok (.iload 4, 2) := by decide +kernel
theorem dX8_roads_28 : decode cX8_roads 28 = .ok (.iconst 4, 1) := by decide +kernel
theorem dX8_roads_29 : decode cX8_roads 29 = .ok (.iadd, 1) := by decide +kernel
theorem dX8_roads_30 : decode cX8_roads 30 = .ok (.iload_n 1, 1) := by decide +kernel
theorem dX8_roads_31 : decode cX8_roads 31 = .ok (.if_icmp .gt 101, 3) := by decide +kernel
theorem dX8_roads_34 : decode cX8_roads 34 = .ok (.iload_n 3, 1) := by decide +kernel
theorem dX8_roads_35 : decode cX8_roads 35 = .ok (.ifCond .eq 97, 3) := by decide +kernel
theorem dX8_roads_38 : decode cX8_roads 38 = .ok (.sipush 256, 3) := by decide +kernel
theorem dX8_roads_41 : decode cX8_roads 41 = .ok (.aload_n 0, 1) := by decide +kernel
theorem dX8_roads_42 : decode cX8_roads 42 = .ok (.getfield 17, 3) := by decide +kernel
theorem dX8_roads_45 : decode cX8_roads 45 = .ok (.iload 4, 2) := by decide +kernel
theorem dX8_roads_47 : decode cX8_roads 47 = .ok (.iconst 2, 1) := by decide +kernel
theorem dX8_roads_48 : decode cX8_roads 48 = .ok (.iadd, 1) := by decide +kernel
theorem dX8_roads_49 : decode cX8_roads 49 = .ok (.iaload, 1) := by decide +kernel
theorem dX8_roads_50 : decode cX8_roads 50 = .ok (.imul, 1) := by decide +kernel
theorem dX8_roads_51 : decode cX8_roads 51 = .ok (.aload_n 0, 1) := by decide +kernel
theorem dX8_roads_52 : decode cX8_roads 52 = .ok (.getfield 17, 3) := by decide +kernel
theorem dX8_roads_55 : decode cX8_roads 55 = .ok (.iload 4, 2) := by decide +kernel
theorem dX8_roads_57 : decode cX8_roads 57 = .ok (.iconst 3, 1) := by decide +kernel
theorem dX8_roads_58 : decode cX8_roads 58 = .ok (.iadd, 1) := by decide +kernel
theorem dX8_roads_59 : decode cX8_roads 59 = .ok (.iaload, 1) := by decide +kernel
theorem dX8_roads_60 : decode cX8_roads 60 = .ok (.iadd, 1) := by decide +kernel
theorem dX8_roads_61 : decode cX8_roads 61 = .ok (.istore 5, 2) := by decide +kernel
theorem dX8_roads_63 : decode cX8_roads 63 = .ok (.aload_n 0, 1) := by decide +kernel
theorem dX8_roads_64 : decode cX8_roads 64 = .ok (.aload_n 0, 1) := by decide +kernel
theorem dX8_roads_65 : decode cX8_roads 65 = .ok (.getfield 17, 3) := by decide +kernel
theorem dX8_roads_68 : decode cX8_roads 68 = .ok (.iload 4, 2) := by decide +kernel
theorem dX8_roads_70 : decode cX8_roads 70 = .ok (.iaload, 1) := by decide +kernel
theorem dX8_roads_71 : decode cX8_roads 71 = .ok (.aload_n 0, 1) := by decide +kernel
theorem dX8_roads_72 : decode cX8_roads 72 = .ok (.getfield 17, 3) := by decide +kernel
theorem dX8_roads_75 : decode cX8_roads 75 = .ok (.iload 4, 2) := by decide +kernel
theorem dX8_roads_77 : decode cX8_roads 77 = .ok (.iconst 1, 1) := by decide +kernel
theorem dX8_roads_78 : decode cX8_roads 78 = .ok (.iadd, 1) := by decide +kernel
theorem dX8_roads_79 : decode cX8_roads 79 = .ok (.iaload, 1) := by decide +kernel
theorem dX8_roads_80 : decode cX8_roads 80 = .ok (.iload 5, 2) := by decide +kernel
theorem dX8_roads_82 : decode cX8_roads 82 = .ok (.invokevirtual 81, 3) := by decide +kernel
theorem dX8_roads_85 : decode cX8_roads 85 = .ok (.istore_n 3, 1) := by decide +kernel
theorem dX8_roads_86 : decode cX8_roads 86 = .ok (.iload_n 3, 1) := by decide +kernel
theorem dX8_roads_87 : decode cX8_roads 87 = .ok (.ifCond .ne 6, 3) := by decide +kernel
theorem dX8_roads_90 : decode cX8_roads 90 = .ok (.goto 36, 3) := by decide +kernel
theorem dX8_roads_93 : decode cX8_roads 93 = .ok (.iload_n 2, 1) := by decide +kernel
theorem dX8_roads_94 : decode cX8_roads 94 = .ok (.ifCond .ne 7, 3) := by decide +kernel
theorem dX8_roads_97 : decode cX8_roads 97 = .ok (.aload_n 0, 1) := by decide +kernel
theorem dX8_roads_98 : decode cX8_roads 98 = .ok (.invokevirtual 78, 3) := by decide +kernel
theorem dX8_roads_101 : decode cX8_roads 101 = .ok (.aload_n 0, 1) := by decide +kernel
theorem dX8_roads_102 : decode cX8_roads 102 = .ok (.aload_n 0, 1) := by decide +kernel
theorem dX8_roads_103 : decode cX8_roads 103 = .ok (.getfield 17, 3) := by decide +kernel
theorem dX8_roads_106 : decode cX8_roads 106 = .ok (.iload 4, 2) := by decide +kernel
theorem dX8_roads_108 : decode cX8_roads 108 = .ok (.iaload, 1) := by decide +kernel
theorem dX8_roads_109 : decode cX8_roads 109 = .ok (.aload_n 0, 1) := by decide +kernel
theorem dX8_roads_110 : decode cX8_roads 110 = .ok (.getfield 17, 3) := by decide +kernel
theorem dX8_roads_113 : decode cX8_roads 113 = .ok (.iload 4, 2) := by decide +kernel
theorem dX8_roads_115 : decode cX8_roads 115 = .ok (.iconst 1, 1) := by decide +kernel
theorem dX8_roads_116 : decode cX8_roads 116 = .ok (.iadd, 1) := by decide +kernel
theorem dX8_roads_117 : decode cX8_roads 117 = .ok (.iaload, 1) := by decide +kernel
theorem dX8_roads_118 : decode cX8_roads 118 = .ok (.iload 5, 2) := by decide +kernel
theorem dX8_roads_120 : decode cX8_roads 120 = .ok (.invokevirtual 85, 3) := by decide +kernel
theorem dX8_roads_123 : decode cX8_roads 123 = .ok (.iinc 2 1, 3) := by decide +kernel
theorem dX8_roads_126 : decode cX8_roads 126 = .ok (.iinc 4 4, 3) := by decide +kernel
theorem dX8_roads_129 : decode cX8_roads 129 = .ok (.goto (-103), 3) := by decide +kernel
theorem dX8_roads_132 : decode cX8_roads 132 = .ok (.aload_n 0, 1) := by decide +kernel
theorem dX8_roads_133 : decode cX8_roads 133 = .ok (.invokevirtual 52, 3) := by decide +kernel
theorem dX8_roads_136 : decode cX8_roads 136 = .ok (.iload_n 2, 1) := by decide +kernel
theorem dX8_roads_137 : decode cX8_roads 137 = .ok (.ireturn, 1) := by decide +kernel
theorem dX8_reach_0 : decode cX8_reach 0 = .ok (.aload_n 0, 1) := by decide +kernel
theorem dX8_reach_1 : decode cX8_reach 1 = .ok (.iload_n 1, 1) := by decide +kernel
theorem dX8_reach_2 : decode cX8_reach 2 = .ok (.invokevirtual 66, 3) := by decide +kernel
theorem dX8_reach_5 : decode cX8_reach 5 = .ok (.ifCond .eq 14, 3) := by decide +kernel
theorem dX8_reach_8 : decode cX8_reach 8 = .ok (.iload_n 2, 1) := by decide +kernel
theorem dX8_reach_9 : decode cX8_reach 9 = .ok (.ifCond .lt 10, 3) := by decide +kernel
theorem dX8_reach_12 : decode cX8_reach 12 = .ok (.iload_n 2, 1) := by decide +kernel
theorem dX8_reach_13 : decode cX8_reach 13 = .ok (.sipush 20000, 3) := by decide +kernel
theorem dX8_reach_16 : decode cX8_reach 16 = .ok (.if_icmp .le 5, 3) := by decide +kernel
theorem dX8_reach_19 : decode cX8_reach 19 = .ok (.iconst 0, 1) := by decide +kernel
theorem dX8_reach_20 : decode cX8_reach 20 = .ok (.ireturn, 1) := by decide +kernel
theorem dX8_reach_21 : decode cX8_reach 21 = .ok (.aload_n 0, 1) := by decide +kernel
theorem dX8_reach_22 : decode cX8_reach 22 = .ok (.invokevirtual 78, 3) := by decide +kernel
theorem dX8_reach_25 : decode cX8_reach 25 = .ok (.aload_n 0, 1) := by decide +kernel
theorem dX8_reach_26 : decode cX8_reach 26 = .ok (.getfield 7, 3) := by decide +kernel
theorem dX8_reach_29 : decode cX8_reach 29 = .ok (.sipush 263, 3) := by decide +kernel
theorem dX8_reach_32 : decode cX8_reach 32 = .ok (.iload_n 1, 1) := by decide +kernel
theorem dX8_reach_33 : decode cX8_reach 33 = .ok (.iadd, 1) := by decide +kernel
theorem dX8_reach_34 : decode cX8_reach 34 = .ok (.iload_n 2, 1) := by decide +kernel
theorem dX8_reach_35 : decode cX8_reach 35 = .ok (.iastore, 1) := by decide +kernel
theorem dX8_reach_36 : decode cX8_reach 36 = .ok (.aload_n 0, 1) := by decide +kernel
theorem dX8_reach_37 : decode cX8_reach 37 = .ok (.invokevirtual 52, 3) := by decide +kernel
theorem dX8_reach_40 : decode cX8_reach 40 = .ok (.iconst 1, 1) := by decide +kernel
theorem dX8_reach_41 : decode cX8_reach 41 = .ok (.ireturn, 1) := by decide +kernel
theorem dX8_price_0 : decode cX8_price 0 = .ok (.aload_n 0, 1) := by decide +kernel
theorem dX8_price_1 : decode cX8_price 1 = .ok (.iload_n 1, 1) := by decide +kernel
theorem dX8_price_2 : decode cX8_price 2 = .ok (.invokevirtual 66, 3) := by decide +kernel
theorem dX8_price_5 : decode cX8_price 5 = .ok (.ifCond .eq 15, 3) := by decide +kernel
theorem dX8_price_8 : decode cX8_price 8 = .ok (.iload_n 2, 1) := by decide +kernel
theorem dX8_price_9 : decode cX8_price 9 = .ok (.iconst 1, 1) := by decide +kernel
theorem dX8_price_10 : decode cX8_price 10 = .ok (.if_icmp .lt 10, 3) := by decide +kernel
theorem dX8_price_13 : decode cX8_price 13 = .ok (.iload_n 2, 1) := by decide +kernel
theorem dX8_price_14 : decode cX8_price 14 = .ok (.sipush 1000, 3) := by decide +kernel
theorem dX8_price_17 : decode cX8_price 17 = .ok (.if_icmp .le 5, 3) := by decide +kernel
theorem dX8_price_20 : decode cX8_price 20 = .ok (.iconst 0, 1) := by decide +kernel
theorem dX8_price_21 : decode cX8_price 21 = .ok (.ireturn, 1) := by decide +kernel
theorem dX8_price_22 : decode cX8_price 22 = .ok (.aload_n 0, 1) := by decide +kernel
theorem dX8_price_23 : decode cX8_price 23 = .ok (.invokevirtual 78, 3) := by decide +kernel
theorem dX8_price_26 : decode cX8_price 26 = .ok (.aload_n 0, 1) := by decide +kernel
theorem dX8_price_27 : decode cX8_price 27 = .ok (.getfield 7, 3) := by decide +kernel
theorem dX8_price_30 : decode cX8_price 30 = .ok (.sipush 279, 3) := by decide +kernel
theorem dX8_price_33 : decode cX8_price 33 = .ok (.iload_n 1, 1) := by decide +kernel
theorem dX8_price_34 : decode cX8_price 34 = .ok (.iadd, 1) := by decide +kernel
theorem dX8_price_35 : decode cX8_price 35 = .ok (.iload_n 2, 1) := by decide +kernel
theorem dX8_price_36 : decode cX8_price 36 = .ok (.iastore, 1) := by decide +kernel
theorem dX8_price_37 : decode cX8_price 37 = .ok (.iconst 1, 1) := by decide +kernel
theorem dX8_price_38 : decode cX8_price 38 = .ok (.ireturn, 1) := by decide +kernel
theorem dX8_chance_0 : decode cX8_chance 0 = .ok (.aload_n 0, 1) := by decide +kernel
theorem dX8_chance_1 : decode cX8_chance 1 = .ok (.iload_n 1, 1) := by decide +kernel
theorem dX8_chance_2 : decode cX8_chance 2 = .ok (.invokevirtual 66, 3) := by decide +kernel
theorem dX8_chance_5 : decode cX8_chance 5 = .ok (.ifCond .eq 13, 3) := by decide +kernel
theorem dX8_chance_8 : decode cX8_chance 8 = .ok (.iload_n 2, 1) := by decide +kernel
theorem dX8_chance_9 : decode cX8_chance 9 = .ok (.ifCond .lt 9, 3) := by decide +kernel
theorem dX8_chance_12 : decode cX8_chance 12 = .ok (.iload_n 2, 1) := by decide +kernel
theorem dX8_chance_13 : decode cX8_chance 13 = .ok (.bipush 100, 2) := by decide +kernel
theorem dX8_chance_15 : decode cX8_chance 15 = .ok (.if_icmp .le 5, 3) := by decide +kernel
theorem dX8_chance_18 : decode cX8_chance 18 = .ok (.iconst 0, 1) := by decide +kernel
theorem dX8_chance_19 : decode cX8_chance 19 = .ok (.ireturn, 1) := by decide +kernel
theorem dX8_chance_20 : decode cX8_chance 20 = .ok (.aload_n 0, 1) := by decide +kernel
theorem dX8_chance_21 : decode cX8_chance 21 = .ok (.invokevirtual 78, 3) := by decide +kernel
theorem dX8_chance_24 : decode cX8_chance 24 = .ok (.aload_n 0, 1) := by decide +kernel
theorem dX8_chance_25 : decode cX8_chance 25 = .ok (.getfield 7, 3) := by decide +kernel
theorem dX8_chance_28 : decode cX8_chance 28 = .ok (.sipush 295, 3) := by decide +kernel
theorem dX8_chance_31 : decode cX8_chance 31 = .ok (.iload_n 1, 1) := by decide +kernel
theorem dX8_chance_32 : decode cX8_chance 32 = .ok (.iadd, 1) := by decide +kernel
theorem dX8_chance_33 : decode cX8_chance 33 = .ok (.iload_n 2, 1) := by decide +kernel
theorem dX8_chance_34 : decode cX8_chance 34 = .ok (.iastore, 1) := by decide +kernel
theorem dX8_chance_35 : decode cX8_chance 35 = .ok (.iconst 1, 1) := by decide +kernel
theorem dX8_chance_36 : decode cX8_chance 36 = .ok (.ireturn, 1) := by decide +kernel
theorem dX8_rule_0 : decode cX8_rule 0 = .ok (.iload_n 1, 1) := by decide +kernel
theorem dX8_rule_1 : decode cX8_rule 1 = .ok (.ifCond .lt 31, 3) := by decide +kernel
theorem dX8_rule_4 : decode cX8_rule 4 = .ok (.iload_n 1, 1) := by decide +kernel
theorem dX8_rule_5 : decode cX8_rule 5 = .ok (.iconst 4, 1) := by decide +kernel
theorem dX8_rule_6 : decode cX8_rule 6 = .ok (.if_icmp .gt 26, 3) := by decide +kernel
theorem dX8_rule_9 : decode cX8_rule 9 = .ok (.iload_n 1, 1) := by decide +kernel
theorem dX8_rule_10 : decode cX8_rule 10 = .ok (.iconst 3, 1) := by decide +kernel
theorem dX8_rule_11 : decode cX8_rule 11 = .ok (.if_icmp .ne 17, 3) := by decide +kernel
theorem dX8_rule_14 : decode cX8_rule 14 = .ok (.iload_n 2, 1) := by decide +kernel
theorem dX8_rule_15 : decode cX8_rule 15 = .ok (.ifCond .lt 17, 3) := by decide +kernel
theorem dX8_rule_18 : decode cX8_rule 18 = .ok (.iload_n 2, 1) := by decide +kernel
theorem dX8_rule_19 : decode cX8_rule 19 = .ok (.sipush 20000, 3) := by decide +kernel
theorem dX8_rule_22 : decode cX8_rule 22 = .ok (.if_icmp .le 12, 3) := by decide +kernel
theorem dX8_rule_25 : decode cX8_rule 25 = .ok (.goto 7, 3) := by decide +kernel
theorem dX8_rule_28 : decode cX8_rule 28 = .ok (.iload_n 2, 1) := by decide +kernel
theorem dX8_rule_29 : decode cX8_rule 29 = .ok (.ifCond .eq 5, 3) := by decide +kernel
theorem dX8_rule_32 : decode cX8_rule 32 = .ok (.iconst 0, 1) := by decide +kernel
theorem dX8_rule_33 : decode cX8_rule 33 = .ok (.ireturn, 1) := by decide +kernel
theorem dX8_rule_34 : decode cX8_rule 34 = .ok (.aload_n 0, 1) := by decide +kernel
theorem dX8_rule_35 : decode cX8_rule 35 = .ok (.invokevirtual 78, 3) := by decide +kernel
theorem dX8_rule_38 : decode cX8_rule 38 = .ok (.aload_n 0, 1) := by decide +kernel
theorem dX8_rule_39 : decode cX8_rule 39 = .ok (.getfield 7, 3) := by decide +kernel
theorem dX8_rule_42 : decode cX8_rule 42 = .ok (.iconst 1, 1) := by decide +kernel
theorem dX8_rule_43 : decode cX8_rule 43 = .ok (.iload_n 1, 1) := by decide +kernel
theorem dX8_rule_44 : decode cX8_rule 44 = .ok (.iastore, 1) := by decide +kernel
theorem dX8_rule_45 : decode cX8_rule 45 = .ok (.aload_n 0, 1) := by decide +kernel
theorem dX8_rule_46 : decode cX8_rule 46 = .ok (.getfield 7, 3) := by decide +kernel
theorem dX8_rule_49 : decode cX8_rule 49 = .ok (.iconst 2, 1) := by decide +kernel
theorem dX8_rule_50 : decode cX8_rule 50 = .ok (.iload_n 2, 1) := by decide +kernel
theorem dX8_rule_51 : decode cX8_rule 51 = .ok (.iastore, 1) := by decide +kernel
theorem dX8_rule_52 : decode cX8_rule 52 = .ok (.aload_n 0, 1) := by decide +kernel
theorem dX8_rule_53 : decode cX8_rule 53 = .ok (.invokevirtual 52, 3) := by decide +kernel
theorem dX8_rule_56 : decode cX8_rule 56 = .ok (.iconst 1, 1) := by decide +kernel
theorem dX8_rule_57 : decode cX8_rule 57 = .ok (.ireturn, 1) := by decide +kernel
theorem dX8_need_0 : decode cX8_need 0 = .ok (.iconst 1, 1) := by decide +kernel
theorem dX8_need_1 : decode cX8_need 1 = .ok (.aload_n 0, 1) := by decide +kernel
theorem dX8_need_2 : decode cX8_need 2 = .ok (.getfield 7, 3) := by decide +kernel
theorem dX8_need_5 : decode cX8_need 5 = .ok (.iconst 4, 1) := by decide +kernel
theorem dX8_need_6 : decode cX8_need 6 = .ok (.iaload, 1) := by decide +kernel
theorem dX8_need_7 : decode cX8_need 7 = .ok (.iconst 1, 1) := by decide +kernel
theorem dX8_need_8 : decode cX8_need 8 = .ok (.if_icmp .ne 7, 3) := by decide +kernel
theorem dX8_need_11 : decode cX8_need 11 = .ok (.iconst 2, 1) := by decide +kernel
theorem dX8_need_12 : decode cX8_need 12 = .ok (.goto 4, 3) := by decide +kernel
theorem dX8_need_15 : decode cX8_need 15 = .ok (.iconst 1, 1) := by decide +kernel
theorem dX8_need_16 : decode cX8_need 16 = .ok (.aload_n 0, 1) := by decide +kernel
theorem dX8_need_17 : decode cX8_need 17 = .ok (.getfield 7, 3) := by decide +kernel
theorem dX8_need_20 : decode cX8_need 20 = .ok (.iconst 3, 1) := by decide +kernel
theorem dX8_need_21 : decode cX8_need 21 = .ok (.iaload, 1) := by decide +kernel
theorem dX8_need_22 : decode cX8_need 22 = .ok (.imul, 1) := by decide +kernel
theorem dX8_need_23 : decode cX8_need 23 = .ok (.iadd, 1) := by decide +kernel
theorem dX8_need_24 : decode cX8_need 24 = .ok (.ireturn, 1) := by decide +kernel
theorem dX8_may_0 : decode cX8_may 0 = .ok (.iload_n 1, 1) := by decide +kernel
theorem dX8_may_1 : decode cX8_may 1 = .ok (.ifCond .lt 8, 3) := by decide +kernel
theorem dX8_may_4 : decode cX8_may 4 = .ok (.iload_n 1, 1) := by decide +kernel
theorem dX8_may_5 : decode cX8_may 5 = .ok (.iconst 3, 1) := by decide +kernel
theorem dX8_may_6 : decode cX8_may 6 = .ok (.if_icmp .le 5, 3) := by decide +kernel
theorem dX8_may_9 : decode cX8_may 9 = .ok (.iconst (-1), 1) := by decide +kernel
theorem dX8_may_10 : decode cX8_may 10 = .ok (.ireturn, 1) := by decide +kernel
theorem dX8_may_11 : decode cX8_may 11 = .ok (.aload_n 0, 1) := by decide +kernel
theorem dX8_may_12 : decode cX8_may 12 = .ok (.invokevirtual 78, 3) := by decide +kernel
theorem dX8_may_15 : decode cX8_may 15 = .ok (.aload_n 0, 1) := by decide +kernel
theorem dX8_may_16 : decode cX8_may 16 = .ok (.getfield 7, 3) := by decide +kernel
theorem dX8_may_19 : decode cX8_may 19 = .ok (.iconst 3, 1) := by decide +kernel
theorem dX8_may_20 : decode cX8_may 20 = .ok (.iload_n 1, 1) := by decide +kernel
theorem dX8_may_21 : decode cX8_may 21 = .ok (.iastore, 1) := by decide +kernel
theorem dX8_may_22 : decode cX8_may 22 = .ok (.aload_n 0, 1) := by decide +kernel
theorem dX8_may_23 : decode cX8_may 23 = .ok (.getfield 7, 3) := by decide +kernel
theorem dX8_may_26 : decode cX8_may 26 = .ok (.iconst 4, 1) := by decide +kernel
theorem dX8_may_27 : decode cX8_may 27 = .ok (.iload_n 2, 1) := by decide +kernel
theorem dX8_may_28 : decode cX8_may 28 = .ok (.ifCond .eq 7, 3) := by decide +kernel
theorem dX8_may_31 : decode cX8_may 31 = .ok (.iconst 1, 1) := by decide +kernel
theorem dX8_may_32 : decode cX8_may 32 = .ok (.goto 4, 3) := by decide +kernel
theorem dX8_may_35 : decode cX8_may 35 = .ok (.iconst 0, 1) := by decide +kernel
theorem dX8_may_36 : decode cX8_may 36 = .ok (.iastore, 1) := by decide +kernel
theorem dX8_may_37 : decode cX8_may 37 = .ok (.aload_n 0, 1) := by decide +kernel
theorem dX8_may_38 : decode cX8_may 38 = .ok (.invokevirtual 95, 3) := by decide +kernel
theorem dX8_may_41 : decode cX8_may 41 = .ok (.ireturn, 1) := by decide +kernel
theorem dX8_want_0 : decode cX8_want 0 = .ok (.aload_n 0, 1) := by decide +kernel
theorem dX8_want_1 : decode cX8_want 1 = .ok (.invokevirtual 78, 3) := by decide +kernel
theorem dX8_want_4 : decode cX8_want 4 = .ok (.aload_n 0, 1) := by decide +kernel
theorem dX8_want_5 : decode cX8_want 5 = .ok (.getfield 7, 3) := by decide +kernel
theorem dX8_want_8 : decode cX8_want 8 = .ok (.iconst 5, 1) := by decide +kernel
theorem dX8_want_9 : decode cX8_want 9 = .ok (.iload_n 1, 1) := by decide +kernel
theorem dX8_want_10 : decode cX8_want 10 = .ok (.ifCond .eq 7, 3) := by decide +kernel
theorem dX8_want_13 : decode cX8_want 13 = .ok (.iconst 1, 1) := by decide +kernel
theorem dX8_want_14 : decode cX8_want 14 = .ok (.goto 4, 3) := by decide +kernel
theorem dX8_want_17 : decode cX8_want 17 = .ok (.iconst 0, 1) := by decide +kernel
theorem dX8_want_18 : decode cX8_want 18 = .ok (.iastore, 1) := by decide +kernel
theorem dX8_want_19 : decode cX8_want 19 = .ok (.return_, 1) := by decide +kernel
theorem dX8_way_0 : decode cX8_way 0 = .ok (.aload_n 0, 1) := by decide +kernel
theorem dX8_way_1 : decode cX8_way 1 = .ok (.iload_n 1, 1) := by decide +kernel
theorem dX8_way_2 : decode cX8_way 2 = .ok (.invokevirtual 66, 3) := by decide +kernel
theorem dX8_way_5 : decode cX8_way 5 = .ok (.ifCond .eq 25, 3) := by decide +kernel
theorem dX8_way_8 : decode cX8_way 8 = .ok (.aload_n 0, 1) := by decide +kernel
theorem dX8_way_9 : decode cX8_way 9 = .ok (.iload_n 2, 1) := by decide +kernel
theorem dX8_way_10 : decode cX8_way 10 = .ok (.invokevirtual 66, 3) := by decide +kernel
theorem dX8_way_13 : decode cX8_way 13 = .ok (.ifCond .eq 17, 3) := by decide +kernel
theorem dX8_way_16 : decode cX8_way 16 = .ok (.aload_n 0, 1) := by decide +kernel
theorem dX8_way_17 : decode cX8_way 17 = .ok (.getfield 20, 3) := by decide +kernel
theorem dX8_way_20 : decode cX8_way 20 = .ok (.bipush 16, 2) := by decide +kernel
theorem dX8_way_22 : decode cX8_way 22 = .ok (.iload_n 1, 1) := by decide +kernel
theorem dX8_way_23 : decode cX8_way 23 = .ok (.imul, 1) := by decide +kernel
theorem dX8_way_24 : decode cX8_way 24 = .ok (.iload_n 2, 1) := by decide +kernel
theorem dX8_way_25 : decode cX8_way 25 = .ok (.iadd, 1) := by decide +kernel
theorem dX8_way_26 : decode cX8_way 26 = .ok (.iaload, 1) := by decide +kernel
theorem dX8_way_27 : decode cX8_way 27 = .ok (.goto 4, 3) := by decide +kernel
theorem dX8_way_30 : decode cX8_way 30 = .ok (.iconst (-1), 1) := by decide +kernel
theorem dX8_way_31 : decode cX8_way 31 = .ok (.ireturn, 1) := by decide +kernel
theorem dX8_besideBits_0 : decode cX8_besideBits 0 = .ok (.iconst 0, 1) := by decide +kernel
theorem dX8_besideBits_1 : decode cX8_besideBits 1 = .ok (.istore_n 2, 1) := by decide +kernel
theorem dX8_besideBits_2 : decode cX8_besideBits 2 = .ok (.iconst 0, 1) := by decide +kernel
theorem dX8_besideBits_3 : decode cX8_besideBits 3 = .ok (.istore_n 3, 1) := by decide +kernel
theorem dX8_besideBits_4 : decode cX8_besideBits 4 = .ok (.iload_n 3, 1) := by decide +kernel
theorem dX8_besideBits_5 : decode cX8_besideBits 5 = .ok (.aload_n 0, 1) := by decide +kernel
theorem dX8_besideBits_6 : decode cX8_besideBits 6 = .ok (.invokevirtual 62, 3) := by decide +kernel
theorem dX8_besideBits_9 : decode cX8_besideBits 9 = .ok (.if_icmp .ge 28, 3) := by decide +kernel
theorem dX8_besideBits_12 : decode cX8_besideBits 12 = .ok (.iload_n 2, 1) := by decide +kernel
theorem dX8_besideBits_13 : decode cX8_besideBits 13 = .ok (.aload_n 0, 1) := by decide +kernel
theorem dX8_besideBits_14 : decode cX8_besideBits 14 = .ok (.iload_n 1, 1) := by decide +kernel
theorem dX8_besideBits_15 : decode cX8_besideBits 15 = .ok (.iload_n 3, 1) := by decide +kernel
theorem dX8_besideBits_16 : decode cX8_besideBits 16 = .ok (.invokevirtual 70, 3) := by decide +kernel
theorem dX8_besideBits_19 : decode cX8_besideBits 19 = .ok (.ifCond .le 9, 3) := by decide +kernel
theorem dX8_besideBits_22 : decode cX8_besideBits 22 = .ok (.iconst 1, 1) := by decide +kernel
theorem dX8_besideBits_23 : decode cX8_besideBits 23 = .ok (.iload_n 3, 1) := by decide +kernel
theorem dX8_besideBits_24 : decode cX8_besideBits 24 = .ok (.ishl, 1) := by decide +kernel
theorem dX8_besideBits_25 : decode cX8_besideBits 25 = .ok (.goto 4, 3) := by decide +kernel
theorem dX8_besideBits_28 : decode cX8_besideBits 28 = .ok (.iconst 0, 1) := by decide +kernel
theorem dX8_besideBits_29 : decode cX8_besideBits 29 = .ok (.ior, 1) := by decide +kernel
theorem dX8_besideBits_30 : decode cX8_besideBits 30 = .ok (.istore_n 2, 1) := by decide +kernel
theorem dX8_besideBits_31 : decode cX8_besideBits 31 = .ok (.iinc 3 1, 3) := by decide +kernel
theorem dX8_besideBits_34 : decode cX8_besideBits 34 = .ok (.goto (-30), 3) := by decide +kernel
theorem dX8_besideBits_37 : decode cX8_besideBits 37 = .ok (.iload_n 2, 1) := by decide +kernel
theorem dX8_besideBits_38 : decode cX8_besideBits 38 = .ok (.ireturn, 1) := by decide +kernel
theorem dX8_many_0 : decode cX8_many 0 = .ok (.iconst 0, 1) := by decide +kernel
theorem dX8_many_1 : decode cX8_many 1 = .ok (.istore_n 1, 1) := by decide +kernel
theorem dX8_many_2 : decode cX8_many 2 = .ok (.iconst 0, 1) := by decide +kernel
theorem dX8_many_3 : decode cX8_many 3 = .ok (.istore_n 2, 1) := by decide +kernel
theorem dX8_many_4 : decode cX8_many 4 = .ok (.iload_n 2, 1) := by decide +kernel
theorem dX8_many_5 : decode cX8_many 5 = .ok (.bipush 16, 2) := by decide +kernel
theorem dX8_many_7 : decode cX8_many 7 = .ok (.if_icmp .ge 17, 3) := by decide +kernel
theorem dX8_many_10 : decode cX8_many 10 = .ok (.iload_n 1, 1) := by decide +kernel
theorem dX8_many_11 : decode cX8_many 11 = .ok (.iload_n 0, 1) := by decide +kernel
theorem dX8_many_12 : decode cX8_many 12 = .ok (.iload_n 2, 1) := by decide +kernel
theorem dX8_many_13 : decode cX8_many 13 = .ok (.ishr, 1) := by decide +kernel
theorem dX8_many_14 : decode cX8_many 14 = .ok (.iconst 1, 1) := by decide +kernel
theorem dX8_many_15 : decode cX8_many 15 = .ok (.iand, 1) := by decide +kernel
theorem dX8_many_16 : decode cX8_many 16 = .ok (.iadd, 1) := by decide +kernel
theorem dX8_many_17 : decode cX8_many 17 = .ok (.istore_n 1, 1) := by decide +kernel
theorem dX8_many_18 : decode cX8_many 18 = .ok (.iinc 2 1, 3) := by decide +kernel
theorem dX8_many_21 : decode cX8_many 21 = .ok (.goto (-17), 3) := by decide +kernel
theorem dX8_many_24 : decode cX8_many 24 = .ok (.iload_n 1, 1) := by decide +kernel
theorem dX8_many_25 : decode cX8_many 25 = .ok (.ireturn, 1) := by decide +kernel
theorem dX8_of_0 : decode cX8_of 0 = .ok (.aload_n 0, 1) := by decide +kernel
theorem dX8_of_1 : decode cX8_of 1 = .ok (.iload_n 1, 1) := by decide +kernel
theorem dX8_of_2 : decode cX8_of 2 = .ok (.invokevirtual 66, 3) := by decide +kernel
theorem dX8_of_5 : decode cX8_of 5 = .ok (.ifCond .ne 5, 3) := by decide +kernel
theorem dX8_of_8 : decode cX8_of 8 = .ok (.iconst (-1), 1) := by decide +kernel
theorem dX8_of_9 : decode cX8_of 9 = .ok (.ireturn, 1) := by decide +kernel
theorem dX8_of_10 : decode cX8_of 10 = .ok (.iload_n 2, 1) := by decide +kernel
theorem dX8_of_11 : decode cX8_of 11 = .ok (.tableswitch 132 0 5 #[37, 46, 57, 68, 79, 85], 37) := by decide +kernel
theorem dX8_of_48 : decode cX8_of 48 = .ok (.aload_n 0, 1) := by decide +kernel
theorem dX8_of_49 : decode cX8_of 49 = .ok (.iload_n 1, 1) := by decide +kernel
theorem dX8_of_50 : decode cX8_of 50 = .ok (.invokevirtual 98, 3) := by decide +kernel
theorem dX8_of_53 : decode cX8_of 53 = .ok (.invokestatic 102, 3) := by decide +kernel
theorem dX8_of_56 : decode cX8_of 56 = .ok (.ireturn, 1) := by decide +kernel
theorem dX8_of_57 : decode cX8_of 57 = .ok (.aload_n 0, 1) := by decide +kernel
theorem dX8_of_58 : decode cX8_of 58 = .ok (.getfield 7, 3) := by decide +kernel
theorem dX8_of_61 : decode cX8_of 61 = .ok (.sipush 263, 3) := by decide +kernel
theorem dX8_of_64 : decode cX8_of 64 = .ok (.iload_n 1, 1) := by decide +kernel
theorem dX8_of_65 : decode cX8_of 65 = .ok (.iadd, 1) := by decide +kernel
theorem dX8_of_66 : decode cX8_of 66 = .ok (.iaload, 1) := by decide +kernel
theorem dX8_of_67 : decode cX8_of 67 = .ok (.ireturn, 1) := by decide +kernel
theorem dX8_of_68 : decode cX8_of 68 = .ok (.aload_n 0, 1) := by decide +kernel
theorem dX8_of_69 : decode cX8_of 69 = .ok (.getfield 7, 3) := by decide +kernel
theorem dX8_of_72 : decode cX8_of 72 = .ok (.sipush 279, 3) := by decide +kernel
theorem dX8_of_75 : decode cX8_of 75 = .ok (.iload_n 1, 1) := by decide +kernel
theorem dX8_of_76 : decode cX8_of 76 = .ok (.iadd, 1) := by decide +kernel
theorem dX8_of_77 : decode cX8_of 77 = .ok (.iaload, 1) := by decide +kernel
theorem dX8_of_78 : decode cX8_of 78 = .ok (.ireturn, 1) := by decide +kernel
theorem dX8_of_79 : decode cX8_of 79 = .ok (.aload_n 0, 1) := by decide +kernel
theorem dX8_of_80 : decode cX8_of 80 = .ok (.getfield 7, 3) := by decide +kernel
theorem dX8_of_83 : decode cX8_of 83 = .ok (.sipush 295, 3) := by decide +kernel
theorem dX8_of_86 : decode cX8_of 86 = .ok (.iload_n 1, 1) := by decide +kernel
theorem dX8_of_87 : decode cX8_of 87 = .ok (.iadd, 1) := by decide +kernel
theorem dX8_of_88 : decode cX8_of 88 = .ok (.iaload, 1) := by decide +kernel
theorem dX8_of_89 : decode cX8_of 89 = .ok (.ireturn, 1) := by decide +kernel
theorem dX8_of_90 : decode cX8_of 90 = .ok (.aload_n 0, 1) := by decide +kernel
theorem dX8_of_91 : decode cX8_of 91 = .ok (.iload_n 1, 1) := by decide +kernel
theorem dX8_of_92 : decode cX8_of 92 = .ok (.invokevirtual 98, 3) := by decide +kernel
theorem dX8_of_95 : decode cX8_of 95 = .ok (.ireturn, 1) := by decide +kernel
theorem dX8_of_96 : decode cX8_of 96 = .ok (.iconst 0, 1) := by decide +kernel
theorem dX8_of_97 : decode cX8_of 97 = .ok (.istore_n 3, 1) := by decide +kernel
theorem dX8_of_98 : decode cX8_of 98 = .ok (.iconst 0, 1) := by decide +kernel
theorem dX8_of_99 : decode cX8_of 99 = .ok (.istore 4, 2) := by decide +kernel
theorem dX8_of_101 : decode cX8_of 101 = .ok (.iload 4, 2) := by decide +kernel
theorem dX8_of_103 : decode cX8_of 103 = .ok (.aload_n 0, 1) := by decide +kernel
theorem dX8_of_104 : decode cX8_of 104 = .ok (.invokevirtual 62, 3) := by decide +kernel
theorem dX8_of_107 : decode cX8_of 107 = .ok (.if_icmp .ge 34, 3) := by decide +kernel
theorem dX8_of_110 : decode cX8_of 110 = .ok (.iload_n 3, 1) := by decide +kernel
theorem dX8_of_111 : decode cX8_of 111 = .ok (.aload_n 0, 1) := by decide +kernel
theorem dX8_of_112 : decode cX8_of 112 = .ok (.getfield 20, 3) := by decide +kernel
theorem dX8_of_115 : decode cX8_of 115 = .ok (.bipush 16, 2) := by decide +kernel
theorem dX8_of_117 : decode cX8_of 117 = .ok (.iload_n 1, 1) := by decide +kernel
theorem dX8_of_118 : decode cX8_of 118 = .ok (.imul, 1) := by decide +kernel
theorem dX8_of_119 : decode cX8_of 119 = .ok (.iload 4, 2) := by decide +kernel
theorem dX8_of_121 : decode cX8_of 121 = .ok (.iadd, 1) := by decide +kernel
theorem dX8_of_122 : decode cX8_of 122 = .ok (.iaload, 1) := by decide +kernel
theorem dX8_of_123 : decode cX8_of 123 = .ok (.ldc 74, 2) := by decide +kernel
theorem dX8_of_125 : decode cX8_of 125 = .ok (.if_icmp .ge 7, 3) := by decide +kernel
theorem dX8_of_128 : decode cX8_of 128 = .ok (.iconst 1, 1) := by decide +kernel
theorem dX8_of_129 : decode cX8_of 129 = .ok (.goto 4, 3) := by decide +kernel
theorem dX8_of_132 : decode cX8_of 132 = .ok (.iconst 0, 1) := by decide +kernel
theorem dX8_of_133 : decode cX8_of 133 = .ok (.iadd, 1) := by decide +kernel
theorem dX8_of_134 : decode cX8_of 134 = .ok (.istore_n 3, 1) := by decide +kernel
theorem dX8_of_135 : decode cX8_of 135 = .ok (.iinc 4 1, 3) := by decide +kernel
theorem dX8_of_138 : decode cX8_of 138 = .ok (.goto (-37), 3) := by decide +kernel
theorem dX8_of_141 : decode cX8_of 141 = .ok (.iload_n 3, 1) := by decide +kernel
theorem dX8_of_142 : decode cX8_of 142 = .ok (.ireturn, 1) := by decide +kernel
theorem dX8_of_143 : decode cX8_of 143 = .ok (.iconst (-1), 1) := by decide +kernel
theorem dX8_of_144 : decode cX8_of 144 = .ok (.ireturn, 1) := by decide +kernel
theorem dX8_answer_0 : decode cX8_answer 0 = .ok (.aload_n 0, 1) := by decide +kernel
theorem dX8_answer_1 : decode cX8_answer 1 = .ok (.iload_n 1, 1) := by decide +kernel
theorem dX8_answer_2 : decode cX8_answer 2 = .ok (.invokevirtual 66, 3) := by decide +kernel
theorem dX8_answer_5 : decode cX8_answer 5 = .ok (.ifCond .eq 20, 3) := by decide +kernel
theorem dX8_answer_8 : decode cX8_answer 8 = .ok (.aload_n 0, 1) := by decide +kernel
theorem dX8_answer_9 : decode cX8_answer 9 = .ok (.iload_n 2, 1) := by decide +kernel
theorem dX8_answer_10 : decode cX8_answer 10 = .ok (.invokevirtual 66, 3) := by decide +kernel
theorem dX8_answer_13 : decode cX8_answer 13 = .ok (.ifCond .eq 12, 3) := by decide +kernel
theorem dX8_answer_16 : decode cX8_answer 16 = .ok (.aload_n 0, 1) := by decide +kernel
theorem dX8_answer_17 : decode cX8_answer 17 = .ok (.iload_n 1, 1) := by decide +kernel
theorem dX8_answer_18 : decode cX8_answer 18 = .ok (.iload_n 2, 1) := by decide +kernel
theorem dX8_answer_19 : decode cX8_answer 19 = .ok (.invokevirtual 105, 3) := by decide +kernel
theorem dX8_answer_22 : decode cX8_answer 22 = .ok (.goto 4, 3) := by decide +kernel
theorem dX8_answer_25 : decode cX8_answer 25 = .ok (.iconst (-1), 1) := by decide +kernel
theorem dX8_answer_26 : decode cX8_answer 26 = .ok (.ireturn, 1) := by decide +kernel
theorem dX8_isParting_0 : decode cX8_isParting 0 = .ok (.aload_n 0, 1) := by decide +kernel
theorem dX8_isParting_1 : decode cX8_isParting 1 = .ok (.iload_n 1, 1) := by decide +kernel
theorem dX8_isParting_2 : decode cX8_isParting 2 = .ok (.iload_n 2, 1) := by decide +kernel
theorem dX8_isParting_3 : decode cX8_isParting 3 = .ok (.invokevirtual 105, 3) := by decide +kernel
theorem dX8_isParting_6 : decode cX8_isParting 6 = .ok (.aload_n 0, 1) := by decide +kernel
theorem dX8_isParting_7 : decode cX8_isParting 7 = .ok (.iload_n 1, 1) := by decide +kernel
theorem dX8_isParting_8 : decode cX8_isParting 8 = .ok (.iload_n 3, 1) := by decide +kernel
theorem dX8_isParting_9 : decode cX8_isParting 9 = .ok (.invokevirtual 105, 3) := by decide +kernel
theorem dX8_isParting_12 : decode cX8_isParting 12 = .ok (.if_icmp .eq 7, 3) := by decide +kernel
theorem dX8_isParting_15 : decode cX8_isParting 15 = .ok (.iconst 1, 1) := by decide +kernel
theorem dX8_isParting_16 : decode cX8_isParting 16 = .ok (.goto 4, 3) := by decide +kernel
theorem dX8_isParting_19 : decode cX8_isParting 19 = .ok (.iconst 0, 1) := by decide +kernel
theorem dX8_isParting_20 : decode cX8_isParting 20 = .ok (.ireturn, 1) := by decide +kernel
theorem dX8_parting_0 : decode cX8_parting 0 = .ok (.iconst 0, 1) := by decide +kernel
theorem dX8_parting_1 : decode cX8_parting 1 = .ok (.istore_n 3, 1) := by decide +kernel
theorem dX8_parting_2 : decode cX8_parting 2 = .ok (.iconst 0, 1) := by decide +kernel
theorem dX8_parting_3 : decode cX8_parting 3 = .ok (.istore 4, 2) := by decide +kernel
theorem dX8_parting_5 : decode cX8_parting 5 = .ok (.iload 4, 2) := by decide +kernel
theorem dX8_parting_7 : decode cX8_parting 7 = .ok (.aload_n 0, 1) := by decide +kernel
theorem dX8_parting_8 : decode cX8_parting 8 = .ok (.invokevirtual 62, 3) := by decide +kernel
theorem dX8_parting_11 : decode cX8_parting 11 = .ok (.if_icmp .ge 31, 3) := by decide +kernel
theorem dX8_parting_14 : decode cX8_parting 14 = .ok (.iload_n 3, 1) := by decide +kernel
theorem dX8_parting_15 : decode cX8_parting 15 = .ok (.aload_n 0, 1) := by decide +kernel
theorem dX8_parting_16 : decode cX8_parting 16 = .ok (.iload 4, 2) := by decide +kernel
theorem dX8_parting_18 : decode cX8_parting 18 = .ok (.iload_n 1, 1) := by decide +kernel
theorem dX8_parting_19 : decode cX8_parting 19 = .ok (.iload_n 2, 1) := by decide +kernel
theorem dX8_parting_20 : decode cX8_parting 20 = .ok (.invokevirtual 108, 3) := by decide +kernel
theorem dX8_parting_23 : decode cX8_parting 23 = .ok (.ifCond .eq 10, 3) := by decide +kernel
theorem dX8_parting_26 : decode cX8_parting 26 = .ok (.iconst 1, 1) := by decide +kernel
theorem dX8_parting_27 : decode cX8_parting 27 = .ok (.iload 4, 2) := by decide +kernel
theorem dX8_parting_29 : decode cX8_parting 29 = .ok (.ishl, 1) := by decide +kernel
theorem dX8_parting_30 : decode cX8_parting 30 = .ok (.goto 4, 3) := by decide +kernel
theorem dX8_parting_33 : decode cX8_parting 33 = .ok (.iconst 0, 1) := by decide +kernel
theorem dX8_parting_34 : decode cX8_parting 34 = .ok (.ior, 1) := by decide +kernel
theorem dX8_parting_35 : decode cX8_parting 35 = .ok (.istore_n 3, 1) := by decide +kernel
theorem dX8_parting_36 : decode cX8_parting 36 = .ok (.iinc 4 1, 3) := by decide +kernel
theorem dX8_parting_39 : decode cX8_parting 39 = .ok (.goto (-34), 3) := by decide +kernel
theorem dX8_parting_42 : decode cX8_parting 42 = .ok (.iload_n 3, 1) := by decide +kernel
theorem dX8_parting_43 : decode cX8_parting 43 = .ok (.ireturn, 1) := by decide +kernel
theorem dX8_areTwins_0 : decode cX8_areTwins 0 = .ok (.aload_n 0, 1) := by decide +kernel
theorem dX8_areTwins_1 : decode cX8_areTwins 1 = .ok (.iload_n 1, 1) := by decide +kernel
theorem dX8_areTwins_2 : decode cX8_areTwins 2 = .ok (.iload_n 2, 1) := by decide +kernel
theorem dX8_areTwins_3 : decode cX8_areTwins 3 = .ok (.invokevirtual 111, 3) := by decide +kernel
theorem dX8_areTwins_6 : decode cX8_areTwins 6 = .ok (.ifCond .ne 7, 3) := by decide +kernel
theorem dX8_areTwins_9 : decode cX8_areTwins 9 = .ok (.iconst 1, 1) := by decide +kernel
theorem dX8_areTwins_10 : decode cX8_areTwins 10 = .ok (.goto 4, 3) := by decide +kernel
theorem dX8_areTwins_13 : decode cX8_areTwins 13 = .ok (.iconst 0, 1) := by decide +kernel
theorem dX8_areTwins_14 : decode cX8_areTwins 14 = .ok (.ireturn, 1) := by decide +kernel
theorem dX8_isYes_0 : decode cX8_isYes 0 = .ok (.aload_n 0, 1) := by decide +kernel
theorem dX8_isYes_1 : decode cX8_isYes 1 = .ok (.getfield 7, 3) := by decide +kernel
theorem dX8_isYes_4 : decode cX8_isYes 4 = .ok (.iconst 1, 1) := by decide +kernel
theorem dX8_isYes_5 : decode cX8_isYes 5 = .ok (.iaload, 1) := by decide +kernel
theorem dX8_isYes_6 : decode cX8_isYes 6 = .ok (.ifCond .ne 22, 3) := by decide +kernel
theorem dX8_isYes_9 : decode cX8_isYes 9 = .ok (.aload_n 0, 1) := by decide +kernel
theorem dX8_isYes_10 : decode cX8_isYes 10 = .ok (.iload_n 1, 1) := by decide +kernel
theorem dX8_isYes_11 : decode cX8_isYes 11 = .ok (.iload_n 2, 1) := by decide +kernel
theorem dX8_isYes_12 : decode cX8_isYes 12 = .ok (.invokevirtual 105, 3) := by decide +kernel
theorem dX8_isYes_15 : decode cX8_isYes 15 = .ok (.ldc 74, 2) := by decide +kernel
theorem dX8_isYes_17 : decode cX8_isYes 17 = .ok (.if_icmp .eq 7, 3) := by decide +kernel
theorem dX8_isYes_20 : decode cX8_isYes 20 = .ok (.iconst 1, 1) := by decide +kernel
theorem dX8_isYes_21 : decode cX8_isYes 21 = .ok (.goto 21, 3) := by decide +kernel
theorem dX8_isYes_24 : decode cX8_isYes 24 = .ok (.iconst 0, 1) := by decide +kernel
theorem dX8_isYes_25 : decode cX8_isYes 25 = .ok (.goto 17, 3) := by decide +kernel
theorem dX8_isYes_28 : decode cX8_isYes 28 = .ok (.aload_n 0, 1) := by decide +kernel
theorem dX8_isYes_29 : decode cX8_isYes 29 = .ok (.iload_n 1, 1) := by decide +kernel
theorem dX8_isYes_30 : decode cX8_isYes 30 = .ok (.iload_n 2, 1) := by decide +kernel
theorem dX8_isYes_31 : decode cX8_isYes 31 = .ok (.invokevirtual 105, 3) := by decide +kernel
theorem dX8_isYes_34 : decode cX8_isYes 34 = .ok (.ifCond .eq 7, 3) := by decide +kernel
theorem dX8_isYes_37 : decode cX8_isYes 37 = .ok (.iconst 1, 1) := by decide +kernel
theorem dX8_isYes_38 : decode cX8_isYes 38 = .ok (.goto 4, 3) := by decide +kernel
theorem dX8_isYes_41 : decode cX8_isYes 41 = .ok (.iconst 0, 1) := by decide +kernel
theorem dX8_isYes_42 : decode cX8_isYes 42 = .ok (.ireturn, 1) := by decide +kernel
theorem dX8_yes_0 : decode cX8_yes 0 = .ok (.iconst 0, 1) := by decide +kernel
theorem dX8_yes_1 : decode cX8_yes 1 = .ok (.istore_n 2, 1) := by decide +kernel
theorem dX8_yes_2 : decode cX8_yes 2 = .ok (.iconst 0, 1) := by decide +kernel
theorem dX8_yes_3 : decode cX8_yes 3 = .ok (.istore_n 3, 1) := by decide +kernel
theorem dX8_yes_4 : decode cX8_yes 4 = .ok (.iload_n 3, 1) := by decide +kernel
theorem dX8_yes_5 : decode cX8_yes 5 = .ok (.aload_n 0, 1) := by decide +kernel
theorem dX8_yes_6 : decode cX8_yes 6 = .ok (.invokevirtual 62, 3) := by decide +kernel
theorem dX8_yes_9 : decode cX8_yes 9 = .ok (.if_icmp .ge 28, 3) := by decide +kernel
theorem dX8_yes_12 : decode cX8_yes 12 = .ok (.iload_n 2, 1) := by decide +kernel
theorem dX8_yes_13 : decode cX8_yes 13 = .ok (.aload_n 0, 1) := by decide +kernel
theorem dX8_yes_14 : decode cX8_yes 14 = .ok (.iload_n 3, 1) := by decide +kernel
theorem dX8_yes_15 : decode cX8_yes 15 = .ok (.iload_n 1, 1) := by decide +kernel
theorem dX8_yes_16 : decode cX8_yes 16 = .ok (.invokevirtual 114, 3) := by decide +kernel
theorem dX8_yes_19 : decode cX8_yes 19 = .ok (.ifCond .eq 9, 3) := by decide +kernel
theorem dX8_yes_22 : decode cX8_yes 22 = .ok (.iconst 1, 1) := by decide +kernel
theorem dX8_yes_23 : decode cX8_yes 23 = .ok (.iload_n 3, 1) := by decide +kernel
theorem dX8_yes_24 : decode cX8_yes 24 = .ok (.ishl, 1) := by decide +kernel
theorem dX8_yes_25 : decode cX8_yes 25 = .ok (.goto 4, 3) := by decide +kernel
theorem dX8_yes_28 : decode cX8_yes 28 = .ok (.iconst 0, 1) := by decide +kernel
theorem dX8_yes_29 : decode cX8_yes 29 = .ok (.ior, 1) := by decide +kernel
theorem dX8_yes_30 : decode cX8_yes 30 = .ok (.istore_n 2, 1) := by decide +kernel
theorem dX8_yes_31 : decode cX8_yes 31 = .ok (.iinc 3 1, 3) := by decide +kernel
theorem dX8_yes_34 : decode cX8_yes 34 = .ok (.goto (-30), 3) := by decide +kernel
theorem dX8_yes_37 : decode cX8_yes 37 = .ok (.iload_n 2, 1) := by decide +kernel
theorem dX8_yes_38 : decode cX8_yes 38 = .ok (.ireturn, 1) := by decide +kernel
theorem dX8_parts_0 : decode cX8_parts 0 = .ok (.aload_n 0, 1) := by decide +kernel
theorem dX8_parts_1 : decode cX8_parts 1 = .ok (.iload_n 1, 1) := by decide +kernel
theorem dX8_parts_2 : decode cX8_parts 2 = .ok (.invokevirtual 118, 3) := by decide +kernel
theorem dX8_parts_5 : decode cX8_parts 5 = .ok (.ifCond .eq 38, 3) := by decide +kernel
theorem dX8_parts_8 : decode cX8_parts 8 = .ok (.aload_n 0, 1) := by decide +kernel
theorem dX8_parts_9 : decode cX8_parts 9 = .ok (.iload_n 2, 1) := by decide +kernel
theorem dX8_parts_10 : decode cX8_parts 10 = .ok (.invokevirtual 66, 3) := by decide +kernel
theorem dX8_parts_13 : decode cX8_parts 13 = .ok (.ifCond .eq 30, 3) := by decide +kernel
theorem dX8_parts_16 : decode cX8_parts 16 = .ok (.aload_n 0, 1) := by decide +kernel
theorem dX8_parts_17 : decode cX8_parts 17 = .ok (.iload_n 3, 1) := by decide +kernel
theorem dX8_parts_18 : decode cX8_parts 18 = .ok (.invokevirtual 66, 3) := by decide +kernel
theorem dX8_parts_21 : decode cX8_parts 21 = .ok (.ifCond .eq 22, 3) := by decide +kernel
theorem dX8_parts_24 : decode cX8_parts 24 = .ok (.iload_n 2, 1) := by decide +kernel
theorem dX8_parts_25 : decode cX8_parts 25 = .ok (.iload_n 3, 1) := by decide +kernel
theorem dX8_parts_26 : decode cX8_parts 26 = .ok (.if_icmp .eq 17, 3) := by decide +kernel
theorem dX8_parts_29 : decode cX8_parts 29 = .ok (.aload_n 0, 1) := by decide +kernel
theorem dX8_parts_30 : decode cX8_parts 30 = .ok (.iload_n 2, 1) := by decide +kernel
theorem dX8_parts_31 : decode cX8_parts 31 = .ok (.iload_n 3, 1) := by decide +kernel
theorem dX8_parts_32 : decode cX8_parts 32 = .ok (.invokevirtual 111, 3) := by decide +kernel
theorem dX8_parts_35 : decode cX8_parts 35 = .ok (.iload_n 1, 1) := by decide +kernel
theorem dX8_parts_36 : decode cX8_parts 36 = .ok (.iand, 1) := by decide +kernel
theorem dX8_parts_37 : decode cX8_parts 37 = .ok (.invokestatic 102, 3) := by decide +kernel
theorem dX8_parts_40 : decode cX8_parts 40 = .ok (.goto 4, 3) := by decide +kernel
theorem dX8_parts_43 : decode cX8_parts 43 = .ok (.iconst (-1), 1) := by decide +kernel
theorem dX8_parts_44 : decode cX8_parts 44 = .ok (.ireturn, 1) := by decide +kernel
theorem dX8_gather_0 : decode cX8_gather 0 = .ok (.iconst 0, 1) := by decide +kernel
theorem dX8_gather_1 : decode cX8_gather 1 = .ok (.istore_n 1, 1) := by decide +kernel
theorem dX8_gather_2 : decode cX8_gather 2 = .ok (.iload_n 1, 1) := by decide +kernel
theorem dX8_gather_3 : decode cX8_gather 3 = .ok (.aload_n 0, 1) := by decide +kernel
theorem dX8_gather_4 : decode cX8_gather 4 = .ok (.invokevirtual 62, 3) := by decide +kernel
theorem dX8_gather_7 : decode cX8_gather 7 = .ok (.if_icmp .ge 55, 3) := by decide +kernel
theorem dX8_gather_10 : decode cX8_gather 10 = .ok (.aload_n 0, 1) := by decide +kernel
theorem dX8_gather_11 : decode cX8_gather 11 = .ok (.getfield 29, 3) := by decide +kernel
theorem dX8_gather_14 : decode cX8_gather 14 = .ok (.iload_n 1, 1) := by decide +kernel
theorem dX8_gather_15 : decode cX8_gather 15 = .ok (.aload_n 0, 1) := by decide +kernel
theorem dX8_gather_16 : decode cX8_gather 16 = .ok (.iload_n 1, 1) := by decide +kernel
theorem dX8_gather_17 : decode cX8_gather 17 = .ok (.invokevirtual 121, 3) := by decide +kernel
theorem dX8_gather_20 : decode cX8_gather 20 = .ok (.iastore, 1) := by decide +kernel
theorem dX8_gather_21 : decode cX8_gather 21 = .ok (.iload_n 1, 1) := by decide +kernel
theorem dX8_gather_22 : decode cX8_gather 22 = .ok (.iconst 1, 1) := by decide +kernel
theorem dX8_gather_23 : decode cX8_gather 23 = .ok (.iadd, 1) := by decide +kernel
theorem dX8_gather_24 : decode cX8_gather 24 = .ok (.istore_n 2, 1) := by decide +kernel
theorem dX8_gather_25 : decode cX8_gather 25 = .ok (.iload_n 2, 1) := by decide +kernel
theorem dX8_gather_26 : decode cX8_gather 26 = .ok (.aload_n 0, 1) := by decide +kernel
theorem dX8_gather_27 : decode cX8_gather 27 = .ok (.invokevirtual 62, 3) := by decide +kernel
theorem dX8_gather_30 : decode cX8_gather 30 = .ok (.if_icmp .ge 26, 3) := by decide +kernel
theorem dX8_gather_33 : decode cX8_gather 33 = .ok (.aload_n 0, 1) := by decide +kernel
theorem dX8_gather_34 : decode cX8_gather 34 = .ok (.getfield 26, 3) := by decide +kernel
theorem dX8_gather_37 : decode cX8_gather 37 = .ok (.bipush 16, 2) := by decide +kernel
theorem dX8_gather_39 : decode cX8_gather 39 = .ok (.iload_n 1, 1) := by decide +kernel
theorem dX8_gather_40 : decode cX8_gather 40 = .ok (.imul, 1) := by decide +kernel
theorem dX8_gather_41 : decode cX8_gather 41 = .ok (.iload_n 2, 1) := by decide +kernel
theorem dX8_gather_42 : decode cX8_gather 42 = .ok (.iadd, 1) := by decide +kernel
theorem dX8_gather_43 : decode cX8_gather 43 = .ok (.aload_n 0, 1) := by decide +kernel
theorem dX8_gather_44 : decode cX8_gather 44 = .ok (.iload_n 1, 1) := by decide +kernel
theorem dX8_gather_45 : decode cX8_gather 45 = .ok (.iload_n 2, 1) := by decide +kernel
theorem dX8_gather_46 : decode cX8_gather 46 = .ok (.invokevirtual 111, 3) := by decide +kernel
theorem dX8_gather_49 : decode cX8_gather 49 = .ok (.iastore, 1) := by decide +kernel
theorem dX8_gather_50 : decode cX8_gather 50 = .ok (.iinc 2 1, 3) := by decide +kernel
theorem dX8_gather_53 : decode cX8_gather 53 = .ok (.goto (-28), 3) := by decide +kernel
theorem dX8_gather_56 : decode cX8_gather 56 = .ok (.iinc 1 1, 3) := by decide +kernel
theorem dX8_gather_59 : decode cX8_gather 59 = .ok (.goto (-57), 3) := by decide +kernel
theorem dX8_gather_62 : decode cX8_gather 62 = .ok (.return_, 1) := by decide +kernel
theorem dX8_clashOf_0 : decode cX8_clashOf 0 = .ok (.aload_n 0, 1) := by decide +kernel
theorem dX8_clashOf_1 : decode cX8_clashOf 1 = .ok (.invokevirtual 95, 3) := by decide +kernel
theorem dX8_clashOf_4 : decode cX8_clashOf 4 = .ok (.istore_n 2, 1) := by decide +kernel
theorem dX8_clashOf_5 : decode cX8_clashOf 5 = .ok (.iconst 0, 1) := by decide +kernel
theorem dX8_clashOf_6 : decode cX8_clashOf 6 = .ok (.istore_n 3, 1) := by decide +kernel
theorem dX8_clashOf_7 : decode cX8_clashOf 7 = .ok (.iload_n 3, 1) := by decide +kernel
theorem dX8_clashOf_8 : decode cX8_clashOf 8 = .ok (.aload_n 0, 1) := by decide +kernel
theorem dX8_clashOf_9 : decode cX8_clashOf 9 = .ok (.invokevirtual 62, 3) := by decide +kernel
theorem dX8_clashOf_12 : decode cX8_clashOf 12 = .ok (.if_icmp .ge 67, 3) := by decide +kernel
theorem dX8_clashOf_15 : decode cX8_clashOf 15 = .ok (.iload_n 3, 1) := by decide +kernel
theorem dX8_clashOf_16 : decode cX8_clashOf 16 = .ok (.iconst 1, 1) := by decide +kernel
theorem dX8_clashOf_17 : decode cX8_clashOf 17 = .ok (.iadd, 1) := by decide +kernel
theorem dX8_clashOf_18 : decode cX8_clashOf 18 = .ok (.istore 4, 2) := by decide +kernel
theorem dX8_clashOf_20 : decode cX8_clashOf 20 = .ok (.iload 4, 2) := by decide +kernel
theorem dX8_clashOf_22 : decode cX8_clashOf 22 = .ok (.aload_n 0, 1) := by decide +kernel
theorem dX8_clashOf_23 : decode cX8_clashOf 23 = .ok (.invokevirtual 62, 3) := by decide +kernel
theorem dX8_clashOf_26 : decode cX8_clashOf 26 = .ok (.if_icmp .ge 47, 3) := by decide +kernel
theorem dX8_clashOf_29 : decode cX8_clashOf 29 = .ok (.aload_n 0, 1) := by decide +kernel
theorem dX8_clashOf_30 : decode cX8_clashOf 30 = .ok (.getfield 26, 3) := by decide +kernel
theorem dX8_clashOf_33 : decode cX8_clashOf 33 = .ok (.bipush 16, 2) := by decide +kernel
theorem dX8_clashOf_35 : decode cX8_clashOf 35 = .ok (.iload_n 3, 1) := by decide +kernel
theorem dX8_clashOf_36 : decode cX8_clashOf 36 = .ok (.imul, 1) := by decide +kernel
theorem dX8_clashOf_37 : decode cX8_clashOf 37 = .ok (.iload 4, 2) := by decide +kernel
theorem dX8_clashOf_39 : decode cX8_clashOf 39 = .ok (.iadd, 1) := by decide +kernel
theorem dX8_clashOf_40 : decode cX8_clashOf 40 = .ok (.iaload, 1) := by decide +kernel
theorem dX8_clashOf_41 : decode cX8_clashOf 41 = .ok (.istore 5, 2) := by decide +kernel
theorem dX8_clashOf_43 : decode cX8_clashOf 43 = .ok (.iload 5, 2) := by decide +kernel
theorem dX8_clashOf_45 : decode cX8_clashOf 45 = .ok (.ifCond .eq 22, 3) := by decide +kernel
theorem dX8_clashOf_48 : decode cX8_clashOf 48 = .ok (.iload 5, 2) := by decide +kernel
theorem dX8_clashOf_50 : decode cX8_clashOf 50 = .ok (.iload_n 1, 1) := by decide +kernel
theorem dX8_clashOf_51 : decode cX8_clashOf 51 = .ok (.iand, 1) := by decide +kernel
theorem dX8_clashOf_52 : decode cX8_clashOf 52 = .ok (.invokestatic 102, 3) := by decide +kernel
theorem dX8_clashOf_55 : decode cX8_clashOf 55 = .ok (.iload_n 2, 1) := by decide +kernel
theorem dX8_clashOf_56 : decode cX8_clashOf 56 = .ok (.if_icmp .ge 11, 3) := by decide +kernel
theorem dX8_clashOf_59 : decode cX8_clashOf 59 = .ok (.bipush 16, 2) := by decide +kernel
theorem dX8_clashOf_61 : decode cX8_clashOf 61 = .ok (.iload_n 3, 1) := by decide +kernel
theorem dX8_clashOf_62 : decode cX8_clashOf 62 = .ok (.imul, 1) := by decide +kernel
theorem dX8_clashOf_63 : decode cX8_clashOf 63 = .ok (.iload 4, 2) := by decide +kernel
theorem dX8_clashOf_65 : decode cX8_clashOf 65 = .ok (.iadd, 1) := by decide +kernel
theorem dX8_clashOf_66 : decode cX8_clashOf 66 = .ok (.ireturn, 1) := by decide +kernel
theorem dX8_clashOf_67 : decode cX8_clashOf 67 = .ok (.iinc 4 1, 3) := by decide +kernel
theorem dX8_clashOf_70 : decode cX8_clashOf 70 = .ok (.goto (-50), 3) := by decide +kernel
theorem dX8_clashOf_73 : decode cX8_clashOf 73 = .ok (.iinc 3 1, 3) := by decide +kernel
theorem dX8_clashOf_76 : decode cX8_clashOf 76 = .ok (.goto (-69), 3) := by decide +kernel
theorem dX8_clashOf_79 : decode cX8_clashOf 79 = .ok (.iconst 0, 1) := by decide +kernel
theorem dX8_clashOf_80 : decode cX8_clashOf 80 = .ok (.istore_n 3, 1) := by decide +kernel
theorem dX8_clashOf_81 : decode cX8_clashOf 81 = .ok (.iload_n 3, 1) := by decide +kernel
theorem dX8_clashOf_82 : decode cX8_clashOf 82 = .ok (.aload_n 0, 1) := by decide +kernel
theorem dX8_clashOf_83 : decode cX8_clashOf 83 = .ok (.invokevirtual 62, 3) := by decide +kernel
theorem dX8_clashOf_86 : decode cX8_clashOf 86 = .ok (.if_icmp .ge 40, 3) := by decide +kernel
theorem dX8_clashOf_89 : decode cX8_clashOf 89 = .ok (.aload_n 0, 1) := by decide +kernel
theorem dX8_clashOf_90 : decode cX8_clashOf 90 = .ok (.getfield 7, 3) := by decide +kernel
theorem dX8_clashOf_93 : decode cX8_clashOf 93 = .ok (.iconst 5, 1) := by decide +kernel
theorem dX8_clashOf_94 : decode cX8_clashOf 94 = .ok (.iaload, 1) := by decide +kernel
theorem dX8_clashOf_95 : decode cX8_clashOf 95 = .ok (.iconst 1, 1) := by decide +kernel
theorem dX8_clashOf_96 : decode cX8_clashOf 96 = .ok (.if_icmp .ne 30, 3) := by decide +kernel
theorem dX8_clashOf_99 : decode cX8_clashOf 99 = .ok (.aload_n 0, 1) := by decide +kernel
theorem dX8_clashOf_100 : decode cX8_clashOf 100 = .ok (.getfield 29, 3) := by decide +kernel
theorem dX8_clashOf_103 : decode cX8_clashOf 103 = .ok (.iload_n 3, 1) := by decide +kernel
theorem dX8_clashOf_104 : decode cX8_clashOf 104 = .ok (.iaload, 1) := by decide +kernel
theorem dX8_clashOf_105 : decode cX8_clashOf 105 = .ok (.iload_n 1, 1) := by decide +kernel
theorem dX8_clashOf_106 : decode cX8_clashOf 106 = .ok (.iand, 1) := by decide +kernel
theorem dX8_clashOf_107 : decode cX8_clashOf 107 = .ok (.invokestatic 102, 3) := by decide +kernel
theorem dX8_clashOf_110 : decode cX8_clashOf 110 = .ok (.iload_n 2, 1) := by decide +kernel
theorem dX8_clashOf_111 : decode cX8_clashOf 111 = .ok (.if_icmp .ge 9, 3) := by decide +kernel
theorem dX8_clashOf_114 : decode cX8_clashOf 114 = .ok (.sipush 1000, 3) := by decide +kernel
theorem dX8_clashOf_117 : decode cX8_clashOf 117 = .ok (.iload_n 3, 1) := by decide +kernel
theorem dX8_clashOf_118 : decode cX8_clashOf 118 = .ok (.iadd, 1) := by decide +kernel
theorem dX8_clashOf_119 : decode cX8_clashOf 119 = .ok (.ireturn, 1) := by decide +kernel
theorem dX8_clashOf_120 : decode cX8_clashOf 120 = .ok (.iinc 3 1, 3) := by decide +kernel
theorem dX8_clashOf_123 : decode cX8_clashOf 123 = .ok (.goto (-42), 3) := by decide +kernel
theorem dX8_clashOf_126 : decode cX8_clashOf 126 = .ok (.iconst (-1), 1) := by decide +kernel
theorem dX8_clashOf_127 : decode cX8_clashOf 127 = .ok (.ireturn, 1) := by decide +kernel
theorem dX8_clash_0 : decode cX8_clash 0 = .ok (.aload_n 0, 1) := by decide +kernel
theorem dX8_clash_1 : decode cX8_clash 1 = .ok (.iload_n 1, 1) := by decide +kernel
theorem dX8_clash_2 : decode cX8_clash 2 = .ok (.invokevirtual 118, 3) := by decide +kernel
theorem dX8_clash_5 : decode cX8_clash 5 = .ok (.ifCond .ne 6, 3) := by decide +kernel
theorem dX8_clash_8 : decode cX8_clash 8 = .ok (.bipush (-2), 2) := by decide +kernel
theorem dX8_clash_10 : decode cX8_clash 10 = .ok (.ireturn, 1) := by decide +kernel
theorem dX8_clash_11 : decode cX8_clash 11 = .ok (.aload_n 0, 1) := by decide +kernel
theorem dX8_clash_12 : decode cX8_clash 12 = .ok (.invokevirtual 124, 3) := by decide +kernel
theorem dX8_clash_15 : decode cX8_clash 15 = .ok (.aload_n 0, 1) := by decide +kernel
theorem dX8_clash_16 : decode cX8_clash 16 = .ok (.iload_n 1, 1) := by decide +kernel
theorem dX8_clash_17 : decode cX8_clash 17 = .ok (.invokevirtual 127, 3) := by decide +kernel
theorem dX8_clash_20 : decode cX8_clash 20 = .ok (.ireturn, 1) := by decide +kernel
theorem dX8_twins_0 : decode cX8_twins 0 = .ok (.iconst 0, 1) := by decide +kernel
theorem dX8_twins_1 : decode cX8_twins 1 = .ok (.istore_n 2, 1) := by decide +kernel
theorem dX8_twins_2 : decode cX8_twins 2 = .ok (.iconst 0, 1) := by decide +kernel
theorem dX8_twins_3 : decode cX8_twins 3 = .ok (.istore_n 3, 1) := by decide +kernel
theorem dX8_twins_4 : decode cX8_twins 4 = .ok (.iload_n 3, 1) := by decide +kernel
theorem dX8_twins_5 : decode cX8_twins 5 = .ok (.aload_n 0, 1) := by decide +kernel
theorem dX8_twins_6 : decode cX8_twins 6 = .ok (.invokevirtual 62, 3) := by decide +kernel
theorem dX8_twins_9 : decode cX8_twins 9 = .ok (.if_icmp .ge 62, 3) := by decide +kernel
theorem dX8_twins_12 : decode cX8_twins 12 = .ok (.iload_n 1, 1) := by decide +kernel
theorem dX8_twins_13 : decode cX8_twins 13 = .ok (.ifCond .lt 58, 3) := by decide +kernel
theorem dX8_twins_16 : decode cX8_twins 16 = .ok (.iload_n 3, 1) := by decide +kernel
theorem dX8_twins_17 : decode cX8_twins 17 = .ok (.iconst 1, 1) := by decide +kernel
theorem dX8_twins_18 : decode cX8_twins 18 = .ok (.iadd, 1) := by decide +kernel
theorem dX8_twins_19 : decode cX8_twins 19 = .ok (.istore 4, 2) := by decide +kernel
theorem dX8_twins_21 : decode cX8_twins 21 = .ok (.iload 4, 2) := by decide +kernel
theorem dX8_twins_23 : decode cX8_twins 23 = .ok (.aload_n 0, 1) := by decide +kernel
theorem dX8_twins_24 : decode cX8_twins 24 = .ok (.invokevirtual 62, 3) := by decide +kernel
theorem dX8_twins_27 : decode cX8_twins 27 = .ok (.if_icmp .ge 38, 3) := by decide +kernel
theorem dX8_twins_30 : decode cX8_twins 30 = .ok (.aload_n 0, 1) := by decide +kernel
theorem dX8_twins_31 : decode cX8_twins 31 = .ok (.iload_n 3, 1) := by decide +kernel
theorem dX8_twins_32 : decode cX8_twins 32 = .ok (.iload 4, 2) := by decide +kernel
theorem dX8_twins_34 : decode cX8_twins 34 = .ok (.invokevirtual 130, 3) := by decide +kernel
theorem dX8_twins_37 : decode cX8_twins 37 = .ok (.ifCond .ne 6, 3) := by decide +kernel
theorem dX8_twins_40 : decode cX8_twins 40 = .ok (.goto 19, 3) := by decide +kernel
theorem dX8_twins_43 : decode cX8_twins 43 = .ok (.iload_n 2, 1) := by decide +kernel
theorem dX8_twins_44 : decode cX8_twins 44 = .ok (.iload_n 1, 1) := by decide +kernel
theorem dX8_twins_45 : decode cX8_twins 45 = .ok (.if_icmp .ne 11, 3) := by decide +kernel
theorem dX8_twins_48 : decode cX8_twins 48 = .ok (.bipush 16, 2) := by decide +kernel
theorem dX8_twins_50 : decode cX8_twins 50 = .ok (.iload_n 3, 1) := by decide +kernel
theorem dX8_twins_51 : decode cX8_twins 51 = .ok (.imul, 1) := by decide +kernel
theorem dX8_twins_52 : decode cX8_twins 52 = .ok (.iload 4, 2) := by decide +kernel
theorem dX8_twins_54 : decode cX8_twins 54 = .ok (.iadd, 1) := by decide +kernel
theorem dX8_twins_55 : decode cX8_twins 55 = .ok (.ireturn, 1) := by decide +kernel
theorem dX8_twins_56 : decode cX8_twins 56 = .ok (.iinc 2 1, 3) := by decide +kernel
theorem dX8_twins_59 : decode cX8_twins 59 = .ok (.iinc 4 1, 3) := by decide +kernel
theorem dX8_twins_62 : decode cX8_twins 62 = .ok (.goto (-41), 3) := by decide +kernel
theorem dX8_twins_65 : decode cX8_twins 65 = .ok (.iinc 3 1, 3) := by decide +kernel
theorem dX8_twins_68 : decode cX8_twins 68 = .ok (.goto (-64), 3) := by decide +kernel
theorem dX8_twins_71 : decode cX8_twins 71 = .ok (.iconst (-1), 1) := by decide +kernel
theorem dX8_twins_72 : decode cX8_twins 72 = .ok (.ireturn, 1) := by decide +kernel
theorem dX8_best_0 : decode cX8_best 0 = .ok (.aload_n 0, 1) := by decide +kernel
theorem dX8_best_1 : decode cX8_best 1 = .ok (.invokevirtual 124, 3) := by decide +kernel
theorem dX8_best_4 : decode cX8_best 4 = .ok (.iconst (-1), 1) := by decide +kernel
theorem dX8_best_5 : decode cX8_best 5 = .ok (.istore_n 2, 1) := by decide +kernel
theorem dX8_best_6 : decode cX8_best 6 = .ok (.iconst 0, 1) := by decide +kernel
theorem dX8_best_7 : decode cX8_best 7 = .ok (.istore_n 3, 1) := by decide +kernel
theorem dX8_best_8 : decode cX8_best 8 = .ok (.iconst 0, 1) := by decide +kernel
theorem dX8_best_9 : decode cX8_best 9 = .ok (.istore 4, 2) := by decide +kernel
theorem dX8_best_11 : decode cX8_best 11 = .ok (.iload 4, 2) := by decide +kernel
theorem dX8_best_13 : decode cX8_best 13 = .ok (.iconst 1, 1) := by decide +kernel
theorem dX8_best_14 : decode cX8_best 14 = .ok (.aload_n 0, 1) := by decide +kernel
theorem dX8_best_15 : decode cX8_best 15 = .ok (.invokevirtual 62, 3) := by decide +kernel
theorem dX8_best_18 : decode cX8_best 18 = .ok (.ishl, 1) := by decide +kernel
theorem dX8_best_19 : decode cX8_best 19 = .ok (.if_icmp .ge 57, 3) := by decide +kernel
theorem dX8_best_22 : decode cX8_best 22 = .ok (.iload_n 1, 1) := by decide +kernel
theorem dX8_best_23 : decode cX8_best 23 = .ok (.ifCond .eq 12, 3) := by decide +kernel
theorem dX8_best_26 : decode cX8_best 26 = .ok (.aload_n 0, 1) := by decide +kernel
theorem dX8_best_27 : decode cX8_best 27 = .ok (.iload 4, 2) := by decide +kernel
theorem dX8_best_29 : decode cX8_best 29 = .ok (.invokevirtual 133, 3) := by decide +kernel
theorem dX8_best_32 : decode cX8_best 32 = .ok (.goto 8, 3) := by decide +kernel
theorem dX8_best_35 : decode cX8_best 35 = .ok (.iload 4, 2) := by decide +kernel
theorem dX8_best_37 : decode cX8_best 37 = .ok (.invokestatic 102, 3) := by decide +kernel
theorem dX8_best_40 : decode cX8_best 40 = .ok (.istore 5, 2) := by decide +kernel
end
section
theorem dX8_best_42 : decode cX8_best 42 = .ok (.iload_n 2, 1) := by decide +kernel
theorem dX8_best_43 : decode cX8_best 43 = .ok (.ifCond .lt 9, 3) := by decide +kernel
theorem dX8_best_46 : decode cX8_best 46 = .ok (.iload 5, 2) := by decide +kernel
theorem dX8_best_48 : decode cX8_best 48 = .ok (.iload_n 3, 1) := by decide +kernel
theorem dX8_best_49 : decode cX8_best 49 = .ok (.if_icmp .ge 21, 3) := by decide +kernel
theorem dX8_best_52 : decode cX8_best 52 = .ok (.aload_n 0, 1) := by decide +kernel
theorem dX8_best_53 : decode cX8_best 53 = .ok (.iload 4, 2) := by decide +kernel
theorem dX8_best_55 : decode cX8_best 55 = .ok (.invokevirtual 127, 3) := by decide +kernel
theorem dX8_best_58 : decode cX8_best 58 = .ok (.ifCond .lt 6, 3) := by decide +kernel
theorem dX8_best_61 : decode cX8_best 61 = .ok (.goto 9, 3) := by decide +kernel
theorem dX8_best_64 : decode cX8_best 64 = .ok (.iload 4, 2) := by decide +kernel
theorem dX8_best_66 : decode cX8_best 66 = .ok (.istore_n 2, 1) := by decide +kernel
theorem dX8_best_67 : decode cX8_best 67 = .ok (.iload 5, 2) := by decide +kernel
theorem dX8_best_69 : decode cX8_best 69 = .ok (.istore_n 3, 1) := by decide +kernel
theorem dX8_best_70 : decode cX8_best 70 = .ok (.iinc 4 1, 3) := by decide +kernel
theorem dX8_best_73 : decode cX8_best 73 = .ok (.goto (-62), 3) := by decide +kernel
theorem dX8_best_76 : decode cX8_best 76 = .ok (.iload_n 2, 1) := by decide +kernel
theorem dX8_best_77 : decode cX8_best 77 = .ok (.ireturn, 1) := by decide +kernel
theorem dX8_price__0 : decode cX8_price_ 0 = .ok (.iconst 0, 1) := by decide +kernel
theorem dX8_price__1 : decode cX8_price_ 1 = .ok (.istore_n 2, 1) := by decide +kernel
theorem dX8_price__2 : decode cX8_price_ 2 = .ok (.iconst 0, 1) := by decide +kernel
theorem dX8_price__3 : decode cX8_price_ 3 = .ok (.istore_n 3, 1) := by decide +kernel
theorem dX8_price__4 : decode cX8_price_ 4 = .ok (.iload_n 3, 1) := by decide +kernel
theorem dX8_price__5 : decode cX8_price_ 5 = .ok (.aload_n 0, 1) := by decide +kernel
theorem dX8_price__6 : decode cX8_price_ 6 = .ok (.invokevirtual 62, 3) := by decide +kernel
theorem dX8_price__9 : decode cX8_price_ 9 = .ok (.if_icmp .ge 35, 3) := by decide +kernel
theorem dX8_price__12 : decode cX8_price_ 12 = .ok (.iload_n 2, 1) := by decide +kernel
theorem dX8_price__13 : decode cX8_price_ 13 = .ok (.iload_n 1, 1) := by decide +kernel
theorem dX8_price__14 : decode cX8_price_ 14 = .ok (.iload_n 3, 1) := by decide +kernel
theorem dX8_price__15 : decode cX8_price_ 15 = .ok (.ishr, 1) := by decide +kernel
theorem dX8_price__16 : decode cX8_price_ 16 = .ok (.iconst 1, 1) := by decide +kernel
theorem dX8_price__17 : decode cX8_price_ 17 = .ok (.iand, 1) := by decide +kernel
theorem dX8_price__18 : decode cX8_price_ 18 = .ok (.iconst 1, 1) := by decide +kernel
theorem dX8_price__19 : decode cX8_price_ 19 = .ok (.if_icmp .ne 16, 3) := by decide +kernel
theorem dX8_price__22 : decode cX8_price_ 22 = .ok (.aload_n 0, 1) := by decide +kernel
theorem dX8_price__23 : decode cX8_price_ 23 = .ok (.getfield 7, 3) := by decide +kernel
theorem dX8_price__26 : decode cX8_price_ 26 = .ok (.sipush 279, 3) := by decide +kernel
theorem dX8_price__29 : decode cX8_price_ 29 = .ok (.iload_n 3, 1) := by decide +kernel
theorem dX8_price__30 : decode cX8_price_ 30 = .ok (.iadd, 1) := by decide +kernel
theorem dX8_price__31 : decode cX8_price_ 31 = .ok (.iaload, 1) := by decide +kernel
theorem dX8_price__32 : decode cX8_price_ 32 = .ok (.goto 4, 3) := by decide +kernel
theorem dX8_price__35 : decode cX8_price_ 35 = .ok (.iconst 0, 1) := by decide +kernel
theorem dX8_price__36 : decode cX8_price_ 36 = .ok (.iadd, 1) := by decide +kernel
theorem dX8_price__37 : decode cX8_price_ 37 = .ok (.istore_n 2, 1) := by decide +kernel
theorem dX8_price__38 : decode cX8_price_ 38 = .ok (.iinc 3 1, 3) := by decide +kernel
theorem dX8_price__41 : decode cX8_price_ 41 = .ok (.goto (-37), 3) := by decide +kernel
theorem dX8_price__44 : decode cX8_price_ 44 = .ok (.iload_n 2, 1) := by decide +kernel
theorem dX8_price__45 : decode cX8_price_ 45 = .ok (.ireturn, 1) := by decide +kernel
theorem dX8_least_0 : decode cX8_least 0 = .ok (.aload_n 0, 1) := by decide +kernel
theorem dX8_least_1 : decode cX8_least 1 = .ok (.iconst 0, 1) := by decide +kernel
theorem dX8_least_2 : decode cX8_least 2 = .ok (.invokevirtual 136, 3) := by decide +kernel
theorem dX8_least_5 : decode cX8_least 5 = .ok (.istore_n 1, 1) := by decide +kernel
theorem dX8_least_6 : decode cX8_least 6 = .ok (.iload_n 1, 1) := by decide +kernel
theorem dX8_least_7 : decode cX8_least 7 = .ok (.ifCond .ge 6, 3) := by decide +kernel
theorem dX8_least_10 : decode cX8_least 10 = .ok (.bipush (-2), 2) := by decide +kernel
theorem dX8_least_12 : decode cX8_least 12 = .ok (.ireturn, 1) := by decide +kernel
theorem dX8_least_13 : decode cX8_least 13 = .ok (.aload_n 0, 1) := by decide +kernel
theorem dX8_least_14 : decode cX8_least 14 = .ok (.iload_n 1, 1) := by decide +kernel
theorem dX8_least_15 : decode cX8_least 15 = .ok (.putfield 140, 3) := by decide +kernel
theorem dX8_least_18 : decode cX8_least 18 = .ok (.iload_n 1, 1) := by decide +kernel
theorem dX8_least_19 : decode cX8_least 19 = .ok (.invokestatic 102, 3) := by decide +kernel
theorem dX8_least_22 : decode cX8_least 22 = .ok (.ireturn, 1) := by decide +kernel
theorem dX8_every_0 : decode cX8_every 0 = .ok (.aload_n 0, 1) := by decide +kernel
theorem dX8_every_1 : decode cX8_every 1 = .ok (.iconst 0, 1) := by decide +kernel
theorem dX8_every_2 : decode cX8_every 2 = .ok (.invokevirtual 136, 3) := by decide +kernel
theorem dX8_every_5 : decode cX8_every 5 = .ok (.istore_n 1, 1) := by decide +kernel
theorem dX8_every_6 : decode cX8_every 6 = .ok (.iconst 0, 1) := by decide +kernel
theorem dX8_every_7 : decode cX8_every 7 = .ok (.istore_n 2, 1) := by decide +kernel
theorem dX8_every_8 : decode cX8_every 8 = .ok (.iconst 0, 1) := by decide +kernel
theorem dX8_every_9 : decode cX8_every 9 = .ok (.istore_n 3, 1) := by decide +kernel
theorem dX8_every_10 : decode cX8_every 10 = .ok (.iload_n 3, 1) := by decide +kernel
theorem dX8_every_11 : decode cX8_every 11 = .ok (.iconst 1, 1) := by decide +kernel
theorem dX8_every_12 : decode cX8_every 12 = .ok (.aload_n 0, 1) := by decide +kernel
theorem dX8_every_13 : decode cX8_every 13 = .ok (.invokevirtual 62, 3) := by decide +kernel
theorem dX8_every_16 : decode cX8_every 16 = .ok (.ishl, 1) := by decide +kernel
theorem dX8_every_17 : decode cX8_every 17 = .ok (.if_icmp .ge 40, 3) := by decide +kernel
theorem dX8_every_20 : decode cX8_every 20 = .ok (.iload_n 1, 1) := by decide +kernel
theorem dX8_every_21 : decode cX8_every 21 = .ok (.ifCond .lt 36, 3) := by decide +kernel
theorem dX8_every_24 : decode cX8_every 24 = .ok (.iload_n 2, 1) := by decide +kernel
theorem dX8_every_25 : decode cX8_every 25 = .ok (.iload_n 3, 1) := by decide +kernel
theorem dX8_every_26 : decode cX8_every 26 = .ok (.invokestatic 102, 3) := by decide +kernel
theorem dX8_every_29 : decode cX8_every 29 = .ok (.iload_n 1, 1) := by decide +kernel
theorem dX8_every_30 : decode cX8_every 30 = .ok (.invokestatic 102, 3) := by decide +kernel
theorem dX8_every_33 : decode cX8_every 33 = .ok (.if_icmp .ne 15, 3) := by decide +kernel
theorem dX8_every_36 : decode cX8_every 36 = .ok (.aload_n 0, 1) := by decide +kernel
theorem dX8_every_37 : decode cX8_every 37 = .ok (.iload_n 3, 1) := by decide +kernel
theorem dX8_every_38 : decode cX8_every 38 = .ok (.invokevirtual 127, 3) := by decide +kernel
theorem dX8_every_41 : decode cX8_every 41 = .ok (.ifCond .ge 7, 3) := by decide +kernel
theorem dX8_every_44 : decode cX8_every 44 = .ok (.iconst 1, 1) := by decide +kernel
theorem dX8_every_45 : decode cX8_every 45 = .ok (.goto 4, 3) := by decide +kernel
theorem dX8_every_48 : decode cX8_every 48 = .ok (.iconst 0, 1) := by decide +kernel
theorem dX8_every_49 : decode cX8_every 49 = .ok (.iadd, 1) := by decide +kernel
theorem dX8_every_50 : decode cX8_every 50 = .ok (.istore_n 2, 1) := by decide +kernel
theorem dX8_every_51 : decode cX8_every 51 = .ok (.iinc 3 1, 3) := by decide +kernel
theorem dX8_every_54 : decode cX8_every 54 = .ok (.goto (-44), 3) := by decide +kernel
theorem dX8_every_57 : decode cX8_every 57 = .ok (.iload_n 2, 1) := by decide +kernel
theorem dX8_every_58 : decode cX8_every 58 = .ok (.ireturn, 1) := by decide +kernel
theorem dX8_cheapest_0 : decode cX8_cheapest 0 = .ok (.aload_n 0, 1) := by decide +kernel
theorem dX8_cheapest_1 : decode cX8_cheapest 1 = .ok (.iconst 1, 1) := by decide +kernel
theorem dX8_cheapest_2 : decode cX8_cheapest 2 = .ok (.invokevirtual 136, 3) := by decide +kernel
theorem dX8_cheapest_5 : decode cX8_cheapest 5 = .ok (.istore_n 1, 1) := by decide +kernel
theorem dX8_cheapest_6 : decode cX8_cheapest 6 = .ok (.iload_n 1, 1) := by decide +kernel
theorem dX8_cheapest_7 : decode cX8_cheapest 7 = .ok (.ifCond .ge 6, 3) := by decide +kernel
theorem dX8_cheapest_10 : decode cX8_cheapest 10 = .ok (.bipush (-2), 2) := by decide +kernel
theorem dX8_cheapest_12 : decode cX8_cheapest 12 = .ok (.ireturn, 1) := by decide +kernel
theorem dX8_cheapest_13 : decode cX8_cheapest 13 = .ok (.aload_n 0, 1) := by decide +kernel
theorem dX8_cheapest_14 : decode cX8_cheapest 14 = .ok (.iload_n 1, 1) := by decide +kernel
theorem dX8_cheapest_15 : decode cX8_cheapest 15 = .ok (.putfield 140, 3) := by decide +kernel
theorem dX8_cheapest_18 : decode cX8_cheapest 18 = .ok (.aload_n 0, 1) := by decide +kernel
theorem dX8_cheapest_19 : decode cX8_cheapest 19 = .ok (.iload_n 1, 1) := by decide +kernel
theorem dX8_cheapest_20 : decode cX8_cheapest 20 = .ok (.invokevirtual 133, 3) := by decide +kernel
theorem dX8_cheapest_23 : decode cX8_cheapest 23 = .ok (.ireturn, 1) := by decide +kernel
theorem dX8_set_0 : decode cX8_set 0 = .ok (.aload_n 0, 1) := by decide +kernel
theorem dX8_set_1 : decode cX8_set 1 = .ok (.getfield 140, 3) := by decide +kernel
theorem dX8_set_4 : decode cX8_set 4 = .ok (.ireturn, 1) := by decide +kernel
theorem dX8_show_0 : decode cX8_show 0 = .ok (.iconst 0, 1) := by decide +kernel
theorem dX8_show_1 : decode cX8_show 1 = .ok (.istore_n 1, 1) := by decide +kernel
theorem dX8_show_2 : decode cX8_show 2 = .ok (.iconst 0, 1) := by decide +kernel
theorem dX8_show_3 : decode cX8_show 3 = .ok (.istore_n 2, 1) := by decide +kernel
theorem dX8_show_4 : decode cX8_show 4 = .ok (.iconst 0, 1) := by decide +kernel
theorem dX8_show_5 : decode cX8_show 5 = .ok (.istore_n 3, 1) := by decide +kernel
theorem dX8_show_6 : decode cX8_show 6 = .ok (.iload_n 3, 1) := by decide +kernel
theorem dX8_show_7 : decode cX8_show 7 = .ok (.aload_n 0, 1) := by decide +kernel
theorem dX8_show_8 : decode cX8_show 8 = .ok (.invokevirtual 62, 3) := by decide +kernel
theorem dX8_show_11 : decode cX8_show 11 = .ok (.if_icmp .ge 74, 3) := by decide +kernel
theorem dX8_show_14 : decode cX8_show 14 = .ok (.iload_n 3, 1) := by decide +kernel
theorem dX8_show_15 : decode cX8_show 15 = .ok (.iconst 1, 1) := by decide +kernel
theorem dX8_show_16 : decode cX8_show 16 = .ok (.iadd, 1) := by decide +kernel
theorem dX8_show_17 : decode cX8_show 17 = .ok (.istore 4, 2) := by decide +kernel
theorem dX8_show_19 : decode cX8_show 19 = .ok (.iload 4, 2) := by decide +kernel
theorem dX8_show_21 : decode cX8_show 21 = .ok (.aload_n 0, 1) := by decide +kernel
theorem dX8_show_22 : decode cX8_show 22 = .ok (.invokevirtual 62, 3) := by decide +kernel
theorem dX8_show_25 : decode cX8_show 25 = .ok (.if_icmp .ge 54, 3) := by decide +kernel
theorem dX8_show_28 : decode cX8_show 28 = .ok (.aload_n 0, 1) := by decide +kernel
theorem dX8_show_29 : decode cX8_show 29 = .ok (.iload_n 3, 1) := by decide +kernel
theorem dX8_show_30 : decode cX8_show 30 = .ok (.iload 4, 2) := by decide +kernel
theorem dX8_show_32 : decode cX8_show 32 = .ok (.invokevirtual 111, 3) := by decide +kernel
theorem dX8_show_35 : decode cX8_show 35 = .ok (.istore 5, 2) := by decide +kernel
theorem dX8_show_37 : decode cX8_show 37 = .ok (.iload 5, 2) := by decide +kernel
theorem dX8_show_39 : decode cX8_show 39 = .ok (.ifCond .eq 34, 3) := by decide +kernel
theorem dX8_show_42 : decode cX8_show 42 = .ok (.iload 5, 2) := by decide +kernel
theorem dX8_show_44 : decode cX8_show 44 = .ok (.iload_n 2, 1) := by decide +kernel
theorem dX8_show_45 : decode cX8_show 45 = .ok (.iand, 1) := by decide +kernel
theorem dX8_show_46 : decode cX8_show 46 = .ok (.ifCond .eq 6, 3) := by decide +kernel
theorem dX8_show_49 : decode cX8_show 49 = .ok (.goto 24, 3) := by decide +kernel
theorem dX8_show_52 : decode cX8_show 52 = .ok (.iload_n 2, 1) := by decide +kernel
theorem dX8_show_53 : decode cX8_show 53 = .ok (.iload 5, 2) := by decide +kernel
theorem dX8_show_55 : decode cX8_show 55 = .ok (.ior, 1) := by decide +kernel
theorem dX8_show_56 : decode cX8_show 56 = .ok (.istore_n 2, 1) := by decide +kernel
theorem dX8_show_57 : decode cX8_show 57 = .ok (.aload_n 0, 1) := by decide +kernel
theorem dX8_show_58 : decode cX8_show 58 = .ok (.getfield 32, 3) := by decide +kernel
theorem dX8_show_61 : decode cX8_show 61 = .ok (.iload_n 1, 1) := by decide +kernel
theorem dX8_show_62 : decode cX8_show 62 = .ok (.bipush 16, 2) := by decide +kernel
theorem dX8_show_64 : decode cX8_show 64 = .ok (.iload_n 3, 1) := by decide +kernel
theorem dX8_show_65 : decode cX8_show 65 = .ok (.imul, 1) := by decide +kernel
theorem dX8_show_66 : decode cX8_show 66 = .ok (.iload 4, 2) := by decide +kernel
theorem dX8_show_68 : decode cX8_show 68 = .ok (.iadd, 1) := by decide +kernel
theorem dX8_show_69 : decode cX8_show 69 = .ok (.iastore, 1) := by decide +kernel
theorem dX8_show_70 : decode cX8_show 70 = .ok (.iinc 1 1, 3) := by decide +kernel
theorem dX8_show_73 : decode cX8_show 73 = .ok (.iinc 4 1, 3) := by decide +kernel
theorem dX8_show_76 : decode cX8_show 76 = .ok (.goto (-57), 3) := by decide +kernel
theorem dX8_show_79 : decode cX8_show 79 = .ok (.iinc 3 1, 3) := by decide +kernel
theorem dX8_show_82 : decode cX8_show 82 = .ok (.goto (-76), 3) := by decide +kernel
theorem dX8_show_85 : decode cX8_show 85 = .ok (.iload_n 1, 1) := by decide +kernel
theorem dX8_show_86 : decode cX8_show 86 = .ok (.ireturn, 1) := by decide +kernel
theorem dX8_shown_0 : decode cX8_shown 0 = .ok (.aload_n 0, 1) := by decide +kernel
theorem dX8_shown_1 : decode cX8_shown 1 = .ok (.invokevirtual 143, 3) := by decide +kernel
theorem dX8_shown_4 : decode cX8_shown 4 = .ok (.ireturn, 1) := by decide +kernel
theorem dX8_pair_0 : decode cX8_pair 0 = .ok (.aload_n 0, 1) := by decide +kernel
theorem dX8_pair_1 : decode cX8_pair 1 = .ok (.invokevirtual 143, 3) := by decide +kernel
theorem dX8_pair_4 : decode cX8_pair 4 = .ok (.istore_n 2, 1) := by decide +kernel
theorem dX8_pair_5 : decode cX8_pair 5 = .ok (.iload_n 1, 1) := by decide +kernel
theorem dX8_pair_6 : decode cX8_pair 6 = .ok (.ifCond .lt 17, 3) := by decide +kernel
theorem dX8_pair_9 : decode cX8_pair 9 = .ok (.iload_n 1, 1) := by decide +kernel
theorem dX8_pair_10 : decode cX8_pair 10 = .ok (.iload_n 2, 1) := by decide +kernel
theorem dX8_pair_11 : decode cX8_pair 11 = .ok (.if_icmp .ge 12, 3) := by decide +kernel
theorem dX8_pair_14 : decode cX8_pair 14 = .ok (.aload_n 0, 1) := by decide +kernel
theorem dX8_pair_15 : decode cX8_pair 15 = .ok (.getfield 32, 3) := by decide +kernel
theorem dX8_pair_18 : decode cX8_pair 18 = .ok (.iload_n 1, 1) := by decide +kernel
theorem dX8_pair_19 : decode cX8_pair 19 = .ok (.iaload, 1) := by decide +kernel
theorem dX8_pair_20 : decode cX8_pair 20 = .ok (.goto 4, 3) := by decide +kernel
theorem dX8_pair_23 : decode cX8_pair 23 = .ok (.iconst (-1), 1) := by decide +kernel
theorem dX8_pair_24 : decode cX8_pair 24 = .ok (.ireturn, 1) := by decide +kernel
theorem dX8_lacks_0 : decode cX8_lacks 0 = .ok (.iload_n 1, 1) := by decide +kernel
theorem dX8_lacks_1 : decode cX8_lacks 1 = .ok (.ifCond .eq 20, 3) := by decide +kernel
theorem dX8_lacks_4 : decode cX8_lacks 4 = .ok (.iload_n 1, 1) := by decide +kernel
theorem dX8_lacks_5 : decode cX8_lacks 5 = .ok (.iload_n 2, 1) := by decide +kernel
theorem dX8_lacks_6 : decode cX8_lacks 6 = .ok (.iand, 1) := by decide +kernel
theorem dX8_lacks_7 : decode cX8_lacks 7 = .ok (.invokestatic 102, 3) := by decide +kernel
theorem dX8_lacks_10 : decode cX8_lacks 10 = .ok (.aload_n 0, 1) := by decide +kernel
theorem dX8_lacks_11 : decode cX8_lacks 11 = .ok (.invokevirtual 95, 3) := by decide +kernel
theorem dX8_lacks_14 : decode cX8_lacks 14 = .ok (.if_icmp .ge 7, 3) := by decide +kernel
theorem dX8_lacks_17 : decode cX8_lacks 17 = .ok (.iconst 1, 1) := by decide +kernel
theorem dX8_lacks_18 : decode cX8_lacks 18 = .ok (.goto 4, 3) := by decide +kernel
theorem dX8_lacks_21 : decode cX8_lacks 21 = .ok (.iconst 0, 1) := by decide +kernel
theorem dX8_lacks_22 : decode cX8_lacks 22 = .ok (.ireturn, 1) := by decide +kernel
theorem dX8_greedy_0 : decode cX8_greedy 0 = .ok (.aload_n 0, 1) := by decide +kernel
theorem dX8_greedy_1 : decode cX8_greedy 1 = .ok (.invokevirtual 124, 3) := by decide +kernel
theorem dX8_greedy_4 : decode cX8_greedy 4 = .ok (.iconst 0, 1) := by decide +kernel
theorem dX8_greedy_5 : decode cX8_greedy 5 = .ok (.istore_n 1, 1) := by decide +kernel
theorem dX8_greedy_6 : decode cX8_greedy 6 = .ok (.iconst 1, 1) := by decide +kernel
theorem dX8_greedy_7 : decode cX8_greedy 7 = .ok (.istore_n 2, 1) := by decide +kernel
theorem dX8_greedy_8 : decode cX8_greedy 8 = .ok (.iconst 1, 1) := by decide +kernel
theorem dX8_greedy_9 : decode cX8_greedy 9 = .ok (.istore_n 3, 1) := by decide +kernel
theorem dX8_greedy_10 : decode cX8_greedy 10 = .ok (.iload_n 3, 1) := by decide +kernel
theorem dX8_greedy_11 : decode cX8_greedy 11 = .ok (.ifCond .eq 249, 3) := by decide +kernel
theorem dX8_greedy_14 : decode cX8_greedy 14 = .ok (.iconst 0, 1) := by decide +kernel
theorem dX8_greedy_15 : decode cX8_greedy 15 = .ok (.istore_n 2, 1) := by decide +kernel
theorem dX8_greedy_16 : decode cX8_greedy 16 = .ok (.iconst (-1), 1) := by decide +kernel
theorem dX8_greedy_17 : decode cX8_greedy 17 = .ok (.istore 4, 2) := by decide +kernel
theorem dX8_greedy_19 : decode cX8_greedy 19 = .ok (.iconst 0, 1) := by decide +kernel
theorem dX8_greedy_20 : decode cX8_greedy 20 = .ok (.istore 5, 2) := by decide +kernel
theorem dX8_greedy_22 : decode cX8_greedy 22 = .ok (.iconst 0, 1) := by decide +kernel
theorem dX8_greedy_23 : decode cX8_greedy 23 = .ok (.istore 6, 2) := by decide +kernel
theorem dX8_greedy_25 : decode cX8_greedy 25 = .ok (.iload 6, 2) := by decide +kernel
theorem dX8_greedy_27 : decode cX8_greedy 27 = .ok (.aload_n 0, 1) := by decide +kernel
theorem dX8_greedy_28 : decode cX8_greedy 28 = .ok (.invokevirtual 62, 3) := by decide +kernel
theorem dX8_greedy_31 : decode cX8_greedy 31 = .ok (.if_icmp .ge 132, 3) := by decide +kernel
theorem dX8_greedy_34 : decode cX8_greedy 34 = .ok (.iconst 0, 1) := by decide +kernel
theorem dX8_greedy_35 : decode cX8_greedy 35 = .ok (.istore 7, 2) := by decide +kernel
theorem dX8_greedy_37 : decode cX8_greedy 37 = .ok (.iconst 0, 1) := by decide +kernel
theorem dX8_greedy_38 : decode cX8_greedy 38 = .ok (.istore 8, 2) := by decide +kernel
theorem dX8_greedy_40 : decode cX8_greedy 40 = .ok (.iload 8, 2) := by decide +kernel
theorem dX8_greedy_42 : decode cX8_greedy 42 = .ok (.aload_n 0, 1) := by decide +kernel
theorem dX8_greedy_43 : decode cX8_greedy 43 = .ok (.invokevirtual 62, 3) := by decide +kernel
theorem dX8_greedy_46 : decode cX8_greedy 46 = .ok (.if_icmp .ge 83, 3) := by decide +kernel
theorem dX8_greedy_49 : decode cX8_greedy 49 = .ok (.iload 8, 2) := by decide +kernel
theorem dX8_greedy_51 : decode cX8_greedy 51 = .ok (.iconst 1, 1) := by decide +kernel
theorem dX8_greedy_52 : decode cX8_greedy 52 = .ok (.iadd, 1) := by decide +kernel
theorem dX8_greedy_53 : decode cX8_greedy 53 = .ok (.istore 9, 2) := by decide +kernel
theorem dX8_greedy_55 : decode cX8_greedy 55 = .ok (.iload 9, 2) := by decide +kernel
theorem dX8_greedy_57 : decode cX8_greedy 57 = .ok (.aload_n 0, 1) := by decide +kernel
theorem dX8_greedy_58 : decode cX8_greedy 58 = .ok (.invokevirtual 62, 3) := by decide +kernel
theorem dX8_greedy_61 : decode cX8_greedy 61 = .ok (.if_icmp .ge 62, 3) := by decide +kernel
theorem dX8_greedy_64 : decode cX8_greedy 64 = .ok (.iload 7, 2) := by decide +kernel
theorem dX8_greedy_66 : decode cX8_greedy 66 = .ok (.aload_n 0, 1) := by decide +kernel
theorem dX8_greedy_67 : decode cX8_greedy 67 = .ok (.aload_n 0, 1) := by decide +kernel
theorem dX8_greedy_68 : decode cX8_greedy 68 = .ok (.getfield 26, 3) := by decide +kernel
theorem dX8_greedy_71 : decode cX8_greedy 71 = .ok (.bipush 16, 2) := by decide +kernel
theorem dX8_greedy_73 : decode cX8_greedy 73 = .ok (.iload 8, 2) := by decide +kernel
theorem dX8_greedy_75 : decode cX8_greedy 75 = .ok (.imul, 1) := by decide +kernel
theorem dX8_greedy_76 : decode cX8_greedy 76 = .ok (.iload 9, 2) := by decide +kernel
theorem dX8_greedy_78 : decode cX8_greedy 78 = .ok (.iadd, 1) := by decide +kernel
theorem dX8_greedy_79 : decode cX8_greedy 79 = .ok (.iaload, 1) := by decide +kernel
theorem dX8_greedy_80 : decode cX8_greedy 80 = .ok (.iload_n 1, 1) := by decide +kernel
theorem dX8_greedy_81 : decode cX8_greedy 81 = .ok (.invokevirtual 146, 3) := by decide +kernel
theorem dX8_greedy_84 : decode cX8_greedy 84 = .ok (.ifCond .eq 29, 3) := by decide +kernel
theorem dX8_greedy_87 : decode cX8_greedy 87 = .ok (.aload_n 0, 1) := by decide +kernel
theorem dX8_greedy_88 : decode cX8_greedy 88 = .ok (.getfield 26, 3) := by decide +kernel
theorem dX8_greedy_91 : decode cX8_greedy 91 = .ok (.bipush 16, 2) := by decide +kernel
theorem dX8_greedy_93 : decode cX8_greedy 93 = .ok (.iload 8, 2) := by decide +kernel
theorem dX8_greedy_95 : decode cX8_greedy 95 = .ok (.imul, 1) := by decide +kernel
theorem dX8_greedy_96 : decode cX8_greedy 96 = .ok (.iload 9, 2) := by decide +kernel
theorem dX8_greedy_98 : decode cX8_greedy 98 = .ok (.iadd, 1) := by decide +kernel
theorem dX8_greedy_99 : decode cX8_greedy 99 = .ok (.iaload, 1) := by decide +kernel
theorem dX8_greedy_100 : decode cX8_greedy 100 = .ok (.iload 6, 2) := by decide +kernel
theorem dX8_greedy_102 : decode cX8_greedy 102 = .ok (.ishr, 1) := by decide +kernel
theorem dX8_greedy_103 : decode cX8_greedy 103 = .ok (.iconst 1, 1) := by decide +kernel
theorem dX8_greedy_104 : decode cX8_greedy 104 = .ok (.iand, 1) := by decide +kernel
theorem dX8_greedy_105 : decode cX8_greedy 105 = .ok (.iconst 1, 1) := by decide +kernel
theorem dX8_greedy_106 : decode cX8_greedy 106 = .ok (.if_icmp .ne 7, 3) := by decide +kernel
theorem dX8_greedy_109 : decode cX8_greedy 109 = .ok (.iconst 1, 1) := by decide +kernel
theorem dX8_greedy_110 : decode cX8_greedy 110 = .ok (.goto 4, 3) := by decide +kernel
theorem dX8_greedy_113 : decode cX8_greedy 113 = .ok (.iconst 0, 1) := by decide +kernel
theorem dX8_greedy_114 : decode cX8_greedy 114 = .ok (.iadd, 1) := by decide +kernel
theorem dX8_greedy_115 : decode cX8_greedy 115 = .ok (.istore 7, 2) := by decide +kernel
theorem dX8_greedy_117 : decode cX8_greedy 117 = .ok (.iinc 9 1, 3) := by decide +kernel
theorem dX8_greedy_120 : decode cX8_greedy 120 = .ok (.goto (-65), 3) := by decide +kernel
theorem dX8_greedy_123 : decode cX8_greedy 123 = .ok (.iinc 8 1, 3) := by decide +kernel
theorem dX8_greedy_126 : decode cX8_greedy 126 = .ok (.goto (-86), 3) := by decide +kernel
theorem dX8_greedy_129 : decode cX8_greedy 129 = .ok (.iload_n 1, 1) := by decide +kernel
theorem dX8_greedy_130 : decode cX8_greedy 130 = .ok (.iload 6, 2) := by decide +kernel
theorem dX8_greedy_132 : decode cX8_greedy 132 = .ok (.ishr, 1) := by decide +kernel
theorem dX8_greedy_133 : decode cX8_greedy 133 = .ok (.iconst 1, 1) := by decide +kernel
theorem dX8_greedy_134 : decode cX8_greedy 134 = .ok (.iand, 1) := by decide +kernel
theorem dX8_greedy_135 : decode cX8_greedy 135 = .ok (.iconst 1, 1) := by decide +kernel
theorem dX8_greedy_136 : decode cX8_greedy 136 = .ok (.if_icmp .eq 21, 3) := by decide +kernel
theorem dX8_greedy_139 : decode cX8_greedy 139 = .ok (.iload 7, 2) := by decide +kernel
theorem dX8_greedy_141 : decode cX8_greedy 141 = .ok (.iload 5, 2) := by decide +kernel
theorem dX8_greedy_143 : decode cX8_greedy 143 = .ok (.if_icmp .gt 6, 3) := by decide +kernel
theorem dX8_greedy_146 : decode cX8_greedy 146 = .ok (.goto 11, 3) := by decide +kernel
theorem dX8_greedy_149 : decode cX8_greedy 149 = .ok (.iload 6, 2) := by decide +kernel
theorem dX8_greedy_151 : decode cX8_greedy 151 = .ok (.istore 4, 2) := by decide +kernel
theorem dX8_greedy_153 : decode cX8_greedy 153 = .ok (.iload 7, 2) := by decide +kernel
theorem dX8_greedy_155 : decode cX8_greedy 155 = .ok (.istore 5, 2) := by decide +kernel
theorem dX8_greedy_157 : decode cX8_greedy 157 = .ok (.iinc 6 1, 3) := by decide +kernel
theorem dX8_greedy_160 : decode cX8_greedy 160 = .ok (.goto (-135), 3) := by decide +kernel
theorem dX8_greedy_163 : decode cX8_greedy 163 = .ok (.iconst 0, 1) := by decide +kernel
theorem dX8_greedy_164 : decode cX8_greedy 164 = .ok (.istore 6, 2) := by decide +kernel
theorem dX8_greedy_166 : decode cX8_greedy 166 = .ok (.iload 6, 2) := by decide +kernel
theorem dX8_greedy_168 : decode cX8_greedy 168 = .ok (.aload_n 0, 1) := by decide +kernel
theorem dX8_greedy_169 : decode cX8_greedy 169 = .ok (.invokevirtual 62, 3) := by decide +kernel
theorem dX8_greedy_172 : decode cX8_greedy 172 = .ok (.if_icmp .ge 59, 3) := by decide +kernel
theorem dX8_greedy_175 : decode cX8_greedy 175 = .ok (.iload 6, 2) := by decide +kernel
theorem dX8_greedy_177 : decode cX8_greedy 177 = .ok (.iconst 1, 1) := by decide +kernel
theorem dX8_greedy_178 : decode cX8_greedy 178 = .ok (.iadd, 1) := by decide +kernel
theorem dX8_greedy_179 : decode cX8_greedy 179 = .ok (.istore 7, 2) := by decide +kernel
theorem dX8_greedy_181 : decode cX8_greedy 181 = .ok (.iload 7, 2) := by decide +kernel
theorem dX8_greedy_183 : decode cX8_greedy 183 = .ok (.aload_n 0, 1) := by decide +kernel
theorem dX8_greedy_184 : decode cX8_greedy 184 = .ok (.invokevirtual 62, 3) := by decide +kernel
theorem dX8_greedy_187 : decode cX8_greedy 187 = .ok (.if_icmp .ge 38, 3) := by decide +kernel
theorem dX8_greedy_190 : decode cX8_greedy 190 = .ok (.iload_n 2, 1) := by decide +kernel
theorem dX8_greedy_191 : decode cX8_greedy 191 = .ok (.aload_n 0, 1) := by decide +kernel
theorem dX8_greedy_192 : decode cX8_greedy 192 = .ok (.aload_n 0, 1) := by decide +kernel
theorem dX8_greedy_193 : decode cX8_greedy 193 = .ok (.getfield 26, 3) := by decide +kernel
theorem dX8_greedy_196 : decode cX8_greedy 196 = .ok (.bipush 16, 2) := by decide +kernel
theorem dX8_greedy_198 : decode cX8_greedy 198 = .ok (.iload 6, 2) := by decide +kernel
theorem dX8_greedy_200 : decode cX8_greedy 200 = .ok (.imul, 1) := by decide +kernel
theorem dX8_greedy_201 : decode cX8_greedy 201 = .ok (.iload 7, 2) := by decide +kernel
theorem dX8_greedy_203 : decode cX8_greedy 203 = .ok (.iadd, 1) := by decide +kernel
theorem dX8_greedy_204 : decode cX8_greedy 204 = .ok (.iaload, 1) := by decide +kernel
theorem dX8_greedy_205 : decode cX8_greedy 205 = .ok (.iload_n 1, 1) := by decide +kernel
theorem dX8_greedy_206 : decode cX8_greedy 206 = .ok (.invokevirtual 146, 3) := by decide +kernel
theorem dX8_greedy_209 : decode cX8_greedy 209 = .ok (.ifCond .eq 7, 3) := by decide +kernel
theorem dX8_greedy_212 : decode cX8_greedy 212 = .ok (.iconst 1, 1) := by decide +kernel
theorem dX8_greedy_213 : decode cX8_greedy 213 = .ok (.goto 4, 3) := by decide +kernel
theorem dX8_greedy_216 : decode cX8_greedy 216 = .ok (.iconst 0, 1) := by decide +kernel
theorem dX8_greedy_217 : decode cX8_greedy 217 = .ok (.iadd, 1) := by decide +kernel
theorem dX8_greedy_218 : decode cX8_greedy 218 = .ok (.istore_n 2, 1) := by decide +kernel
theorem dX8_greedy_219 : decode cX8_greedy 219 = .ok (.iinc 7 1, 3) := by decide +kernel
theorem dX8_greedy_222 : decode cX8_greedy 222 = .ok (.goto (-41), 3) := by decide +kernel
theorem dX8_greedy_225 : decode cX8_greedy 225 = .ok (.iinc 6 1, 3) := by decide +kernel
theorem dX8_greedy_228 : decode cX8_greedy 228 = .ok (.goto (-62), 3) := by decide +kernel
theorem dX8_greedy_231 : decode cX8_greedy 231 = .ok (.iload_n 2, 1) := by decide +kernel
theorem dX8_greedy_232 : decode cX8_greedy 232 = .ok (.ifCond .le 12, 3) := by decide +kernel
theorem dX8_greedy_235 : decode cX8_greedy 235 = .ok (.iload 4, 2) := by decide +kernel
theorem dX8_greedy_237 : decode cX8_greedy 237 = .ok (.ifCond .lt 7, 3) := by decide +kernel
theorem dX8_greedy_240 : decode cX8_greedy 240 = .ok (.iconst 1, 1) := by decide +kernel
theorem dX8_greedy_241 : decode cX8_greedy 241 = .ok (.goto 4, 3) := by decide +kernel
theorem dX8_greedy_244 : decode cX8_greedy 244 = .ok (.iconst 0, 1) := by decide +kernel
theorem dX8_greedy_245 : decode cX8_greedy 245 = .ok (.istore_n 3, 1) := by decide +kernel
theorem dX8_greedy_246 : decode cX8_greedy 246 = .ok (.iload_n 3, 1) := by decide +kernel
theorem dX8_greedy_247 : decode cX8_greedy 247 = .ok (.ifCond .eq 10, 3) := by decide +kernel
theorem dX8_greedy_250 : decode cX8_greedy 250 = .ok (.iload_n 1, 1) := by decide +kernel
theorem dX8_greedy_251 : decode cX8_greedy 251 = .ok (.iconst 1, 1) := by decide +kernel
theorem dX8_greedy_252 : decode cX8_greedy 252 = .ok (.iload 4, 2) := by decide +kernel
theorem dX8_greedy_254 : decode cX8_greedy 254 = .ok (.ishl, 1) := by decide +kernel
theorem dX8_greedy_255 : decode cX8_greedy 255 = .ok (.ior, 1) := by decide +kernel
theorem dX8_greedy_256 : decode cX8_greedy 256 = .ok (.istore_n 1, 1) := by decide +kernel
theorem dX8_greedy_257 : decode cX8_greedy 257 = .ok (.goto (-247), 3) := by decide +kernel
theorem dX8_greedy_260 : decode cX8_greedy 260 = .ok (.iload_n 2, 1) := by decide +kernel
theorem dX8_greedy_261 : decode cX8_greedy 261 = .ok (.ifCond .le 8, 3) := by decide +kernel
theorem dX8_greedy_264 : decode cX8_greedy 264 = .ok (.bipush (-2), 2) := by decide +kernel
theorem dX8_greedy_266 : decode cX8_greedy 266 = .ok (.iload_n 2, 1) := by decide +kernel
theorem dX8_greedy_267 : decode cX8_greedy 267 = .ok (.isub, 1) := by decide +kernel
theorem dX8_greedy_268 : decode cX8_greedy 268 = .ok (.ireturn, 1) := by decide +kernel
theorem dX8_greedy_269 : decode cX8_greedy 269 = .ok (.aload_n 0, 1) := by decide +kernel
theorem dX8_greedy_270 : decode cX8_greedy 270 = .ok (.iload_n 1, 1) := by decide +kernel
theorem dX8_greedy_271 : decode cX8_greedy 271 = .ok (.putfield 140, 3) := by decide +kernel
theorem dX8_greedy_274 : decode cX8_greedy 274 = .ok (.iload_n 1, 1) := by decide +kernel
theorem dX8_greedy_275 : decode cX8_greedy 275 = .ok (.invokestatic 102, 3) := by decide +kernel
theorem dX8_greedy_278 : decode cX8_greedy 278 = .ok (.ireturn, 1) := by decide +kernel
theorem dX8_word_0 : decode cX8_word 0 = .ok (.aload_n 0, 1) := by decide +kernel
theorem dX8_word_1 : decode cX8_word 1 = .ok (.iload_n 1, 1) := by decide +kernel
theorem dX8_word_2 : decode cX8_word 2 = .ok (.invokevirtual 66, 3) := by decide +kernel
theorem dX8_word_5 : decode cX8_word 5 = .ok (.ifCond .eq 17, 3) := by decide +kernel
theorem dX8_word_8 : decode cX8_word 8 = .ok (.aload_n 0, 1) := by decide +kernel
theorem dX8_word_9 : decode cX8_word 9 = .ok (.getfield 7, 3) := by decide +kernel
theorem dX8_word_12 : decode cX8_word 12 = .ok (.sipush 311, 3) := by decide +kernel
theorem dX8_word_15 : decode cX8_word 15 = .ok (.iload_n 1, 1) := by decide +kernel
theorem dX8_word_16 : decode cX8_word 16 = .ok (.iadd, 1) := by decide +kernel
theorem dX8_word_17 : decode cX8_word 17 = .ok (.iaload, 1) := by decide +kernel
theorem dX8_word_18 : decode cX8_word 18 = .ok (.iconst 1, 1) := by decide +kernel
theorem dX8_word_19 : decode cX8_word 19 = .ok (.if_icmp .ne 5, 3) := by decide +kernel
theorem dX8_word_22 : decode cX8_word 22 = .ok (.iconst (-1), 1) := by decide +kernel
theorem dX8_word_23 : decode cX8_word 23 = .ok (.ireturn, 1) := by decide +kernel
theorem dX8_word_24 : decode cX8_word 24 = .ok (.aload_n 0, 1) := by decide +kernel
theorem dX8_word_25 : decode cX8_word 25 = .ok (.invokevirtual 78, 3) := by decide +kernel
theorem dX8_word_28 : decode cX8_word 28 = .ok (.aload_n 0, 1) := by decide +kernel
theorem dX8_word_29 : decode cX8_word 29 = .ok (.getfield 7, 3) := by decide +kernel
theorem dX8_word_32 : decode cX8_word 32 = .ok (.sipush 311, 3) := by decide +kernel
theorem dX8_word_35 : decode cX8_word 35 = .ok (.iload_n 1, 1) := by decide +kernel
theorem dX8_word_36 : decode cX8_word 36 = .ok (.iadd, 1) := by decide +kernel
theorem dX8_word_37 : decode cX8_word 37 = .ok (.iconst 1, 1) := by decide +kernel
theorem dX8_word_38 : decode cX8_word 38 = .ok (.iastore, 1) := by decide +kernel
theorem dX8_word_39 : decode cX8_word 39 = .ok (.aload_n 0, 1) := by decide +kernel
theorem dX8_word_40 : decode cX8_word 40 = .ok (.getfield 7, 3) := by decide +kernel
theorem dX8_word_43 : decode cX8_word 43 = .ok (.sipush 327, 3) := by decide +kernel
theorem dX8_word_46 : decode cX8_word 46 = .ok (.iload_n 1, 1) := by decide +kernel
theorem dX8_word_47 : decode cX8_word 47 = .ok (.iadd, 1) := by decide +kernel
theorem dX8_word_48 : decode cX8_word 48 = .ok (.iload_n 2, 1) := by decide +kernel
theorem dX8_word_49 : decode cX8_word 49 = .ok (.iastore, 1) := by decide +kernel
theorem dX8_word_50 : decode cX8_word 50 = .ok (.aload_n 0, 1) := by decide +kernel
theorem dX8_word_51 : decode cX8_word 51 = .ok (.getfield 7, 3) := by decide +kernel
theorem dX8_word_54 : decode cX8_word 54 = .ok (.bipush 6, 2) := by decide +kernel
theorem dX8_word_56 : decode cX8_word 56 = .ok (.dup2, 1) := by decide +kernel
theorem dX8_word_57 : decode cX8_word 57 = .ok (.iaload, 1) := by decide +kernel
theorem dX8_word_58 : decode cX8_word 58 = .ok (.iconst 1, 1) := by decide +kernel
theorem dX8_word_59 : decode cX8_word 59 = .ok (.iadd, 1) := by decide +kernel
theorem dX8_word_60 : decode cX8_word 60 = .ok (.iastore, 1) := by decide +kernel
theorem dX8_word_61 : decode cX8_word 61 = .ok (.aload_n 0, 1) := by decide +kernel
theorem dX8_word_62 : decode cX8_word 62 = .ok (.getfield 7, 3) := by decide +kernel
theorem dX8_word_65 : decode cX8_word 65 = .ok (.bipush 6, 2) := by decide +kernel
theorem dX8_word_67 : decode cX8_word 67 = .ok (.iaload, 1) := by decide +kernel
theorem dX8_word_68 : decode cX8_word 68 = .ok (.ireturn, 1) := by decide +kernel
theorem dX8_clear_0 : decode cX8_clear 0 = .ok (.aload_n 0, 1) := by decide +kernel
theorem dX8_clear_1 : decode cX8_clear 1 = .ok (.getfield 7, 3) := by decide +kernel
theorem dX8_clear_4 : decode cX8_clear 4 = .ok (.bipush 6, 2) := by decide +kernel
theorem dX8_clear_6 : decode cX8_clear 6 = .ok (.iaload, 1) := by decide +kernel
theorem dX8_clear_7 : decode cX8_clear 7 = .ok (.istore_n 1, 1) := by decide +kernel
theorem dX8_clear_8 : decode cX8_clear 8 = .ok (.aload_n 0, 1) := by decide +kernel
theorem dX8_clear_9 : decode cX8_clear 9 = .ok (.invokevirtual 78, 3) := by decide +kernel
theorem dX8_clear_12 : decode cX8_clear 12 = .ok (.iconst 0, 1) := by decide +kernel
theorem dX8_clear_13 : decode cX8_clear 13 = .ok (.istore_n 2, 1) := by decide +kernel
theorem dX8_clear_14 : decode cX8_clear 14 = .ok (.iload_n 2, 1) := by decide +kernel
theorem dX8_clear_15 : decode cX8_clear 15 = .ok (.bipush 16, 2) := by decide +kernel
theorem dX8_clear_17 : decode cX8_clear 17 = .ok (.if_icmp .ge 31, 3) := by decide +kernel
theorem dX8_clear_20 : decode cX8_clear 20 = .ok (.aload_n 0, 1) := by decide +kernel
theorem dX8_clear_21 : decode cX8_clear 21 = .ok (.getfield 7, 3) := by decide +kernel
theorem dX8_clear_24 : decode cX8_clear 24 = .ok (.sipush 311, 3) := by decide +kernel
theorem dX8_clear_27 : decode cX8_clear 27 = .ok (.iload_n 2, 1) := by decide +kernel
theorem dX8_clear_28 : decode cX8_clear 28 = .ok (.iadd, 1) := by decide +kernel
theorem dX8_clear_29 : decode cX8_clear 29 = .ok (.iconst 0, 1) := by decide +kernel
theorem dX8_clear_30 : decode cX8_clear 30 = .ok (.iastore, 1) := by decide +kernel
theorem dX8_clear_31 : decode cX8_clear 31 = .ok (.aload_n 0, 1) := by decide +kernel
theorem dX8_clear_32 : decode cX8_clear 32 = .ok (.getfield 7, 3) := by decide +kernel
theorem dX8_clear_35 : decode cX8_clear 35 = .ok (.sipush 327, 3) := by decide +kernel
theorem dX8_clear_38 : decode cX8_clear 38 = .ok (.iload_n 2, 1) := by decide +kernel
theorem dX8_clear_39 : decode cX8_clear 39 = .ok (.iadd, 1) := by decide +kernel
theorem dX8_clear_40 : decode cX8_clear 40 = .ok (.iconst 0, 1) := by decide +kernel
theorem dX8_clear_41 : decode cX8_clear 41 = .ok (.iastore, 1) := by decide +kernel
theorem dX8_clear_42 : decode cX8_clear 42 = .ok (.iinc 2 1, 3) := by decide +kernel
theorem dX8_clear_45 : decode cX8_clear 45 = .ok (.goto (-31), 3) := by decide +kernel
theorem dX8_clear_48 : decode cX8_clear 48 = .ok (.aload_n 0, 1) := by decide +kernel
theorem dX8_clear_49 : decode cX8_clear 49 = .ok (.getfield 7, 3) := by decide +kernel
theorem dX8_clear_52 : decode cX8_clear 52 = .ok (.bipush 6, 2) := by decide +kernel
theorem dX8_clear_54 : decode cX8_clear 54 = .ok (.iconst 0, 1) := by decide +kernel
theorem dX8_clear_55 : decode cX8_clear 55 = .ok (.iastore, 1) := by decide +kernel
theorem dX8_clear_56 : decode cX8_clear 56 = .ok (.iload_n 1, 1) := by decide +kernel
theorem dX8_clear_57 : decode cX8_clear 57 = .ok (.ireturn, 1) := by decide +kernel
theorem dX8_againstBits_0 : decode cX8_againstBits 0 = .ok (.iconst 0, 1) := by decide +kernel
theorem dX8_againstBits_1 : decode cX8_againstBits 1 = .ok (.istore_n 2, 1) := by decide +kernel
theorem dX8_againstBits_2 : decode cX8_againstBits 2 = .ok (.iconst 0, 1) := by decide +kernel
theorem dX8_againstBits_3 : decode cX8_againstBits 3 = .ok (.istore_n 3, 1) := by decide +kernel
theorem dX8_againstBits_4 : decode cX8_againstBits 4 = .ok (.iload_n 3, 1) := by decide +kernel
theorem dX8_againstBits_5 : decode cX8_againstBits 5 = .ok (.aload_n 0, 1) := by decide +kernel
theorem dX8_againstBits_6 : decode cX8_againstBits 6 = .ok (.invokevirtual 62, 3) := by decide +kernel
theorem dX8_againstBits_9 : decode cX8_againstBits 9 = .ok (.if_icmp .ge 52, 3) := by decide +kernel
theorem dX8_againstBits_12 : decode cX8_againstBits 12 = .ok (.iload_n 2, 1) := by decide +kernel
theorem dX8_againstBits_13 : decode cX8_againstBits 13 = .ok (.aload_n 0, 1) := by decide +kernel
theorem dX8_againstBits_14 : decode cX8_againstBits 14 = .ok (.getfield 7, 3) := by decide +kernel
theorem dX8_againstBits_17 : decode cX8_againstBits 17 = .ok (.sipush 311, 3) := by decide +kernel
theorem dX8_againstBits_20 : decode cX8_againstBits 20 = .ok (.iload_n 3, 1) := by decide +kernel
theorem dX8_againstBits_21 : decode cX8_againstBits 21 = .ok (.iadd, 1) := by decide +kernel
theorem dX8_againstBits_22 : decode cX8_againstBits 22 = .ok (.iaload, 1) := by decide +kernel
theorem dX8_againstBits_23 : decode cX8_againstBits 23 = .ok (.iconst 1, 1) := by decide +kernel
theorem dX8_againstBits_24 : decode cX8_againstBits 24 = .ok (.if_icmp .ne 28, 3) := by decide +kernel
theorem dX8_againstBits_27 : decode cX8_againstBits 27 = .ok (.aload_n 0, 1) := by decide +kernel
theorem dX8_againstBits_28 : decode cX8_againstBits 28 = .ok (.getfield 7, 3) := by decide +kernel
theorem dX8_againstBits_31 : decode cX8_againstBits 31 = .ok (.sipush 327, 3) := by decide +kernel
theorem dX8_againstBits_34 : decode cX8_againstBits 34 = .ok (.iload_n 3, 1) := by decide +kernel
theorem dX8_againstBits_35 : decode cX8_againstBits 35 = .ok (.iadd, 1) := by decide +kernel
theorem dX8_againstBits_36 : decode cX8_againstBits 36 = .ok (.iaload, 1) := by decide +kernel
theorem dX8_againstBits_37 : decode cX8_againstBits 37 = .ok (.aload_n 0, 1) := by decide +kernel
theorem dX8_againstBits_38 : decode cX8_againstBits 38 = .ok (.iload_n 3, 1) := by decide +kernel
theorem dX8_againstBits_39 : decode cX8_againstBits 39 = .ok (.iload_n 1, 1) := by decide +kernel
theorem dX8_againstBits_40 : decode cX8_againstBits 40 = .ok (.invokevirtual 105, 3) := by decide +kernel
theorem dX8_againstBits_43 : decode cX8_againstBits 43 = .ok (.if_icmp .eq 9, 3) := by decide +kernel
theorem dX8_againstBits_46 : decode cX8_againstBits 46 = .ok (.iconst 1, 1) := by decide +kernel
theorem dX8_againstBits_47 : decode cX8_againstBits 47 = .ok (.iload_n 3, 1) := by decide +kernel
theorem dX8_againstBits_48 : decode cX8_againstBits 48 = .ok (.ishl, 1) := by decide +kernel
theorem dX8_againstBits_49 : decode cX8_againstBits 49 = .ok (.goto 4, 3) := by decide +kernel
theorem dX8_againstBits_52 : decode cX8_againstBits 52 = .ok (.iconst 0, 1) := by decide +kernel
theorem dX8_againstBits_53 : decode cX8_againstBits 53 = .ok (.ior, 1) := by decide +kernel
theorem dX8_againstBits_54 : decode cX8_againstBits 54 = .ok (.istore_n 2, 1) := by decide +kernel
theorem dX8_againstBits_55 : decode cX8_againstBits 55 = .ok (.iinc 3 1, 3) := by decide +kernel
theorem dX8_againstBits_58 : decode cX8_againstBits 58 = .ok (.goto (-54), 3) := by decide +kernel
theorem dX8_againstBits_61 : decode cX8_againstBits 61 = .ok (.iload_n 2, 1) := by decide +kernel
theorem dX8_againstBits_62 : decode cX8_againstBits 62 = .ok (.ireturn, 1) := by decide +kernel
theorem dX8_isFit_0 : decode cX8_isFit 0 = .ok (.aload_n 0, 1) := by decide +kernel
theorem dX8_isFit_1 : decode cX8_isFit 1 = .ok (.iload_n 1, 1) := by decide +kernel
theorem dX8_isFit_2 : decode cX8_isFit 2 = .ok (.invokevirtual 149, 3) := by decide +kernel
theorem dX8_isFit_5 : decode cX8_isFit 5 = .ok (.invokestatic 102, 3) := by decide +kernel
theorem dX8_isFit_8 : decode cX8_isFit 8 = .ok (.aload_n 0, 1) := by decide +kernel
theorem dX8_isFit_9 : decode cX8_isFit 9 = .ok (.getfield 7, 3) := by decide +kernel
theorem dX8_isFit_12 : decode cX8_isFit 12 = .ok (.iconst 4, 1) := by decide +kernel
theorem dX8_isFit_13 : decode cX8_isFit 13 = .ok (.iaload, 1) := by decide +kernel
theorem dX8_isFit_14 : decode cX8_isFit 14 = .ok (.iconst 1, 1) := by decide +kernel
theorem dX8_isFit_15 : decode cX8_isFit 15 = .ok (.if_icmp .ne 12, 3) := by decide +kernel
theorem dX8_isFit_18 : decode cX8_isFit 18 = .ok (.aload_n 0, 1) := by decide +kernel
theorem dX8_isFit_19 : decode cX8_isFit 19 = .ok (.getfield 7, 3) := by decide +kernel
theorem dX8_isFit_22 : decode cX8_isFit 22 = .ok (.iconst 3, 1) := by decide +kernel
theorem dX8_isFit_23 : decode cX8_isFit 23 = .ok (.iaload, 1) := by decide +kernel
theorem dX8_isFit_24 : decode cX8_isFit 24 = .ok (.goto 4, 3) := by decide +kernel
theorem dX8_isFit_27 : decode cX8_isFit 27 = .ok (.iconst 0, 1) := by decide +kernel
theorem dX8_isFit_28 : decode cX8_isFit 28 = .ok (.if_icmp .gt 7, 3) := by decide +kernel
theorem dX8_isFit_31 : decode cX8_isFit 31 = .ok (.iconst 1, 1) := by decide +kernel
theorem dX8_isFit_32 : decode cX8_isFit 32 = .ok (.goto 4, 3) := by decide +kernel
theorem dX8_isFit_35 : decode cX8_isFit 35 = .ok (.iconst 0, 1) := by decide +kernel
theorem dX8_isFit_36 : decode cX8_isFit 36 = .ok (.ireturn, 1) := by decide +kernel
theorem dX8_fits_0 : decode cX8_fits 0 = .ok (.iconst 0, 1) := by decide +kernel
theorem dX8_fits_1 : decode cX8_fits 1 = .ok (.istore_n 1, 1) := by decide +kernel
theorem dX8_fits_2 : decode cX8_fits 2 = .ok (.iconst 0, 1) := by decide +kernel
theorem dX8_fits_3 : decode cX8_fits 3 = .ok (.istore_n 2, 1) := by decide +kernel
theorem dX8_fits_4 : decode cX8_fits 4 = .ok (.iload_n 2, 1) := by decide +kernel
theorem dX8_fits_5 : decode cX8_fits 5 = .ok (.aload_n 0, 1) := by decide +kernel
theorem dX8_fits_6 : decode cX8_fits 6 = .ok (.invokevirtual 62, 3) := by decide +kernel
theorem dX8_fits_9 : decode cX8_fits 9 = .ok (.if_icmp .ge 25, 3) := by decide +kernel
theorem dX8_fits_12 : decode cX8_fits 12 = .ok (.iload_n 1, 1) := by decide +kernel
theorem dX8_fits_13 : decode cX8_fits 13 = .ok (.aload_n 0, 1) := by decide +kernel
theorem dX8_fits_14 : decode cX8_fits 14 = .ok (.iload_n 2, 1) := by decide +kernel
theorem dX8_fits_15 : decode cX8_fits 15 = .ok (.invokevirtual 152, 3) := by decide +kernel
theorem dX8_fits_18 : decode cX8_fits 18 = .ok (.ifCond .eq 7, 3) := by decide +kernel
theorem dX8_fits_21 : decode cX8_fits 21 = .ok (.iconst 1, 1) := by decide +kernel
theorem dX8_fits_22 : decode cX8_fits 22 = .ok (.goto 4, 3) := by decide +kernel
theorem dX8_fits_25 : decode cX8_fits 25 = .ok (.iconst 0, 1) := by decide +kernel
theorem dX8_fits_26 : decode cX8_fits 26 = .ok (.iadd, 1) := by decide +kernel
theorem dX8_fits_27 : decode cX8_fits 27 = .ok (.istore_n 1, 1) := by decide +kernel
theorem dX8_fits_28 : decode cX8_fits 28 = .ok (.iinc 2 1, 3) := by decide +kernel
theorem dX8_fits_31 : decode cX8_fits 31 = .ok (.goto (-27), 3) := by decide +kernel
theorem dX8_fits_34 : decode cX8_fits 34 = .ok (.iload_n 1, 1) := by decide +kernel
theorem dX8_fits_35 : decode cX8_fits 35 = .ok (.ireturn, 1) := by decide +kernel
theorem dX8_where_0 : decode cX8_where 0 = .ok (.iconst 0, 1) := by decide +kernel
theorem dX8_where_1 : decode cX8_where 1 = .ok (.istore_n 2, 1) := by decide +kernel
theorem dX8_where_2 : decode cX8_where 2 = .ok (.iconst 0, 1) := by decide +kernel
theorem dX8_where_3 : decode cX8_where 3 = .ok (.istore_n 3, 1) := by decide +kernel
theorem dX8_where_4 : decode cX8_where 4 = .ok (.iload_n 3, 1) := by decide +kernel
theorem dX8_where_5 : decode cX8_where 5 = .ok (.aload_n 0, 1) := by decide +kernel
theorem dX8_where_6 : decode cX8_where 6 = .ok (.invokevirtual 62, 3) := by decide +kernel
theorem dX8_where_9 : decode cX8_where 9 = .ok (.if_icmp .ge 34, 3) := by decide +kernel
theorem dX8_where_12 : decode cX8_where 12 = .ok (.iload_n 1, 1) := by decide +kernel
theorem dX8_where_13 : decode cX8_where 13 = .ok (.ifCond .lt 30, 3) := by decide +kernel
theorem dX8_where_16 : decode cX8_where 16 = .ok (.aload_n 0, 1) := by decide +kernel
theorem dX8_where_17 : decode cX8_where 17 = .ok (.iload_n 3, 1) := by decide +kernel
theorem dX8_where_18 : decode cX8_where 18 = .ok (.invokevirtual 152, 3) := by decide +kernel
theorem dX8_where_21 : decode cX8_where 21 = .ok (.ifCond .ne 6, 3) := by decide +kernel
theorem dX8_where_24 : decode cX8_where 24 = .ok (.goto 13, 3) := by decide +kernel
theorem dX8_where_27 : decode cX8_where 27 = .ok (.iload_n 2, 1) := by decide +kernel
theorem dX8_where_28 : decode cX8_where 28 = .ok (.iload_n 1, 1) := by decide +kernel
theorem dX8_where_29 : decode cX8_where 29 = .ok (.if_icmp .ne 5, 3) := by decide +kernel
theorem dX8_where_32 : decode cX8_where 32 = .ok (.iload_n 3, 1) := by decide +kernel
theorem dX8_where_33 : decode cX8_where 33 = .ok (.ireturn, 1) := by decide +kernel
theorem dX8_where_34 : decode cX8_where 34 = .ok (.iinc 2 1, 3) := by decide +kernel
theorem dX8_where_37 : decode cX8_where 37 = .ok (.iinc 3 1, 3) := by decide +kernel
theorem dX8_where_40 : decode cX8_where 40 = .ok (.goto (-36), 3) := by decide +kernel
theorem dX8_where_43 : decode cX8_where 43 = .ok (.iconst (-1), 1) := by decide +kernel
theorem dX8_where_44 : decode cX8_where 44 = .ok (.ireturn, 1) := by decide +kernel
theorem dX8_against_0 : decode cX8_against 0 = .ok (.aload_n 0, 1) := by decide +kernel
theorem dX8_against_1 : decode cX8_against 1 = .ok (.iload_n 1, 1) := by decide +kernel
theorem dX8_against_2 : decode cX8_against 2 = .ok (.invokevirtual 66, 3) := by decide +kernel
theorem dX8_against_5 : decode cX8_against 5 = .ok (.ifCond .eq 11, 3) := by decide +kernel
theorem dX8_against_8 : decode cX8_against 8 = .ok (.aload_n 0, 1) := by decide +kernel
theorem dX8_against_9 : decode cX8_against 9 = .ok (.iload_n 1, 1) := by decide +kernel
theorem dX8_against_10 : decode cX8_against 10 = .ok (.invokevirtual 149, 3) := by decide +kernel
theorem dX8_against_13 : decode cX8_against 13 = .ok (.goto 4, 3) := by decide +kernel
theorem dX8_against_16 : decode cX8_against 16 = .ok (.iconst (-1), 1) := by decide +kernel
theorem dX8_against_17 : decode cX8_against 17 = .ok (.ireturn, 1) := by decide +kernel
theorem dX8_isDone_0 : decode cX8_isDone 0 = .ok (.iconst 1, 1) := by decide +kernel
theorem dX8_isDone_1 : decode cX8_isDone 1 = .ok (.istore_n 2, 1) := by decide +kernel
theorem dX8_isDone_2 : decode cX8_isDone 2 = .ok (.iconst 0, 1) := by decide +kernel
theorem dX8_isDone_3 : decode cX8_isDone 3 = .ok (.istore_n 3, 1) := by decide +kernel
theorem dX8_isDone_4 : decode cX8_isDone 4 = .ok (.iload_n 3, 1) := by decide +kernel
theorem dX8_isDone_5 : decode cX8_isDone 5 = .ok (.aload_n 0, 1) := by decide +kernel
theorem dX8_isDone_6 : decode cX8_isDone 6 = .ok (.invokevirtual 62, 3) := by decide +kernel
theorem dX8_isDone_9 : decode cX8_isDone 9 = .ok (.if_icmp .ge 70, 3) := by decide +kernel
theorem dX8_isDone_12 : decode cX8_isDone 12 = .ok (.iload_n 2, 1) := by decide +kernel
theorem dX8_isDone_13 : decode cX8_isDone 13 = .ok (.ifCond .eq 66, 3) := by decide +kernel
theorem dX8_isDone_16 : decode cX8_isDone 16 = .ok (.iload_n 3, 1) := by decide +kernel
theorem dX8_isDone_17 : decode cX8_isDone 17 = .ok (.iconst 1, 1) := by decide +kernel
theorem dX8_isDone_18 : decode cX8_isDone 18 = .ok (.iadd, 1) := by decide +kernel
theorem dX8_isDone_19 : decode cX8_isDone 19 = .ok (.istore 4, 2) := by decide +kernel
theorem dX8_isDone_21 : decode cX8_isDone 21 = .ok (.iload 4, 2) := by decide +kernel
theorem dX8_isDone_23 : decode cX8_isDone 23 = .ok (.aload_n 0, 1) := by decide +kernel
theorem dX8_isDone_24 : decode cX8_isDone 24 = .ok (.invokevirtual 62, 3) := by decide +kernel
theorem dX8_isDone_27 : decode cX8_isDone 27 = .ok (.if_icmp .ge 46, 3) := by decide +kernel
theorem dX8_isDone_30 : decode cX8_isDone 30 = .ok (.iload_n 2, 1) := by decide +kernel
theorem dX8_isDone_31 : decode cX8_isDone 31 = .ok (.ifCond .eq 42, 3) := by decide +kernel
theorem dX8_isDone_34 : decode cX8_isDone 34 = .ok (.iload_n 1, 1) := by decide +kernel
theorem dX8_isDone_35 : decode cX8_isDone 35 = .ok (.iload_n 3, 1) := by decide +kernel
theorem dX8_isDone_36 : decode cX8_isDone 36 = .ok (.ishr, 1) := by decide +kernel
theorem dX8_isDone_37 : decode cX8_isDone 37 = .ok (.iconst 1, 1) := by decide +kernel
theorem dX8_isDone_38 : decode cX8_isDone 38 = .ok (.iand, 1) := by decide +kernel
theorem dX8_isDone_39 : decode cX8_isDone 39 = .ok (.ifCond .eq 22, 3) := by decide +kernel
theorem dX8_isDone_42 : decode cX8_isDone 42 = .ok (.iload_n 1, 1) := by decide +kernel
theorem dX8_isDone_43 : decode cX8_isDone 43 = .ok (.iload 4, 2) := by decide +kernel
theorem dX8_isDone_45 : decode cX8_isDone 45 = .ok (.ishr, 1) := by decide +kernel
theorem dX8_isDone_46 : decode cX8_isDone 46 = .ok (.iconst 1, 1) := by decide +kernel
theorem dX8_isDone_47 : decode cX8_isDone 47 = .ok (.iand, 1) := by decide +kernel
theorem dX8_isDone_48 : decode cX8_isDone 48 = .ok (.ifCond .eq 13, 3) := by decide +kernel
theorem dX8_isDone_51 : decode cX8_isDone 51 = .ok (.aload_n 0, 1) := by decide +kernel
theorem dX8_isDone_52 : decode cX8_isDone 52 = .ok (.iload_n 3, 1) := by decide +kernel
theorem dX8_isDone_53 : decode cX8_isDone 53 = .ok (.iload 4, 2) := by decide +kernel
theorem dX8_isDone_55 : decode cX8_isDone 55 = .ok (.invokevirtual 130, 3) := by decide +kernel
theorem dX8_isDone_58 : decode cX8_isDone 58 = .ok (.ifCond .eq 7, 3) := by decide +kernel
theorem dX8_isDone_61 : decode cX8_isDone 61 = .ok (.iconst 1, 1) := by decide +kernel
theorem dX8_isDone_62 : decode cX8_isDone 62 = .ok (.goto 4, 3) := by decide +kernel
theorem dX8_isDone_65 : decode cX8_isDone 65 = .ok (.iconst 0, 1) := by decide +kernel
theorem dX8_isDone_66 : decode cX8_isDone 66 = .ok (.istore_n 2, 1) := by decide +kernel
theorem dX8_isDone_67 : decode cX8_isDone 67 = .ok (.iinc 4 1, 3) := by decide +kernel
theorem dX8_isDone_70 : decode cX8_isDone 70 = .ok (.goto (-49), 3) := by decide +kernel
theorem dX8_isDone_73 : decode cX8_isDone 73 = .ok (.iinc 3 1, 3) := by decide +kernel
theorem dX8_isDone_76 : decode cX8_isDone 76 = .ok (.goto (-72), 3) := by decide +kernel
theorem dX8_isDone_79 : decode cX8_isDone 79 = .ok (.iload_n 2, 1) := by decide +kernel
theorem dX8_isDone_80 : decode cX8_isDone 80 = .ok (.ireturn, 1) := by decide +kernel
theorem dX8_staying_0 : decode cX8_staying 0 = .ok (.iconst 0, 1) := by decide +kernel
theorem dX8_staying_1 : decode cX8_staying 1 = .ok (.istore 4, 2) := by decide +kernel
theorem dX8_staying_3 : decode cX8_staying 3 = .ok (.iconst 0, 1) := by decide +kernel
theorem dX8_staying_4 : decode cX8_staying 4 = .ok (.istore 5, 2) := by decide +kernel
theorem dX8_staying_6 : decode cX8_staying 6 = .ok (.iload 5, 2) := by decide +kernel
theorem dX8_staying_8 : decode cX8_staying 8 = .ok (.aload_n 0, 1) := by decide +kernel
theorem dX8_staying_9 : decode cX8_staying 9 = .ok (.invokevirtual 62, 3) := by decide +kernel
theorem dX8_staying_12 : decode cX8_staying 12 = .ok (.if_icmp .ge 48, 3) := by decide +kernel
theorem dX8_staying_15 : decode cX8_staying 15 = .ok (.iload 4, 2) := by decide +kernel
theorem dX8_staying_17 : decode cX8_staying 17 = .ok (.iload_n 1, 1) := by decide +kernel
theorem dX8_staying_18 : decode cX8_staying 18 = .ok (.iload 5, 2) := by decide +kernel
theorem dX8_staying_20 : decode cX8_staying 20 = .ok (.ishr, 1) := by decide +kernel
theorem dX8_staying_21 : decode cX8_staying 21 = .ok (.iconst 1, 1) := by decide +kernel
theorem dX8_staying_22 : decode cX8_staying 22 = .ok (.iand, 1) := by decide +kernel
theorem dX8_staying_23 : decode cX8_staying 23 = .ok (.iconst 1, 1) := by decide +kernel
theorem dX8_staying_24 : decode cX8_staying 24 = .ok (.if_icmp .ne 26, 3) := by decide +kernel
theorem dX8_staying_27 : decode cX8_staying 27 = .ok (.aload_n 0, 1) := by decide +kernel
theorem dX8_staying_28 : decode cX8_staying 28 = .ok (.iload_n 2, 1) := by decide +kernel
theorem dX8_staying_29 : decode cX8_staying 29 = .ok (.iload 5, 2) := by decide +kernel
theorem dX8_staying_31 : decode cX8_staying 31 = .ok (.invokevirtual 105, 3) := by decide +kernel
theorem dX8_staying_34 : decode cX8_staying 34 = .ok (.aload_n 0, 1) := by decide +kernel
theorem dX8_staying_35 : decode cX8_staying 35 = .ok (.iload_n 2, 1) := by decide +kernel
theorem dX8_staying_36 : decode cX8_staying 36 = .ok (.iload_n 3, 1) := by decide +kernel
theorem dX8_staying_37 : decode cX8_staying 37 = .ok (.invokevirtual 105, 3) := by decide +kernel
theorem dX8_staying_40 : decode cX8_staying 40 = .ok (.if_icmp .ne 10, 3) := by decide +kernel
theorem dX8_staying_43 : decode cX8_staying 43 = .ok (.iconst 1, 1) := by decide +kernel
theorem dX8_staying_44 : decode cX8_staying 44 = .ok (.iload 5, 2) := by decide +kernel
theorem dX8_staying_46 : decode cX8_staying 46 = .ok (.ishl, 1) := by decide +kernel
theorem dX8_staying_47 : decode cX8_staying 47 = .ok (.goto 4, 3) := by decide +kernel
theorem dX8_staying_50 : decode cX8_staying 50 = .ok (.iconst 0, 1) := by decide +kernel
theorem dX8_staying_51 : decode cX8_staying 51 = .ok (.ior, 1) := by decide +kernel
theorem dX8_staying_52 : decode cX8_staying 52 = .ok (.istore 4, 2) := by decide +kernel
theorem dX8_staying_54 : decode cX8_staying 54 = .ok (.iinc 5 1, 3) := by decide +kernel
theorem dX8_staying_57 : decode cX8_staying 57 = .ok (.goto (-51), 3) := by decide +kernel
theorem dX8_staying_60 : decode cX8_staying 60 = .ok (.iload 4, 2) := by decide +kernel
theorem dX8_staying_62 : decode cX8_staying 62 = .ok (.ireturn, 1) := by decide +kernel
theorem dX8_isAsked_0 : decode cX8_isAsked 0 = .ok (.aload_n 0, 1) := by decide +kernel
theorem dX8_isAsked_1 : decode cX8_isAsked 1 = .ok (.iload_n 1, 1) := by decide +kernel
theorem dX8_isAsked_2 : decode cX8_isAsked 2 = .ok (.invokevirtual 118, 3) := by decide +kernel
theorem dX8_isAsked_5 : decode cX8_isAsked 5 = .ok (.ifCond .eq 16, 3) := by decide +kernel
theorem dX8_isAsked_8 : decode cX8_isAsked 8 = .ok (.iload_n 1, 1) := by decide +kernel
theorem dX8_isAsked_9 : decode cX8_isAsked 9 = .ok (.invokestatic 102, 3) := by decide +kernel
theorem dX8_isAsked_12 : decode cX8_isAsked 12 = .ok (.bipush 12, 2) := by decide +kernel
theorem dX8_isAsked_14 : decode cX8_isAsked 14 = .ok (.if_icmp .gt 7, 3) := by decide +kernel
theorem dX8_isAsked_17 : decode cX8_isAsked 17 = .ok (.iconst 1, 1) := by decide +kernel
theorem dX8_isAsked_18 : decode cX8_isAsked 18 = .ok (.goto 4, 3) := by decide +kernel
theorem dX8_isAsked_21 : decode cX8_isAsked 21 = .ok (.iconst 0, 1) := by decide +kernel
theorem dX8_isAsked_22 : decode cX8_isAsked 22 = .ok (.ireturn, 1) := by decide +kernel
theorem dX8_fill_0 : decode cX8_fill 0 = .ok (.iconst 0, 1) := by decide +kernel
theorem dX8_fill_1 : decode cX8_fill 1 = .ok (.istore_n 2, 1) := by decide +kernel
theorem dX8_fill_2 : decode cX8_fill 2 = .ok (.iload_n 2, 1) := by decide +kernel
theorem dX8_fill_3 : decode cX8_fill 3 = .ok (.iload_n 1, 1) := by decide +kernel
theorem dX8_fill_4 : decode cX8_fill 4 = .ok (.if_icmp .gt 22, 3) := by decide +kernel
theorem dX8_fill_7 : decode cX8_fill 7 = .ok (.iload_n 2, 1) := by decide +kernel
theorem dX8_fill_8 : decode cX8_fill 8 = .ok (.iload_n 1, 1) := by decide +kernel
theorem dX8_fill_9 : decode cX8_fill 9 = .ok (.iconst (-1), 1) := by decide +kernel
theorem dX8_fill_10 : decode cX8_fill 10 = .ok (.ixor, 1) := by decide +kernel
theorem dX8_fill_11 : decode cX8_fill 11 = .ok (.iand, 1) := by decide +kernel
theorem dX8_fill_12 : decode cX8_fill 12 = .ok (.ifCond .ne 8, 3) := by decide +kernel
theorem dX8_fill_15 : decode cX8_fill 15 = .ok (.aload_n 0, 1) := by decide +kernel
theorem dX8_fill_16 : decode cX8_fill 16 = .ok (.iload_n 2, 1) := by decide +kernel
theorem dX8_fill_17 : decode cX8_fill 17 = .ok (.invokevirtual 155, 3) := by decide +kernel
theorem dX8_fill_20 : decode cX8_fill 20 = .ok (.iinc 2 1, 3) := by decide +kernel
theorem dX8_fill_23 : decode cX8_fill 23 = .ok (.goto (-21), 3) := by decide +kernel
theorem dX8_fill_26 : decode cX8_fill 26 = .ok (.return_, 1) := by decide +kernel
theorem dX8_fillOne_0 : decode cX8_fillOne 0 = .ok (.aload_n 0, 1) := by decide +kernel
theorem dX8_fillOne_1 : decode cX8_fillOne 1 = .ok (.getfield 36, 3) := by decide +kernel
theorem dX8_fillOne_4 : decode cX8_fillOne 4 = .ok (.iload_n 1, 1) := by decide +kernel
theorem dX8_fillOne_5 : decode cX8_fillOne 5 = .ok (.iconst 0, 1) := by decide +kernel
theorem dX8_fillOne_6 : decode cX8_fillOne 6 = .ok (.iastore, 1) := by decide +kernel
theorem dX8_fillOne_7 : decode cX8_fillOne 7 = .ok (.aload_n 0, 1) := by decide +kernel
theorem dX8_fillOne_8 : decode cX8_fillOne 8 = .ok (.getfield 39, 3) := by decide +kernel
theorem dX8_fillOne_11 : decode cX8_fillOne 11 = .ok (.iload_n 1, 1) := by decide +kernel
theorem dX8_fillOne_12 : decode cX8_fillOne 12 = .ok (.iconst 0, 1) := by decide +kernel
theorem dX8_fillOne_13 : decode cX8_fillOne 13 = .ok (.iastore, 1) := by decide +kernel
theorem dX8_fillOne_14 : decode cX8_fillOne 14 = .ok (.aload_n 0, 1) := by decide +kernel
theorem dX8_fillOne_15 : decode cX8_fillOne 15 = .ok (.getfield 42, 3) := by decide +kernel
theorem dX8_fillOne_18 : decode cX8_fillOne 18 = .ok (.iload_n 1, 1) := by decide +kernel
theorem dX8_fillOne_19 : decode cX8_fillOne 19 = .ok (.iconst (-1), 1) := by decide +kernel
theorem dX8_fillOne_20 : decode cX8_fillOne 20 = .ok (.iastore, 1) := by decide +kernel
theorem dX8_fillOne_21 : decode cX8_fillOne 21 = .ok (.aload_n 0, 1) := by decide +kernel
theorem dX8_fillOne_22 : decode cX8_fillOne 22 = .ok (.iload_n 1, 1) := by decide +kernel
theorem dX8_fillOne_23 : decode cX8_fillOne 23 = .ok (.invokevirtual 158, 3) := by decide +kernel
theorem dX8_fillOne_26 : decode cX8_fillOne 26 = .ok (.ifCond .eq 4, 3) := by decide +kernel
theorem dX8_fillOne_29 : decode cX8_fillOne 29 = .ok (.return_, 1) := by decide +kernel
theorem dX8_fillOne_30 : decode cX8_fillOne 30 = .ok (.aload_n 0, 1) := by decide +kernel
theorem dX8_fillOne_31 : decode cX8_fillOne 31 = .ok (.getfield 36, 3) := by decide +kernel
theorem dX8_fillOne_34 : decode cX8_fillOne 34 = .ok (.iload_n 1, 1) := by decide +kernel
theorem dX8_fillOne_35 : decode cX8_fillOne 35 = .ok (.ldc 74, 2) := by decide +kernel
theorem dX8_fillOne_37 : decode cX8_fillOne 37 = .ok (.iastore, 1) := by decide +kernel
theorem dX8_fillOne_38 : decode cX8_fillOne 38 = .ok (.aload_n 0, 1) := by decide +kernel
theorem dX8_fillOne_39 : decode cX8_fillOne 39 = .ok (.getfield 39, 3) := by decide +kernel
theorem dX8_fillOne_42 : decode cX8_fillOne 42 = .ok (.iload_n 1, 1) := by decide +kernel
theorem dX8_fillOne_43 : decode cX8_fillOne 43 = .ok (.ldc 161, 2) := by decide +kernel
theorem dX8_fillOne_45 : decode cX8_fillOne 45 = .ok (.iastore, 1) := by decide +kernel
theorem dX8_fillOne_46 : decode cX8_fillOne 46 = .ok (.iconst 0, 1) := by decide +kernel
theorem dX8_fillOne_47 : decode cX8_fillOne 47 = .ok (.istore_n 2, 1) := by decide +kernel
theorem dX8_fillOne_48 : decode cX8_fillOne 48 = .ok (.iconst 0, 1) := by decide +kernel
theorem dX8_fillOne_49 : decode cX8_fillOne 49 = .ok (.istore_n 3, 1) := by decide +kernel
theorem dX8_fillOne_50 : decode cX8_fillOne 50 = .ok (.iload_n 3, 1) := by decide +kernel
theorem dX8_fillOne_51 : decode cX8_fillOne 51 = .ok (.aload_n 0, 1) := by decide +kernel
theorem dX8_fillOne_52 : decode cX8_fillOne 52 = .ok (.invokevirtual 62, 3) := by decide +kernel
theorem dX8_fillOne_55 : decode cX8_fillOne 55 = .ok (.if_icmp .ge 35, 3) := by decide +kernel
theorem dX8_fillOne_58 : decode cX8_fillOne 58 = .ok (.iload_n 2, 1) := by decide +kernel
theorem dX8_fillOne_59 : decode cX8_fillOne 59 = .ok (.iload_n 1, 1) := by decide +kernel
theorem dX8_fillOne_60 : decode cX8_fillOne 60 = .ok (.iload_n 3, 1) := by decide +kernel
theorem dX8_fillOne_61 : decode cX8_fillOne 61 = .ok (.ishr, 1) := by decide +kernel
theorem dX8_fillOne_62 : decode cX8_fillOne 62 = .ok (.iconst 1, 1) := by decide +kernel
theorem dX8_fillOne_63 : decode cX8_fillOne 63 = .ok (.iand, 1) := by decide +kernel
theorem dX8_fillOne_64 : decode cX8_fillOne 64 = .ok (.iconst 1, 1) := by decide +kernel
theorem dX8_fillOne_65 : decode cX8_fillOne 65 = .ok (.if_icmp .ne 16, 3) := by decide +kernel
theorem dX8_fillOne_68 : decode cX8_fillOne 68 = .ok (.aload_n 0, 1) := by decide +kernel
theorem dX8_fillOne_69 : decode cX8_fillOne 69 = .ok (.getfield 7, 3) := by decide +kernel
theorem dX8_fillOne_72 : decode cX8_fillOne 72 = .ok (.sipush 295, 3) := by decide +kernel
theorem dX8_fillOne_75 : decode cX8_fillOne 75 = .ok (.iload_n 3, 1) := by decide +kernel
theorem dX8_fillOne_76 : decode cX8_fillOne 76 = .ok (.iadd, 1) := by decide +kernel
theorem dX8_fillOne_77 : decode cX8_fillOne 77 = .ok (.iaload, 1) := by decide +kernel
theorem dX8_fillOne_78 : decode cX8_fillOne 78 = .ok (.goto 4, 3) := by decide +kernel
theorem dX8_fillOne_81 : decode cX8_fillOne 81 = .ok (.iconst 0, 1) := by decide +kernel
theorem dX8_fillOne_82 : decode cX8_fillOne 82 = .ok (.iadd, 1) := by decide +kernel
theorem dX8_fillOne_83 : decode cX8_fillOne 83 = .ok (.istore_n 2, 1) := by decide +kernel
theorem dX8_fillOne_84 : decode cX8_fillOne 84 = .ok (.iinc 3 1, 3) := by decide +kernel
theorem dX8_fillOne_87 : decode cX8_fillOne 87 = .ok (.goto (-37), 3) := by decide +kernel
theorem dX8_fillOne_90 : decode cX8_fillOne 90 = .ok (.iconst 0, 1) := by decide +kernel
theorem dX8_fillOne_91 : decode cX8_fillOne 91 = .ok (.istore_n 3, 1) := by decide +kernel
theorem dX8_fillOne_92 : decode cX8_fillOne 92 = .ok (.iload_n 3, 1) := by decide +kernel
theorem dX8_fillOne_93 : decode cX8_fillOne 93 = .ok (.aload_n 0, 1) := by decide +kernel
theorem dX8_fillOne_94 : decode cX8_fillOne 94 = .ok (.invokevirtual 62, 3) := by decide +kernel
theorem dX8_fillOne_97 : decode cX8_fillOne 97 = .ok (.if_icmp .ge 209, 3) := by decide +kernel
theorem dX8_fillOne_100 : decode cX8_fillOne 100 = .ok (.iconst 0, 1) := by decide +kernel
theorem dX8_fillOne_101 : decode cX8_fillOne 101 = .ok (.istore 4, 2) := by decide +kernel
theorem dX8_fillOne_103 : decode cX8_fillOne 103 = .ok (.iload_n 2, 1) := by decide +kernel
theorem dX8_fillOne_104 : decode cX8_fillOne 104 = .ok (.istore 5, 2) := by decide +kernel
theorem dX8_fillOne_106 : decode cX8_fillOne 106 = .ok (.iconst 0, 1) := by decide +kernel
theorem dX8_fillOne_107 : decode cX8_fillOne 107 = .ok (.istore 6, 2) := by decide +kernel
theorem dX8_fillOne_109 : decode cX8_fillOne 109 = .ok (.iconst 0, 1) := by decide +kernel
theorem dX8_fillOne_110 : decode cX8_fillOne 110 = .ok (.istore 7, 2) := by decide +kernel
theorem dX8_fillOne_112 : decode cX8_fillOne 112 = .ok (.iconst 0, 1) := by decide +kernel
theorem dX8_fillOne_113 : decode cX8_fillOne 113 = .ok (.istore 8, 2) := by decide +kernel
theorem dX8_fillOne_115 : decode cX8_fillOne 115 = .ok (.iload 8, 2) := by decide +kernel
theorem dX8_fillOne_117 : decode cX8_fillOne 117 = .ok (.aload_n 0, 1) := by decide +kernel
theorem dX8_fillOne_118 : decode cX8_fillOne 118 = .ok (.invokevirtual 62, 3) := by decide +kernel
theorem dX8_fillOne_121 : decode cX8_fillOne 121 = .ok (.if_icmp .ge 113, 3) := by decide +kernel
theorem dX8_fillOne_124 : decode cX8_fillOne 124 = .ok (.iload_n 1, 1) := by decide +kernel
theorem dX8_fillOne_125 : decode cX8_fillOne 125 = .ok (.iload 8, 2) := by decide +kernel
theorem dX8_fillOne_127 : decode cX8_fillOne 127 = .ok (.ishr, 1) := by decide +kernel
theorem dX8_fillOne_128 : decode cX8_fillOne 128 = .ok (.iconst 1, 1) := by decide +kernel
theorem dX8_fillOne_129 : decode cX8_fillOne 129 = .ok (.iand, 1) := by decide +kernel
theorem dX8_fillOne_130 : decode cX8_fillOne 130 = .ok (.ifCond .eq 98, 3) := by decide +kernel
theorem dX8_fillOne_133 : decode cX8_fillOne 133 = .ok (.iload 6, 2) := by decide +kernel
theorem dX8_fillOne_135 : decode cX8_fillOne 135 = .ok (.iload 8, 2) := by decide +kernel
theorem dX8_fillOne_137 : decode cX8_fillOne 137 = .ok (.ishr, 1) := by decide +kernel
theorem dX8_fillOne_138 : decode cX8_fillOne 138 = .ok (.iconst 1, 1) := by decide +kernel
theorem dX8_fillOne_139 : decode cX8_fillOne 139 = .ok (.iand, 1) := by decide +kernel
theorem dX8_fillOne_140 : decode cX8_fillOne 140 = .ok (.iconst 1, 1) := by decide +kernel
theorem dX8_fillOne_141 : decode cX8_fillOne 141 = .ok (.if_icmp .ne 6, 3) := by decide +kernel
theorem dX8_fillOne_144 : decode cX8_fillOne 144 = .ok (.goto 84, 3) := by decide +kernel
theorem dX8_fillOne_147 : decode cX8_fillOne 147 = .ok (.aload_n 0, 1) := by decide +kernel
theorem dX8_fillOne_148 : decode cX8_fillOne 148 = .ok (.iload_n 1, 1) := by decide +kernel
theorem dX8_fillOne_149 : decode cX8_fillOne 149 = .ok (.iload_n 3, 1) := by decide +kernel
theorem dX8_fillOne_150 : decode cX8_fillOne 150 = .ok (.iload 8, 2) := by decide +kernel
theorem dX8_fillOne_152 : decode cX8_fillOne 152 = .ok (.invokevirtual 162, 3) := by decide +kernel
theorem dX8_fillOne_155 : decode cX8_fillOne 155 = .ok (.istore 9, 2) := by decide +kernel
theorem dX8_fillOne_157 : decode cX8_fillOne 157 = .ok (.iload 7, 2) := by decide +kernel
theorem dX8_fillOne_159 : decode cX8_fillOne 159 = .ok (.ifCond .ne 9, 3) := by decide +kernel
theorem dX8_fillOne_162 : decode cX8_fillOne 162 = .ok (.iload 9, 2) := by decide +kernel
theorem dX8_fillOne_164 : decode cX8_fillOne 164 = .ok (.iload_n 1, 1) := by decide +kernel
theorem dX8_fillOne_165 : decode cX8_fillOne 165 = .ok (.if_icmp .ne 7, 3) := by decide +kernel
theorem dX8_fillOne_168 : decode cX8_fillOne 168 = .ok (.iconst 1, 1) := by decide +kernel
theorem dX8_fillOne_169 : decode cX8_fillOne 169 = .ok (.goto 4, 3) := by decide +kernel
theorem dX8_fillOne_172 : decode cX8_fillOne 172 = .ok (.iconst 0, 1) := by decide +kernel
theorem dX8_fillOne_173 : decode cX8_fillOne 173 = .ok (.istore 7, 2) := by decide +kernel
theorem dX8_fillOne_175 : decode cX8_fillOne 175 = .ok (.iload 6, 2) := by decide +kernel
theorem dX8_fillOne_177 : decode cX8_fillOne 177 = .ok (.iload 9, 2) := by decide +kernel
theorem dX8_fillOne_179 : decode cX8_fillOne 179 = .ok (.ior, 1) := by decide +kernel
theorem dX8_fillOne_180 : decode cX8_fillOne 180 = .ok (.istore 6, 2) := by decide +kernel
theorem dX8_fillOne_182 : decode cX8_fillOne 182 = .ok (.iload 7, 2) := by decide +kernel
theorem dX8_fillOne_184 : decode cX8_fillOne 184 = .ok (.ifCond .eq 6, 3) := by decide +kernel
theorem dX8_fillOne_187 : decode cX8_fillOne 187 = .ok (.goto 41, 3) := by decide +kernel
theorem dX8_fillOne_190 : decode cX8_fillOne 190 = .ok (.aload_n 0, 1) := by decide +kernel
theorem dX8_fillOne_191 : decode cX8_fillOne 191 = .ok (.getfield 36, 3) := by decide +kernel
theorem dX8_fillOne_194 : decode cX8_fillOne 194 = .ok (.iload 9, 2) := by decide +kernel
theorem dX8_fillOne_196 : decode cX8_fillOne 196 = .ok (.iaload, 1) := by decide +kernel
theorem dX8_fillOne_197 : decode cX8_fillOne 197 = .ok (.iload 4, 2) := by decide +kernel
theorem dX8_fillOne_199 : decode cX8_fillOne 199 = .ok (.if_icmp .le 13, 3) := by decide +kernel
theorem dX8_fillOne_202 : decode cX8_fillOne 202 = .ok (.aload_n 0, 1) := by decide +kernel
theorem dX8_fillOne_203 : decode cX8_fillOne 203 = .ok (.getfield 36, 3) := by decide +kernel
theorem dX8_fillOne_206 : decode cX8_fillOne 206 = .ok (.iload 9, 2) := by decide +kernel
theorem dX8_fillOne_208 : decode cX8_fillOne 208 = .ok (.iaload, 1) := by decide +kernel
theorem dX8_fillOne_209 : decode cX8_fillOne 209 = .ok (.goto 5, 3) := by decide +kernel
theorem dX8_fillOne_212 : decode cX8_fillOne 212 = .ok (.iload 4, 2) := by decide +kernel
theorem dX8_fillOne_214 : decode cX8_fillOne 214 = .ok (.istore 4, 2) := by decide +kernel
theorem dX8_fillOne_216 : decode cX8_fillOne 216 = .ok (.iload 5, 2) := by decide +kernel
theorem dX8_fillOne_218 : decode cX8_fillOne 218 = .ok (.aload_n 0, 1) := by decide +kernel
theorem dX8_fillOne_219 : decode cX8_fillOne 219 = .ok (.getfield 39, 3) := by decide +kernel
theorem dX8_fillOne_222 : decode cX8_fillOne 222 = .ok (.iload 9, 2) := by decide +kernel
theorem dX8_fillOne_224 : decode cX8_fillOne 224 = .ok (.iaload, 1) := by decide +kernel
theorem dX8_fillOne_225 : decode cX8_fillOne 225 = .ok (.iadd, 1) := by decide +kernel
theorem dX8_fillOne_226 : decode cX8_fillOne 226 = .ok (.istore 5, 2) := by decide +kernel
theorem dX8_fillOne_228 : decode cX8_fillOne 228 = .ok (.iinc 8 1, 3) := by decide +kernel
theorem dX8_fillOne_231 : decode cX8_fillOne 231 = .ok (.goto (-116), 3) := by decide +kernel
theorem dX8_fillOne_234 : decode cX8_fillOne 234 = .ok (.iload 7, 2) := by decide +kernel
theorem dX8_fillOne_236 : decode cX8_fillOne 236 = .ok (.ifCond .eq 6, 3) := by decide +kernel
theorem dX8_fillOne_239 : decode cX8_fillOne 239 = .ok (.goto 61, 3) := by decide +kernel
theorem dX8_fillOne_242 : decode cX8_fillOne 242 = .ok (.iload 4, 2) := by decide +kernel
theorem dX8_fillOne_244 : decode cX8_fillOne 244 = .ok (.iconst 1, 1) := by decide +kernel
theorem dX8_fillOne_245 : decode cX8_fillOne 245 = .ok (.iadd, 1) := by decide +kernel
theorem dX8_fillOne_246 : decode cX8_fillOne 246 = .ok (.aload_n 0, 1) := by decide +kernel
theorem dX8_fillOne_247 : decode cX8_fillOne 247 = .ok (.getfield 36, 3) := by decide +kernel
theorem dX8_fillOne_250 : decode cX8_fillOne 250 = .ok (.iload_n 1, 1) := by decide +kernel
theorem dX8_fillOne_251 : decode cX8_fillOne 251 = .ok (.iaload, 1) := by decide +kernel
theorem dX8_fillOne_252 : decode cX8_fillOne 252 = .ok (.if_icmp .ge 20, 3) := by decide +kernel
theorem dX8_fillOne_255 : decode cX8_fillOne 255 = .ok (.aload_n 0, 1) := by decide +kernel
theorem dX8_fillOne_256 : decode cX8_fillOne 256 = .ok (.getfield 36, 3) := by decide +kernel
theorem dX8_fillOne_259 : decode cX8_fillOne 259 = .ok (.iload_n 1, 1) := by decide +kernel
theorem dX8_fillOne_260 : decode cX8_fillOne 260 = .ok (.iload 4, 2) := by decide +kernel
theorem dX8_fillOne_262 : decode cX8_fillOne 262 = .ok (.iconst 1, 1) := by decide +kernel
theorem dX8_fillOne_263 : decode cX8_fillOne 263 = .ok (.iadd, 1) := by decide +kernel
theorem dX8_fillOne_264 : decode cX8_fillOne 264 = .ok (.iastore, 1) := by decide +kernel
theorem dX8_fillOne_265 : decode cX8_fillOne 265 = .ok (.aload_n 0, 1) := by decide +kernel
theorem dX8_fillOne_266 : decode cX8_fillOne 266 = .ok (.getfield 42, 3) := by decide +kernel
theorem dX8_fillOne_269 : decode cX8_fillOne 269 = .ok (.iload_n 1, 1) := by decide +kernel
theorem dX8_fillOne_270 : decode cX8_fillOne 270 = .ok (.iload_n 3, 1) := by decide +kernel
theorem dX8_fillOne_271 : decode cX8_fillOne 271 = .ok (.iastore, 1) := by decide +kernel
theorem dX8_fillOne_272 : decode cX8_fillOne 272 = .ok (.aload_n 0, 1) := by decide +kernel
theorem dX8_fillOne_273 : decode cX8_fillOne 273 = .ok (.getfield 39, 3) := by decide +kernel
theorem dX8_fillOne_276 : decode cX8_fillOne 276 = .ok (.iload_n 1, 1) := by decide +kernel
theorem dX8_fillOne_277 : decode cX8_fillOne 277 = .ok (.iload 5, 2) := by decide +kernel
theorem dX8_fillOne_279 : decode cX8_fillOne 279 = .ok (.aload_n 0, 1) := by decide +kernel
theorem dX8_fillOne_280 : decode cX8_fillOne 280 = .ok (.getfield 39, 3) := by decide +kernel
theorem dX8_fillOne_283 : decode cX8_fillOne 283 = .ok (.iload_n 1, 1) := by decide +kernel
theorem dX8_fillOne_284 : decode cX8_fillOne 284 = .ok (.iaload, 1) := by decide +kernel
theorem dX8_fillOne_285 : decode cX8_fillOne 285 = .ok (.if_icmp .ge 8, 3) := by decide +kernel
theorem dX8_fillOne_288 : decode cX8_fillOne 288 = .ok (.iload 5, 2) := by decide +kernel
theorem dX8_fillOne_290 : decode cX8_fillOne 290 = .ok (.goto 9, 3) := by decide +kernel
theorem dX8_fillOne_293 : decode cX8_fillOne 293 = .ok (.aload_n 0, 1) := by decide +kernel
theorem dX8_fillOne_294 : decode cX8_fillOne 294 = .ok (.getfield 39, 3) := by decide +kernel
theorem dX8_fillOne_297 : decode cX8_fillOne 297 = .ok (.iload_n 1, 1) := by decide +kernel
theorem dX8_fillOne_298 : decode cX8_fillOne 298 = .ok (.iaload, 1) := by decide +kernel
theorem dX8_fillOne_299 : decode cX8_fillOne 299 = .ok (.iastore, 1) := by decide +kernel
theorem dX8_fillOne_300 : decode cX8_fillOne 300 = .ok (.iinc 3 1, 3) := by decide +kernel
theorem dX8_fillOne_303 : decode cX8_fillOne 303 = .ok (.goto (-211), 3) := by decide +kernel
theorem dX8_fillOne_306 : decode cX8_fillOne 306 = .ok (.return_, 1) := by decide +kernel
theorem dX8_worst_0 : decode cX8_worst 0 = .ok (.aload_n 0, 1) := by decide +kernel
theorem dX8_worst_1 : decode cX8_worst 1 = .ok (.iload_n 1, 1) := by decide +kernel
theorem dX8_worst_2 : decode cX8_worst 2 = .ok (.invokevirtual 166, 3) := by decide +kernel
theorem dX8_worst_5 : decode cX8_worst 5 = .ok (.ifCond .ne 5, 3) := by decide +kernel
theorem dX8_worst_8 : decode cX8_worst 8 = .ok (.iconst (-1), 1) := by decide +kernel
theorem dX8_worst_9 : decode cX8_worst 9 = .ok (.ireturn, 1) := by decide +kernel
theorem dX8_worst_10 : decode cX8_worst 10 = .ok (.aload_n 0, 1) := by decide +kernel
theorem dX8_worst_11 : decode cX8_worst 11 = .ok (.iload_n 1, 1) := by decide +kernel
theorem dX8_worst_12 : decode cX8_worst 12 = .ok (.invokevirtual 169, 3) := by decide +kernel
theorem dX8_worst_15 : decode cX8_worst 15 = .ok (.aload_n 0, 1) := by decide +kernel
theorem dX8_worst_16 : decode cX8_worst 16 = .ok (.getfield 36, 3) := by decide +kernel
theorem dX8_worst_19 : decode cX8_worst 19 = .ok (.iload_n 1, 1) := by decide +kernel
theorem dX8_worst_20 : decode cX8_worst 20 = .ok (.iaload, 1) := by decide +kernel
theorem dX8_worst_21 : decode cX8_worst 21 = .ok (.ldc 74, 2) := by decide +kernel
theorem dX8_worst_23 : decode cX8_worst 23 = .ok (.if_icmp .ne 8, 3) := by decide +kernel
theorem dX8_worst_26 : decode cX8_worst 26 = .ok (.bipush (-2), 2) := by decide +kernel
theorem dX8_worst_28 : decode cX8_worst 28 = .ok (.goto 9, 3) := by decide +kernel
theorem dX8_worst_31 : decode cX8_worst 31 = .ok (.aload_n 0, 1) := by decide +kernel
theorem dX8_worst_32 : decode cX8_worst 32 = .ok (.getfield 36, 3) := by decide +kernel
theorem dX8_worst_35 : decode cX8_worst 35 = .ok (.iload_n 1, 1) := by decide +kernel
theorem dX8_worst_36 : decode cX8_worst 36 = .ok (.iaload, 1) := by decide +kernel
theorem dX8_worst_37 : decode cX8_worst 37 = .ok (.ireturn, 1) := by decide +kernel
theorem dX8_next_0 : decode cX8_next 0 = .ok (.aload_n 0, 1) := by decide +kernel
theorem dX8_next_1 : decode cX8_next 1 = .ok (.iload_n 1, 1) := by decide +kernel
theorem dX8_next_2 : decode cX8_next 2 = .ok (.invokevirtual 166, 3) := by decide +kernel
theorem dX8_next_5 : decode cX8_next 5 = .ok (.ifCond .ne 5, 3) := by decide +kernel
theorem dX8_next_8 : decode cX8_next 8 = .ok (.iconst (-1), 1) := by decide +kernel
theorem dX8_next_9 : decode cX8_next 9 = .ok (.ireturn, 1) := by decide +kernel
theorem dX8_next_10 : decode cX8_next 10 = .ok (.aload_n 0, 1) := by decide +kernel
theorem dX8_next_11 : decode cX8_next 11 = .ok (.iload_n 1, 1) := by decide +kernel
theorem dX8_next_12 : decode cX8_next 12 = .ok (.invokevirtual 169, 3) := by decide +kernel
theorem dX8_next_15 : decode cX8_next 15 = .ok (.aload_n 0, 1) := by decide +kernel
theorem dX8_next_16 : decode cX8_next 16 = .ok (.getfield 42, 3) := by decide +kernel
theorem dX8_next_19 : decode cX8_next 19 = .ok (.iload_n 1, 1) := by decide +kernel
theorem dX8_next_20 : decode cX8_next 20 = .ok (.iaload, 1) := by decide +kernel
theorem dX8_next_21 : decode cX8_next 21 = .ok (.ireturn, 1) := by decide +kernel
theorem dX8_mean_0 : decode cX8_mean 0 = .ok (.aload_n 0, 1) := by decide +kernel
theorem dX8_mean_1 : decode cX8_mean 1 = .ok (.iload_n 1, 1) := by decide +kernel
theorem dX8_mean_2 : decode cX8_mean 2 = .ok (.invokevirtual 166, 3) := by decide +kernel
theorem dX8_mean_5 : decode cX8_mean 5 = .ok (.ifCond .ne 5, 3) := by decide +kernel
theorem dX8_mean_8 : decode cX8_mean 8 = .ok (.iconst (-1), 1) := by decide +kernel
theorem dX8_mean_9 : decode cX8_mean 9 = .ok (.ireturn, 1) := by decide +kernel
theorem dX8_mean_10 : decode cX8_mean 10 = .ok (.aload_n 0, 1) := by decide +kernel
theorem dX8_mean_11 : decode cX8_mean 11 = .ok (.iload_n 1, 1) := by decide +kernel
theorem dX8_mean_12 : decode cX8_mean 12 = .ok (.invokevirtual 169, 3) := by decide +kernel
theorem dX8_mean_15 : decode cX8_mean 15 = .ok (.aload_n 0, 1) := by decide +kernel
theorem dX8_mean_16 : decode cX8_mean 16 = .ok (.getfield 39, 3) := by decide +kernel
theorem dX8_mean_19 : decode cX8_mean 19 = .ok (.iload_n 1, 1) := by decide +kernel
theorem dX8_mean_20 : decode cX8_mean 20 = .ok (.iaload, 1) := by decide +kernel
theorem dX8_mean_21 : decode cX8_mean 21 = .ok (.ireturn, 1) := by decide +kernel
theorem dX8_moved_0 : decode cX8_moved 0 = .ok (.iload_n 1, 1) := by decide +kernel
theorem dX8_moved_1 : decode cX8_moved 1 = .ok (.istore_n 2, 1) := by decide +kernel
theorem dX8_moved_2 : decode cX8_moved 2 = .ok (.iconst 0, 1) := by decide +kernel
theorem dX8_moved_3 : decode cX8_moved 3 = .ok (.istore_n 3, 1) := by decide +kernel
theorem dX8_moved_4 : decode cX8_moved 4 = .ok (.iload_n 3, 1) := by decide +kernel
theorem dX8_moved_5 : decode cX8_moved 5 = .ok (.aload_n 0, 1) := by decide +kernel
theorem dX8_moved_6 : decode cX8_moved 6 = .ok (.invokevirtual 62, 3) := by decide +kernel
theorem dX8_moved_9 : decode cX8_moved 9 = .ok (.if_icmp .ge 30, 3) := by decide +kernel
theorem dX8_moved_12 : decode cX8_moved 12 = .ok (.iload_n 2, 1) := by decide +kernel
theorem dX8_moved_13 : decode cX8_moved 13 = .ok (.iload_n 1, 1) := by decide +kernel
theorem dX8_moved_14 : decode cX8_moved 14 = .ok (.iload_n 3, 1) := by decide +kernel
theorem dX8_moved_15 : decode cX8_moved 15 = .ok (.ishr, 1) := by decide +kernel
theorem dX8_moved_16 : decode cX8_moved 16 = .ok (.iconst 1, 1) := by decide +kernel
theorem dX8_moved_17 : decode cX8_moved 17 = .ok (.iand, 1) := by decide +kernel
theorem dX8_moved_18 : decode cX8_moved 18 = .ok (.iconst 1, 1) := by decide +kernel
theorem dX8_moved_19 : decode cX8_moved 19 = .ok (.if_icmp .ne 11, 3) := by decide +kernel
theorem dX8_moved_22 : decode cX8_moved 22 = .ok (.aload_n 0, 1) := by decide +kernel
theorem dX8_moved_23 : decode cX8_moved 23 = .ok (.iload_n 3, 1) := by decide +kernel
theorem dX8_moved_24 : decode cX8_moved 24 = .ok (.invokevirtual 98, 3) := by decide +kernel
theorem dX8_moved_27 : decode cX8_moved 27 = .ok (.goto 4, 3) := by decide +kernel
theorem dX8_moved_30 : decode cX8_moved 30 = .ok (.iconst 0, 1) := by decide +kernel
theorem dX8_moved_31 : decode cX8_moved 31 = .ok (.ior, 1) := by decide +kernel
theorem dX8_moved_32 : decode cX8_moved 32 = .ok (.istore_n 2, 1) := by decide +kernel
theorem dX8_moved_33 : decode cX8_moved 33 = .ok (.iinc 3 1, 3) := by decide +kernel
theorem dX8_moved_36 : decode cX8_moved 36 = .ok (.goto (-32), 3) := by decide +kernel
theorem dX8_moved_39 : decode cX8_moved 39 = .ok (.iload_n 2, 1) := by decide +kernel
theorem dX8_moved_40 : decode cX8_moved 40 = .ok (.ireturn, 1) := by decide +kernel
theorem dX8_seek_0 : decode cX8_seek 0 = .ok (.aload_n 0, 1) := by decide +kernel
theorem dX8_seek_1 : decode cX8_seek 1 = .ok (.invokevirtual 62, 3) := by decide +kernel
theorem dX8_seek_4 : decode cX8_seek 4 = .ok (.bipush 10, 2) := by decide +kernel
theorem dX8_seek_6 : decode cX8_seek 6 = .ok (.if_icmp .gt 11, 3) := by decide +kernel
theorem dX8_seek_9 : decode cX8_seek 9 = .ok (.aload_n 0, 1) := by decide +kernel
theorem dX8_seek_10 : decode cX8_seek 10 = .ok (.iload_n 1, 1) := by decide +kernel
theorem dX8_seek_11 : decode cX8_seek 11 = .ok (.invokevirtual 118, 3) := by decide +kernel
theorem dX8_seek_14 : decode cX8_seek 14 = .ok (.ifCond .ne 5, 3) := by decide +kernel
theorem dX8_seek_17 : decode cX8_seek 17 = .ok (.iconst (-1), 1) := by decide +kernel
theorem dX8_seek_18 : decode cX8_seek 18 = .ok (.ireturn, 1) := by decide +kernel
theorem dX8_seek_19 : decode cX8_seek 19 = .ok (.iconst 1, 1) := by decide +kernel
theorem dX8_seek_20 : decode cX8_seek 20 = .ok (.aload_n 0, 1) := by decide +kernel
theorem dX8_seek_21 : decode cX8_seek 21 = .ok (.invokevirtual 62, 3) := by decide +kernel
theorem dX8_seek_24 : decode cX8_seek 24 = .ok (.ishl, 1) := by decide +kernel
theorem dX8_seek_25 : decode cX8_seek 25 = .ok (.istore_n 2, 1) := by decide +kernel
theorem dX8_seek_26 : decode cX8_seek 26 = .ok (.iconst 0, 1) := by decide +kernel
theorem dX8_seek_27 : decode cX8_seek 27 = .ok (.istore_n 3, 1) := by decide +kernel
theorem dX8_seek_28 : decode cX8_seek 28 = .ok (.iload_n 3, 1) := by decide +kernel
theorem dX8_seek_29 : decode cX8_seek 29 = .ok (.iload_n 2, 1) := by decide +kernel
theorem dX8_seek_30 : decode cX8_seek 30 = .ok (.if_icmp .ge 29, 3) := by decide +kernel
theorem dX8_seek_33 : decode cX8_seek 33 = .ok (.aload_n 0, 1) := by decide +kernel
theorem dX8_seek_34 : decode cX8_seek 34 = .ok (.getfield 45, 3) := by decide +kernel
theorem dX8_seek_37 : decode cX8_seek 37 = .ok (.iload_n 3, 1) := by decide +kernel
theorem dX8_seek_38 : decode cX8_seek 38 = .ok (.iload_n 3, 1) := by decide +kernel
theorem dX8_seek_39 : decode cX8_seek 39 = .ok (.invokestatic 102, 3) := by decide +kernel
theorem dX8_seek_42 : decode cX8_seek 42 = .ok (.iconst 2, 1) := by decide +kernel
theorem dX8_seek_43 : decode cX8_seek 43 = .ok (.if_icmp .ge 7, 3) := by decide +kernel
theorem dX8_seek_46 : decode cX8_seek 46 = .ok (.iconst 0, 1) := by decide +kernel
theorem dX8_seek_47 : decode cX8_seek 47 = .ok (.goto 5, 3) := by decide +kernel
theorem dX8_seek_50 : decode cX8_seek 50 = .ok (.ldc 74, 2) := by decide +kernel
theorem dX8_seek_52 : decode cX8_seek 52 = .ok (.iastore, 1) := by decide +kernel
theorem dX8_seek_53 : decode cX8_seek 53 = .ok (.iinc 3 1, 3) := by decide +kernel
theorem dX8_seek_56 : decode cX8_seek 56 = .ok (.goto (-28), 3) := by decide +kernel
theorem dX8_seek_59 : decode cX8_seek 59 = .ok (.iconst 1, 1) := by decide +kernel
theorem dX8_seek_60 : decode cX8_seek 60 = .ok (.istore_n 3, 1) := by decide +kernel
theorem dX8_seek_61 : decode cX8_seek 61 = .ok (.iconst 1, 1) := by decide +kernel
theorem dX8_seek_62 : decode cX8_seek 62 = .ok (.istore 4, 2) := by decide +kernel
theorem dX8_seek_64 : decode cX8_seek 64 = .ok (.iload_n 3, 1) := by decide +kernel
theorem dX8_seek_65 : decode cX8_seek 65 = .ok (.ifCond .eq 63, 3) := by decide +kernel
theorem dX8_seek_68 : decode cX8_seek 68 = .ok (.iconst 0, 1) := by decide +kernel
theorem dX8_seek_69 : decode cX8_seek 69 = .ok (.istore_n 3, 1) := by decide +kernel
theorem dX8_seek_70 : decode cX8_seek 70 = .ok (.iconst 0, 1) := by decide +kernel
theorem dX8_seek_71 : decode cX8_seek 71 = .ok (.istore 5, 2) := by decide +kernel
theorem dX8_seek_73 : decode cX8_seek 73 = .ok (.iload 5, 2) := by decide +kernel
theorem dX8_seek_75 : decode cX8_seek 75 = .ok (.iload_n 2, 1) := by decide +kernel
theorem dX8_seek_76 : decode cX8_seek 76 = .ok (.if_icmp .ge 46, 3) := by decide +kernel
theorem dX8_seek_79 : decode cX8_seek 79 = .ok (.aload_n 0, 1) := by decide +kernel
theorem dX8_seek_80 : decode cX8_seek 80 = .ok (.getfield 45, 3) := by decide +kernel
theorem dX8_seek_83 : decode cX8_seek 83 = .ok (.iload 5, 2) := by decide +kernel
theorem dX8_seek_85 : decode cX8_seek 85 = .ok (.iaload, 1) := by decide +kernel
theorem dX8_seek_86 : decode cX8_seek 86 = .ok (.ldc 74, 2) := by decide +kernel
theorem dX8_seek_88 : decode cX8_seek 88 = .ok (.if_icmp .lt 28, 3) := by decide +kernel
theorem dX8_seek_91 : decode cX8_seek 91 = .ok (.aload_n 0, 1) := by decide +kernel
theorem dX8_seek_92 : decode cX8_seek 92 = .ok (.iload 5, 2) := by decide +kernel
theorem dX8_seek_94 : decode cX8_seek 94 = .ok (.iload 4, 2) := by decide +kernel
theorem dX8_seek_96 : decode cX8_seek 96 = .ok (.invokevirtual 172, 3) := by decide +kernel
theorem dX8_seek_99 : decode cX8_seek 99 = .ok (.ifCond .ne 6, 3) := by decide +kernel
theorem dX8_seek_102 : decode cX8_seek 102 = .ok (.goto 14, 3) := by decide +kernel
theorem dX8_seek_105 : decode cX8_seek 105 = .ok (.aload_n 0, 1) := by decide +kernel
theorem dX8_seek_106 : decode cX8_seek 106 = .ok (.getfield 45, 3) := by decide +kernel
theorem dX8_seek_109 : decode cX8_seek 109 = .ok (.iload 5, 2) := by decide +kernel
theorem dX8_seek_111 : decode cX8_seek 111 = .ok (.iload 4, 2) := by decide +kernel
theorem dX8_seek_113 : decode cX8_seek 113 = .ok (.iastore, 1) := by decide +kernel
theorem dX8_seek_114 : decode cX8_seek 114 = .ok (.iconst 1, 1) := by decide +kernel
theorem dX8_seek_115 : decode cX8_seek 115 = .ok (.istore_n 3, 1) := by decide +kernel
theorem dX8_seek_116 : decode cX8_seek 116 = .ok (.iinc 5 1, 3) := by decide +kernel
theorem dX8_seek_119 : decode cX8_seek 119 = .ok (.goto (-46), 3) := by decide +kernel
theorem dX8_seek_122 : decode cX8_seek 122 = .ok (.iinc 4 1, 3) := by decide +kernel
theorem dX8_seek_125 : decode cX8_seek 125 = .ok (.goto (-61), 3) := by decide +kernel
theorem dX8_seek_128 : decode cX8_seek 128 = .ok (.aload_n 0, 1) := by decide +kernel
theorem dX8_seek_129 : decode cX8_seek 129 = .ok (.getfield 45, 3) := by decide +kernel
theorem dX8_seek_132 : decode cX8_seek 132 = .ok (.iload_n 1, 1) := by decide +kernel
theorem dX8_seek_133 : decode cX8_seek 133 = .ok (.iaload, 1) := by decide +kernel
theorem dX8_seek_134 : decode cX8_seek 134 = .ok (.ldc 74, 2) := by decide +kernel
theorem dX8_seek_136 : decode cX8_seek 136 = .ok (.if_icmp .ne 8, 3) := by decide +kernel
theorem dX8_seek_139 : decode cX8_seek 139 = .ok (.bipush (-2), 2) := by decide +kernel
theorem dX8_seek_141 : decode cX8_seek 141 = .ok (.goto 9, 3) := by decide +kernel
theorem dX8_seek_144 : decode cX8_seek 144 = .ok (.aload_n 0, 1) := by decide +kernel
theorem dX8_seek_145 : decode cX8_seek 145 = .ok (.getfield 45, 3) := by decide +kernel
theorem dX8_seek_148 : decode cX8_seek 148 = .ok (.iload_n 1, 1) := by decide +kernel
theorem dX8_seek_149 : decode cX8_seek 149 = .ok (.iaload, 1) := by decide +kernel
theorem dX8_seek_150 : decode cX8_seek 150 = .ok (.ireturn, 1) := by decide +kernel
theorem dX8_isFoundIn_0 : decode cX8_isFoundIn 0 = .ok (.iconst 0, 1) := by decide +kernel
theorem dX8_isFoundIn_1 : decode cX8_isFoundIn 1 = .ok (.istore_n 3, 1) := by decide +kernel
theorem dX8_isFoundIn_2 : decode cX8_isFoundIn 2 = .ok (.iconst 0, 1) := by decide +kernel
theorem dX8_isFoundIn_3 : decode cX8_isFoundIn 3 = .ok (.istore 4, 2) := by decide +kernel
theorem dX8_isFoundIn_5 : decode cX8_isFoundIn 5 = .ok (.iload 4, 2) := by decide +kernel
theorem dX8_isFoundIn_7 : decode cX8_isFoundIn 7 = .ok (.aload_n 0, 1) := by decide +kernel
theorem dX8_isFoundIn_8 : decode cX8_isFoundIn 8 = .ok (.invokevirtual 62, 3) := by decide +kernel
theorem dX8_isFoundIn_11 : decode cX8_isFoundIn 11 = .ok (.if_icmp .ge 96, 3) := by decide +kernel
theorem dX8_isFoundIn_14 : decode cX8_isFoundIn 14 = .ok (.iload_n 3, 1) := by decide +kernel
theorem dX8_isFoundIn_15 : decode cX8_isFoundIn 15 = .ok (.ifCond .ne 92, 3) := by decide +kernel
theorem dX8_isFoundIn_18 : decode cX8_isFoundIn 18 = .ok (.iconst 1, 1) := by decide +kernel
theorem dX8_isFoundIn_19 : decode cX8_isFoundIn 19 = .ok (.istore 5, 2) := by decide +kernel
theorem dX8_isFoundIn_21 : decode cX8_isFoundIn 21 = .ok (.iconst 0, 1) := by decide +kernel
theorem dX8_isFoundIn_22 : decode cX8_isFoundIn 22 = .ok (.istore 6, 2) := by decide +kernel
theorem dX8_isFoundIn_24 : decode cX8_isFoundIn 24 = .ok (.iload 6, 2) := by decide +kernel
theorem dX8_isFoundIn_26 : decode cX8_isFoundIn 26 = .ok (.aload_n 0, 1) := by decide +kernel
theorem dX8_isFoundIn_27 : decode cX8_isFoundIn 27 = .ok (.invokevirtual 62, 3) := by decide +kernel
theorem dX8_isFoundIn_30 : decode cX8_isFoundIn 30 = .ok (.if_icmp .ge 68, 3) := by decide +kernel
theorem dX8_isFoundIn_33 : decode cX8_isFoundIn 33 = .ok (.iload 5, 2) := by decide +kernel
theorem dX8_isFoundIn_35 : decode cX8_isFoundIn 35 = .ok (.ifCond .eq 63, 3) := by decide +kernel
theorem dX8_isFoundIn_38 : decode cX8_isFoundIn 38 = .ok (.iload_n 1, 1) := by decide +kernel
theorem dX8_isFoundIn_39 : decode cX8_isFoundIn 39 = .ok (.iload 6, 2) := by decide +kernel
theorem dX8_isFoundIn_41 : decode cX8_isFoundIn 41 = .ok (.ishr, 1) := by decide +kernel
theorem dX8_isFoundIn_42 : decode cX8_isFoundIn 42 = .ok (.iconst 1, 1) := by decide +kernel
theorem dX8_isFoundIn_43 : decode cX8_isFoundIn 43 = .ok (.iand, 1) := by decide +kernel
theorem dX8_isFoundIn_44 : decode cX8_isFoundIn 44 = .ok (.ifCond .ne 6, 3) := by decide +kernel
theorem dX8_isFoundIn_47 : decode cX8_isFoundIn 47 = .ok (.goto 45, 3) := by decide +kernel
theorem dX8_isFoundIn_50 : decode cX8_isFoundIn 50 = .ok (.aload_n 0, 1) := by decide +kernel
theorem dX8_isFoundIn_51 : decode cX8_isFoundIn 51 = .ok (.iload_n 1, 1) := by decide +kernel
theorem dX8_isFoundIn_52 : decode cX8_isFoundIn 52 = .ok (.iload 4, 2) := by decide +kernel
theorem dX8_isFoundIn_54 : decode cX8_isFoundIn 54 = .ok (.iload 6, 2) := by decide +kernel
theorem dX8_isFoundIn_56 : decode cX8_isFoundIn 56 = .ok (.invokevirtual 162, 3) := by decide +kernel
theorem dX8_isFoundIn_59 : decode cX8_isFoundIn 59 = .ok (.istore 7, 2) := by decide +kernel
theorem dX8_isFoundIn_61 : decode cX8_isFoundIn 61 = .ok (.iload 7, 2) := by decide +kernel
theorem dX8_isFoundIn_63 : decode cX8_isFoundIn 63 = .ok (.invokestatic 102, 3) := by decide +kernel
theorem dX8_isFoundIn_66 : decode cX8_isFoundIn 66 = .ok (.iconst 2, 1) := by decide +kernel
theorem dX8_isFoundIn_67 : decode cX8_isFoundIn 67 = .ok (.if_icmp .lt 18, 3) := by decide +kernel
theorem dX8_isFoundIn_70 : decode cX8_isFoundIn 70 = .ok (.aload_n 0, 1) := by decide +kernel
theorem dX8_isFoundIn_71 : decode cX8_isFoundIn 71 = .ok (.getfield 45, 3) := by decide +kernel
theorem dX8_isFoundIn_74 : decode cX8_isFoundIn 74 = .ok (.aload_n 0, 1) := by decide +kernel
theorem dX8_isFoundIn_75 : decode cX8_isFoundIn 75 = .ok (.iload 7, 2) := by decide +kernel
theorem dX8_isFoundIn_77 : decode cX8_isFoundIn 77 = .ok (.invokevirtual 175, 3) := by decide +kernel
theorem dX8_isFoundIn_80 : decode cX8_isFoundIn 80 = .ok (.iaload, 1) := by decide +kernel
theorem dX8_isFoundIn_81 : decode cX8_isFoundIn 81 = .ok (.iload_n 2, 1) := by decide +kernel
theorem dX8_isFoundIn_82 : decode cX8_isFoundIn 82 = .ok (.if_icmp .ge 7, 3) := by decide +kernel
theorem dX8_isFoundIn_85 : decode cX8_isFoundIn 85 = .ok (.iconst 1, 1) := by decide +kernel
theorem dX8_isFoundIn_86 : decode cX8_isFoundIn 86 = .ok (.goto 4, 3) := by decide +kernel
theorem dX8_isFoundIn_89 : decode cX8_isFoundIn 89 = .ok (.iconst 0, 1) := by decide +kernel
theorem dX8_isFoundIn_90 : decode cX8_isFoundIn 90 = .ok (.istore 5, 2) := by decide +kernel
theorem dX8_isFoundIn_92 : decode cX8_isFoundIn 92 = .ok (.iinc 6 1, 3) := by decide +kernel
theorem dX8_isFoundIn_95 : decode cX8_isFoundIn 95 = .ok (.goto (-71), 3) := by decide +kernel
theorem dX8_isFoundIn_98 : decode cX8_isFoundIn 98 = .ok (.iload 5, 2) := by decide +kernel
theorem dX8_isFoundIn_100 : decode cX8_isFoundIn 100 = .ok (.istore_n 3, 1) := by decide +kernel
theorem dX8_isFoundIn_101 : decode cX8_isFoundIn 101 = .ok (.iinc 4 1, 3) := by decide +kernel
theorem dX8_isFoundIn_104 : decode cX8_isFoundIn 104 = .ok (.goto (-99), 3) := by decide +kernel
theorem dX8_isFoundIn_107 : decode cX8_isFoundIn 107 = .ok (.iload_n 3, 1) := by decide +kernel
theorem dX8_isFoundIn_108 : decode cX8_isFoundIn 108 = .ok (.ireturn, 1) := by decide +kernel
theorem dX8_tree_0 : decode cX8_tree 0 = .ok (.iconst 0, 1) := by decide +kernel
theorem dX8_tree_1 : decode cX8_tree 1 = .ok (.istore_n 1, 1) := by decide +kernel
theorem dX8_tree_2 : decode cX8_tree 2 = .ok (.iconst 0, 1) := by decide +kernel
theorem dX8_tree_3 : decode cX8_tree 3 = .ok (.istore_n 2, 1) := by decide +kernel
theorem dX8_tree_4 : decode cX8_tree 4 = .ok (.iload_n 2, 1) := by decide +kernel
theorem dX8_tree_5 : decode cX8_tree 5 = .ok (.aload_n 0, 1) := by decide +kernel
theorem dX8_tree_6 : decode cX8_tree 6 = .ok (.invokevirtual 62, 3) := by decide +kernel
theorem dX8_tree_9 : decode cX8_tree 9 = .ok (.if_icmp .ge 20, 3) := by decide +kernel
theorem dX8_tree_12 : decode cX8_tree 12 = .ok (.iload_n 1, 1) := by decide +kernel
theorem dX8_tree_13 : decode cX8_tree 13 = .ok (.aload_n 0, 1) := by decide +kernel
theorem dX8_tree_14 : decode cX8_tree 14 = .ok (.iload_n 2, 1) := by decide +kernel
theorem dX8_tree_15 : decode cX8_tree 15 = .ok (.invokevirtual 98, 3) := by decide +kernel
theorem dX8_tree_18 : decode cX8_tree 18 = .ok (.invokestatic 102, 3) := by decide +kernel
theorem dX8_tree_21 : decode cX8_tree 21 = .ok (.iadd, 1) := by decide +kernel
theorem dX8_tree_22 : decode cX8_tree 22 = .ok (.istore_n 1, 1) := by decide +kernel
theorem dX8_tree_23 : decode cX8_tree 23 = .ok (.iinc 2 1, 3) := by decide +kernel
theorem dX8_tree_26 : decode cX8_tree 26 = .ok (.goto (-22), 3) := by decide +kernel
theorem dX8_tree_29 : decode cX8_tree 29 = .ok (.iload_n 1, 1) := by decide +kernel
theorem dX8_tree_30 : decode cX8_tree 30 = .ok (.iconst 2, 1) := by decide +kernel
theorem dX8_tree_31 : decode cX8_tree 31 = .ok (.aload_n 0, 1) := by decide +kernel
theorem dX8_tree_32 : decode cX8_tree 32 = .ok (.invokevirtual 62, 3) := by decide +kernel
theorem dX8_tree_35 : decode cX8_tree 35 = .ok (.iconst 1, 1) := by decide +kernel
theorem dX8_tree_36 : decode cX8_tree 36 = .ok (.isub, 1) := by decide +kernel
theorem dX8_tree_37 : decode cX8_tree 37 = .ok (.imul, 1) := by decide +kernel
theorem dX8_tree_38 : decode cX8_tree 38 = .ok (.if_icmp .ne 16, 3) := by decide +kernel
theorem dX8_tree_41 : decode cX8_tree 41 = .ok (.aload_n 0, 1) := by decide +kernel
theorem dX8_tree_42 : decode cX8_tree 42 = .ok (.iconst 0, 1) := by decide +kernel
theorem dX8_tree_43 : decode cX8_tree 43 = .ok (.iconst 5, 1) := by decide +kernel
theorem dX8_tree_44 : decode cX8_tree 44 = .ok (.invokevirtual 178, 3) := by decide +kernel
theorem dX8_tree_47 : decode cX8_tree 47 = .ok (.aload_n 0, 1) := by decide +kernel
theorem dX8_tree_48 : decode cX8_tree 48 = .ok (.invokevirtual 62, 3) := by decide +kernel
theorem dX8_tree_51 : decode cX8_tree 51 = .ok (.if_icmp .eq 5, 3) := by decide +kernel
theorem dX8_tree_54 : decode cX8_tree 54 = .ok (.iconst (-1), 1) := by decide +kernel
theorem dX8_tree_55 : decode cX8_tree 55 = .ok (.ireturn, 1) := by decide +kernel
theorem dX8_tree_56 : decode cX8_tree 56 = .ok (.aload_n 0, 1) := by decide +kernel
theorem dX8_tree_57 : decode cX8_tree 57 = .ok (.invokevirtual 62, 3) := by decide +kernel
theorem dX8_tree_60 : decode cX8_tree 60 = .ok (.iconst 1, 1) := by decide +kernel
theorem dX8_tree_61 : decode cX8_tree 61 = .ok (.if_icmp .ne 5, 3) := by decide +kernel
theorem dX8_tree_64 : decode cX8_tree 64 = .ok (.iconst 0, 1) := by decide +kernel
theorem dX8_tree_65 : decode cX8_tree 65 = .ok (.ireturn, 1) := by decide +kernel
theorem dX8_tree_66 : decode cX8_tree 66 = .ok (.iconst 0, 1) := by decide +kernel
theorem dX8_tree_67 : decode cX8_tree 67 = .ok (.istore_n 2, 1) := by decide +kernel
theorem dX8_tree_68 : decode cX8_tree 68 = .ok (.iconst 0, 1) := by decide +kernel
theorem dX8_tree_69 : decode cX8_tree 69 = .ok (.istore_n 3, 1) := by decide +kernel
theorem dX8_tree_70 : decode cX8_tree 70 = .ok (.iconst 0, 1) := by decide +kernel
theorem dX8_tree_71 : decode cX8_tree 71 = .ok (.istore 4, 2) := by decide +kernel
theorem dX8_tree_73 : decode cX8_tree 73 = .ok (.iload 4, 2) := by decide +kernel
theorem dX8_tree_75 : decode cX8_tree 75 = .ok (.aload_n 0, 1) := by decide +kernel
theorem dX8_tree_76 : decode cX8_tree 76 = .ok (.invokevirtual 62, 3) := by decide +kernel
theorem dX8_tree_79 : decode cX8_tree 79 = .ok (.if_icmp .ge 60, 3) := by decide +kernel
theorem dX8_tree_82 : decode cX8_tree 82 = .ok (.iload_n 2, 1) := by decide +kernel
theorem dX8_tree_83 : decode cX8_tree 83 = .ok (.aload_n 0, 1) := by decide +kernel
theorem dX8_tree_84 : decode cX8_tree 84 = .ok (.iload 4, 2) := by decide +kernel
theorem dX8_tree_86 : decode cX8_tree 86 = .ok (.invokevirtual 98, 3) := by decide +kernel
theorem dX8_tree_89 : decode cX8_tree 89 = .ok (.invokestatic 102, 3) := by decide +kernel
theorem dX8_tree_92 : decode cX8_tree 92 = .ok (.iconst 1, 1) := by decide +kernel
theorem dX8_tree_93 : decode cX8_tree 93 = .ok (.if_icmp .ne 7, 3) := by decide +kernel
theorem dX8_tree_96 : decode cX8_tree 96 = .ok (.iconst 1, 1) := by decide +kernel
theorem dX8_tree_97 : decode cX8_tree 97 = .ok (.goto 4, 3) := by decide +kernel
theorem dX8_tree_100 : decode cX8_tree 100 = .ok (.iconst 0, 1) := by decide +kernel
theorem dX8_tree_101 : decode cX8_tree 101 = .ok (.iadd, 1) := by decide +kernel
theorem dX8_tree_102 : decode cX8_tree 102 = .ok (.istore_n 2, 1) := by decide +kernel
theorem dX8_tree_103 : decode cX8_tree 103 = .ok (.iload_n 3, 1) := by decide +kernel
theorem dX8_tree_104 : decode cX8_tree 104 = .ok (.aload_n 0, 1) := by decide +kernel
theorem dX8_tree_105 : decode cX8_tree 105 = .ok (.iload 4, 2) := by decide +kernel
theorem dX8_tree_107 : decode cX8_tree 107 = .ok (.invokevirtual 98, 3) := by decide +kernel
theorem dX8_tree_110 : decode cX8_tree 110 = .ok (.invokestatic 102, 3) := by decide +kernel
theorem dX8_tree_113 : decode cX8_tree 113 = .ok (.iconst 2, 1) := by decide +kernel
theorem dX8_tree_114 : decode cX8_tree 114 = .ok (.if_icmp .le 16, 3) := by decide +kernel
theorem dX8_tree_117 : decode cX8_tree 117 = .ok (.aload_n 0, 1) := by decide +kernel
theorem dX8_tree_118 : decode cX8_tree 118 = .ok (.iload 4, 2) := by decide +kernel
theorem dX8_tree_120 : decode cX8_tree 120 = .ok (.invokevirtual 181, 3) := by decide +kernel
theorem dX8_tree_123 : decode cX8_tree 123 = .ok (.ifCond .eq 7, 3) := by decide +kernel
theorem dX8_tree_126 : decode cX8_tree 126 = .ok (.iconst 1, 1) := by decide +kernel
theorem dX8_tree_127 : decode cX8_tree 127 = .ok (.goto 4, 3) := by decide +kernel
theorem dX8_tree_130 : decode cX8_tree 130 = .ok (.iconst 0, 1) := by decide +kernel
theorem dX8_tree_131 : decode cX8_tree 131 = .ok (.iadd, 1) := by decide +kernel
theorem dX8_tree_132 : decode cX8_tree 132 = .ok (.istore_n 3, 1) := by decide +kernel
theorem dX8_tree_133 : decode cX8_tree 133 = .ok (.iinc 4 1, 3) := by decide +kernel
theorem dX8_tree_136 : decode cX8_tree 136 = .ok (.goto (-63), 3) := by decide +kernel
theorem dX8_tree_139 : decode cX8_tree 139 = .ok (.iload_n 2, 1) := by decide +kernel
theorem dX8_tree_140 : decode cX8_tree 140 = .ok (.iconst 2, 1) := by decide +kernel
theorem dX8_tree_141 : decode cX8_tree 141 = .ok (.if_icmp .ne 11, 3) := by decide +kernel
theorem dX8_tree_144 : decode cX8_tree 144 = .ok (.iload_n 3, 1) := by decide +kernel
theorem dX8_tree_145 : decode cX8_tree 145 = .ok (.ifCond .ne 7, 3) := by decide +kernel
theorem dX8_tree_148 : decode cX8_tree 148 = .ok (.iconst 1, 1) := by decide +kernel
theorem dX8_tree_149 : decode cX8_tree 149 = .ok (.goto 6, 3) := by decide +kernel
theorem dX8_tree_152 : decode cX8_tree 152 = .ok (.iload_n 2, 1) := by decide +kernel
theorem dX8_tree_153 : decode cX8_tree 153 = .ok (.iload_n 3, 1) := by decide +kernel
theorem dX8_tree_154 : decode cX8_tree 154 = .ok (.isub, 1) := by decide +kernel
theorem dX8_tree_155 : decode cX8_tree 155 = .ok (.ireturn, 1) := by decide +kernel
theorem dX8_isLed_0 : decode cX8_isLed 0 = .ok (.iconst 0, 1) := by decide +kernel
theorem dX8_isLed_1 : decode cX8_isLed 1 = .ok (.istore_n 2, 1) := by decide +kernel
theorem dX8_isLed_2 : decode cX8_isLed 2 = .ok (.iconst 0, 1) := by decide +kernel
theorem dX8_isLed_3 : decode cX8_isLed 3 = .ok (.istore_n 3, 1) := by decide +kernel
theorem dX8_isLed_4 : decode cX8_isLed 4 = .ok (.iload_n 3, 1) := by decide +kernel
theorem dX8_isLed_5 : decode cX8_isLed 5 = .ok (.aload_n 0, 1) := by decide +kernel
theorem dX8_isLed_6 : decode cX8_isLed 6 = .ok (.invokevirtual 62, 3) := by decide +kernel
theorem dX8_isLed_9 : decode cX8_isLed 9 = .ok (.if_icmp .ge 95, 3) := by decide +kernel
theorem dX8_isLed_12 : decode cX8_isLed 12 = .ok (.iload_n 2, 1) := by decide +kernel
theorem dX8_isLed_13 : decode cX8_isLed 13 = .ok (.ifCond .ne 91, 3) := by decide +kernel
theorem dX8_isLed_16 : decode cX8_isLed 16 = .ok (.aload_n 0, 1) := by decide +kernel
theorem dX8_isLed_17 : decode cX8_isLed 17 = .ok (.iload_n 3, 1) := by decide +kernel
theorem dX8_isLed_18 : decode cX8_isLed 18 = .ok (.invokevirtual 98, 3) := by decide +kernel
theorem dX8_isLed_21 : decode cX8_isLed 21 = .ok (.invokestatic 102, 3) := by decide +kernel
theorem dX8_isLed_24 : decode cX8_isLed 24 = .ok (.iconst 1, 1) := by decide +kernel
theorem dX8_isLed_25 : decode cX8_isLed 25 = .ok (.if_icmp .eq 6, 3) := by decide +kernel
theorem dX8_isLed_28 : decode cX8_isLed 28 = .ok (.goto 70, 3) := by decide +kernel
theorem dX8_isLed_31 : decode cX8_isLed 31 = .ok (.iload_n 3, 1) := by decide +kernel
theorem dX8_isLed_32 : decode cX8_isLed 32 = .ok (.istore 4, 2) := by decide +kernel
theorem dX8_isLed_34 : decode cX8_isLed 34 = .ok (.aload_n 0, 1) := by decide +kernel
theorem dX8_isLed_35 : decode cX8_isLed 35 = .ok (.iload_n 3, 1) := by decide +kernel
theorem dX8_isLed_36 : decode cX8_isLed 36 = .ok (.invokevirtual 98, 3) := by decide +kernel
theorem dX8_isLed_39 : decode cX8_isLed 39 = .ok (.invokestatic 184, 3) := by decide +kernel
theorem dX8_isLed_42 : decode cX8_isLed 42 = .ok (.istore 5, 2) := by decide +kernel
theorem dX8_isLed_44 : decode cX8_isLed 44 = .ok (.aload_n 0, 1) := by decide +kernel
theorem dX8_isLed_45 : decode cX8_isLed 45 = .ok (.iload 5, 2) := by decide +kernel
theorem dX8_isLed_47 : decode cX8_isLed 47 = .ok (.invokevirtual 98, 3) := by decide +kernel
theorem dX8_isLed_50 : decode cX8_isLed 50 = .ok (.invokestatic 102, 3) := by decide +kernel
theorem dX8_isLed_53 : decode cX8_isLed 53 = .ok (.iconst 2, 1) := by decide +kernel
theorem dX8_isLed_54 : decode cX8_isLed 54 = .ok (.if_icmp .ne 32, 3) := by decide +kernel
theorem dX8_isLed_57 : decode cX8_isLed 57 = .ok (.aload_n 0, 1) := by decide +kernel
theorem dX8_isLed_58 : decode cX8_isLed 58 = .ok (.iload 5, 2) := by decide +kernel
theorem dX8_isLed_60 : decode cX8_isLed 60 = .ok (.invokevirtual 98, 3) := by decide +kernel
theorem dX8_isLed_63 : decode cX8_isLed 63 = .ok (.iconst 1, 1) := by decide +kernel
theorem dX8_isLed_64 : decode cX8_isLed 64 = .ok (.iload 4, 2) := by decide +kernel
theorem dX8_isLed_66 : decode cX8_isLed 66 = .ok (.ishl, 1) := by decide +kernel
theorem dX8_isLed_67 : decode cX8_isLed 67 = .ok (.iconst (-1), 1) := by decide +kernel
theorem dX8_isLed_68 : decode cX8_isLed 68 = .ok (.ixor, 1) := by decide +kernel
theorem dX8_isLed_69 : decode cX8_isLed 69 = .ok (.iand, 1) := by decide +kernel
theorem dX8_isLed_70 : decode cX8_isLed 70 = .ok (.invokestatic 184, 3) := by decide +kernel
theorem dX8_isLed_73 : decode cX8_isLed 73 = .ok (.istore 6, 2) := by decide +kernel
theorem dX8_isLed_75 : decode cX8_isLed 75 = .ok (.iload 5, 2) := by decide +kernel
theorem dX8_isLed_77 : decode cX8_isLed 77 = .ok (.istore 4, 2) := by decide +kernel
theorem dX8_isLed_79 : decode cX8_isLed 79 = .ok (.iload 6, 2) := by decide +kernel
theorem dX8_isLed_81 : decode cX8_isLed 81 = .ok (.istore 5, 2) := by decide +kernel
theorem dX8_isLed_83 : decode cX8_isLed 83 = .ok (.goto (-39), 3) := by decide +kernel
theorem dX8_isLed_86 : decode cX8_isLed 86 = .ok (.iload 5, 2) := by decide +kernel
theorem dX8_isLed_88 : decode cX8_isLed 88 = .ok (.iload_n 1, 1) := by decide +kernel
theorem dX8_isLed_89 : decode cX8_isLed 89 = .ok (.if_icmp .ne 7, 3) := by decide +kernel
theorem dX8_isLed_92 : decode cX8_isLed 92 = .ok (.iconst 1, 1) := by decide +kernel
theorem dX8_isLed_93 : decode cX8_isLed 93 = .ok (.goto 4, 3) := by decide +kernel
theorem dX8_isLed_96 : decode cX8_isLed 96 = .ok (.iconst 0, 1) := by decide +kernel
theorem dX8_isLed_97 : decode cX8_isLed 97 = .ok (.istore_n 2, 1) := by decide +kernel
theorem dX8_isLed_98 : decode cX8_isLed 98 = .ok (.iinc 3 1, 3) := by decide +kernel
theorem dX8_isLed_101 : decode cX8_isLed 101 = .ok (.goto (-97), 3) := by decide +kernel
theorem dX8_isLed_104 : decode cX8_isLed 104 = .ok (.iload_n 2, 1) := by decide +kernel
theorem dX8_isLed_105 : decode cX8_isLed 105 = .ok (.ireturn, 1) := by decide +kernel
theorem dX8_only_0 : decode cX8_only 0 = .ok (.iconst 0, 1) := by decide +kernel
theorem dX8_only_1 : decode cX8_only 1 = .ok (.istore_n 1, 1) := by decide +kernel
theorem dX8_only_2 : decode cX8_only 2 = .ok (.iload_n 0, 1) := by decide +kernel
theorem dX8_only_3 : decode cX8_only 3 = .ok (.iload_n 1, 1) := by decide +kernel
theorem dX8_only_4 : decode cX8_only 4 = .ok (.ishr, 1) := by decide +kernel
theorem dX8_only_5 : decode cX8_only 5 = .ok (.iconst 1, 1) := by decide +kernel
theorem dX8_only_6 : decode cX8_only 6 = .ok (.iand, 1) := by decide +kernel
theorem dX8_only_7 : decode cX8_only 7 = .ok (.ifCond .ne 9, 3) := by decide +kernel
theorem dX8_only_10 : decode cX8_only 10 = .ok (.iinc 1 1, 3) := by decide +kernel
theorem dX8_only_13 : decode cX8_only 13 = .ok (.goto (-11), 3) := by decide +kernel
theorem dX8_only_16 : decode cX8_only 16 = .ok (.iload_n 1, 1) := by decide +kernel
theorem dX8_only_17 : decode cX8_only 17 = .ok (.ireturn, 1) := by decide +kernel
theorem dX8_about_0 : decode cX8_about 0 = .ok (.iload_n 1, 1) := by decide +kernel
theorem dX8_about_1 : decode cX8_about 1 = .ok (.tableswitch 133 0 8 #[51, 56, 89, 96, 103, 108, 115, 123, 128], 51) := by decide +kernel
theorem dX8_about_52 : decode cX8_about 52 = .ok (.aload_n 0, 1) := by decide +kernel
theorem dX8_about_53 : decode cX8_about 53 = .ok (.invokevirtual 62, 3) := by decide +kernel
theorem dX8_about_56 : decode cX8_about 56 = .ok (.ireturn, 1) := by decide +kernel
theorem dX8_about_57 : decode cX8_about 57 = .ok (.iconst 0, 1) := by decide +kernel
theorem dX8_about_58 : decode cX8_about 58 = .ok (.istore_n 2, 1) := by decide +kernel
theorem dX8_about_59 : decode cX8_about 59 = .ok (.iconst 0, 1) := by decide +kernel
theorem dX8_about_60 : decode cX8_about 60 = .ok (.istore_n 3, 1) := by decide +kernel
theorem dX8_about_61 : decode cX8_about 61 = .ok (.iload_n 3, 1) := by decide +kernel
theorem dX8_about_62 : decode cX8_about 62 = .ok (.aload_n 0, 1) := by decide +kernel
theorem dX8_about_63 : decode cX8_about 63 = .ok (.invokevirtual 62, 3) := by decide +kernel
theorem dX8_about_66 : decode cX8_about 66 = .ok (.if_icmp .ge 20, 3) := by decide +kernel
theorem dX8_about_69 : decode cX8_about 69 = .ok (.iload_n 2, 1) := by decide +kernel
theorem dX8_about_70 : decode cX8_about 70 = .ok (.aload_n 0, 1) := by decide +kernel
theorem dX8_about_71 : decode cX8_about 71 = .ok (.iload_n 3, 1) := by decide +kernel
theorem dX8_about_72 : decode cX8_about 72 = .ok (.invokevirtual 98, 3) := by decide +kernel
theorem dX8_about_75 : decode cX8_about 75 = .ok (.invokestatic 102, 3) := by decide +kernel
theorem dX8_about_78 : decode cX8_about 78 = .ok (.iadd, 1) := by decide +kernel
theorem dX8_about_79 : decode cX8_about 79 = .ok (.istore_n 2, 1) := by decide +kernel
theorem dX8_about_80 : decode cX8_about 80 = .ok (.iinc 3 1, 3) := by decide +kernel
theorem dX8_about_83 : decode cX8_about 83 = .ok (.goto (-22), 3) := by decide +kernel
theorem dX8_about_86 : decode cX8_about 86 = .ok (.iload_n 2, 1) := by decide +kernel
theorem dX8_about_87 : decode cX8_about 87 = .ok (.iconst 2, 1) := by decide +kernel
theorem dX8_about_88 : decode cX8_about 88 = .ok (.idiv, 1) := by decide +kernel
theorem dX8_about_89 : decode cX8_about 89 = .ok (.ireturn, 1) := by decide +kernel
theorem dX8_about_90 : decode cX8_about 90 = .ok (.aload_n 0, 1) := by decide +kernel
theorem dX8_about_91 : decode cX8_about 91 = .ok (.getfield 7, 3) := by decide +kernel
theorem dX8_about_94 : decode cX8_about 94 = .ok (.iconst 1, 1) := by decide +kernel
theorem dX8_about_95 : decode cX8_about 95 = .ok (.iaload, 1) := by decide +kernel
theorem dX8_about_96 : decode cX8_about 96 = .ok (.ireturn, 1) := by decide +kernel
theorem dX8_about_97 : decode cX8_about 97 = .ok (.aload_n 0, 1) := by decide +kernel
theorem dX8_about_98 : decode cX8_about 98 = .ok (.getfield 7, 3) := by decide +kernel
theorem dX8_about_101 : decode cX8_about 101 = .ok (.iconst 2, 1) := by decide +kernel
theorem dX8_about_102 : decode cX8_about 102 = .ok (.iaload, 1) := by decide +kernel
theorem dX8_about_103 : decode cX8_about 103 = .ok (.ireturn, 1) := by decide +kernel
theorem dX8_about_104 : decode cX8_about 104 = .ok (.aload_n 0, 1) := by decide +kernel
theorem dX8_about_105 : decode cX8_about 105 = .ok (.invokevirtual 95, 3) := by decide +kernel
theorem dX8_about_108 : decode cX8_about 108 = .ok (.ireturn, 1) := by decide +kernel
theorem dX8_about_109 : decode cX8_about 109 = .ok (.aload_n 0, 1) := by decide +kernel
theorem dX8_about_110 : decode cX8_about 110 = .ok (.getfield 7, 3) := by decide +kernel
theorem dX8_about_113 : decode cX8_about 113 = .ok (.iconst 5, 1) := by decide +kernel
theorem dX8_about_114 : decode cX8_about 114 = .ok (.iaload, 1) := by decide +kernel
theorem dX8_about_115 : decode cX8_about 115 = .ok (.ireturn, 1) := by decide +kernel
theorem dX8_about_116 : decode cX8_about 116 = .ok (.aload_n 0, 1) := by decide +kernel
theorem dX8_about_117 : decode cX8_about 117 = .ok (.getfield 7, 3) := by decide +kernel
theorem dX8_about_120 : decode cX8_about 120 = .ok (.bipush 6, 2) := by decide +kernel
theorem dX8_about_122 : decode cX8_about 122 = .ok (.iaload, 1) := by decide +kernel
theorem dX8_about_123 : decode cX8_about 123 = .ok (.ireturn, 1) := by decide +kernel
theorem dX8_about_124 : decode cX8_about 124 = .ok (.aload_n 0, 1) := by decide +kernel
theorem dX8_about_125 : decode cX8_about 125 = .ok (.getfield 59, 3) := by decide +kernel
theorem dX8_about_128 : decode cX8_about 128 = .ok (.ireturn, 1) := by decide +kernel
theorem dX8_about_129 : decode cX8_about 129 = .ok (.aload_n 0, 1) := by decide +kernel
theorem dX8_about_130 : decode cX8_about 130 = .ok (.getfield 89, 3) := by decide +kernel
theorem dX8_about_133 : decode cX8_about 133 = .ok (.ireturn, 1) := by decide +kernel
theorem dX8_about_134 : decode cX8_about 134 = .ok (.iconst (-1), 1) := by decide +kernel
theorem dX8_about_135 : decode cX8_about 135 = .ok (.ireturn, 1) := by decide +kernel
end
section
/-! pure words for loops: what is left of a loop, by the number of rounds left -/
theorem zs_sub {i N : Nat} (h : i < N) : N - i = (N - (i + 1)) + 1 := by omega
/-- the first place from b on, among k -/
def zf_in (f : Nat → Bool) : Nat → Nat → Option Nat
  | 0, _ => none
  | k + 1, b => if f b then some b else zf_in f k (b + 1)
theorem zf_in_t {f : Nat → Bool} {b k : Nat} (h : f b = true) : zf_in f (k + 1) b = some b := by rw [zf_in, if_pos h]
theorem zf_in_f {f : Nat → Bool} {b k : Nat} (h : f b = false) : zf_in f (k + 1) b = zf_in f k (b + 1) := by rw [zf_in, if_neg (by rw [h]; decide)]
theorem zf_in_congr {f g : Nat → Bool} : ∀ (k b : Nat), (∀ i, b ≤ i → i < b + k → f i = g i) → zf_in f k b = zf_in g k b
  | 0, _, _ => rfl
  | k + 1, b, h => by rw [zf_in, zf_in, h b (Nat.le_refl _) (by omega), zf_in_congr k (b + 1) (fun i h1 h2 => h i (by omega) (by omega))]
theorem zf_in_spec {f : Nat → Bool} : ∀ (k b : Nat), (match zf_in f k b with
    | some i => b ≤ i ∧ i < b + k ∧ f i = true ∧ ∀ j, b ≤ j → j < i → f j = false
    | none => ∀ j, b ≤ j → j < b + k → f j = false)
  | 0, b => fun j h1 h2 => absurd h1 (by omega)
  | k + 1, b => by
    by_cases h : f b = true
    · rw [zf_in_t h]; exact ⟨Nat.le_refl _, by omega, h, fun j h1 h2 => absurd h1 (by omega)⟩
    · have hf : f b = false := by simpa using h
      rw [zf_in_f hf]
      have ih := zf_in_spec (f := f) k (b + 1)
      cases hz : zf_in f k (b + 1) with
      | none =>
        rw [hz] at ih
        intro j h1 h2
        rcases Nat.lt_or_ge b j with q | q
        · exact ih j q (by omega)
        · have : j = b := by omega
          subst this; exact hf
      | some i =>
        rw [hz] at ih
        refine ⟨by omega, by omega, ih.2.2.1, fun j h1 h2 => ?_⟩
        rcases Nat.lt_or_ge b j with q | q
        · exact ih.2.2.2 j q h2
        · have : j = b := by omega
          subst this; exact hf
/-- the first pair a, b (a less than b) in order -/
def zf_pr (f : Nat → Nat → Bool) (N : Nat) : Nat → Nat → Option (Nat × Nat)
  | 0, _ => none
  | k + 1, a => match zf_in (f a) (N - (a + 1)) (a + 1) with
    | some b => some (a, b)
    | none => zf_pr f N k (a + 1)
theorem zf_pr_t {f : Nat → Nat → Bool} {N a b k : Nat} (h : zf_in (f a) (N - (a + 1)) (a + 1) = some b) : zf_pr f N (k + 1) a = some (a, b) := by rw [zf_pr, h]
theorem zf_pr_f {f : Nat → Nat → Bool} {N a k : Nat} (h : zf_in (f a) (N - (a + 1)) (a + 1) = none) : zf_pr f N (k + 1) a = zf_pr f N k (a + 1) := by rw [zf_pr, h]
theorem zf_pr_congr {f g : Nat → Nat → Bool} {N : Nat} : ∀ (k a : Nat), a + k ≤ N → (∀ i j, i < j → j < N → f i j = g i j) → zf_pr f N k a = zf_pr g N k a
  | 0, _, _, _ => rfl
  | k + 1, a, hk, h => by
    rw [zf_pr, zf_pr, zf_in_congr (f := f a) (g := g a) (N - (a + 1)) (a + 1) (fun i h1 h2 => h a i (by omega) (by omega)), zf_pr_congr k (a + 1) (by omega) h]
/-- sums of a function, from i on, k of them, onto c -/
def zc_in (f : Nat → Int32) : Nat → Nat → Int32 → Int32
  | 0, _, c => c
  | k + 1, b, c => zc_in f k (b + 1) (c + f b)
def zc_pr (f : Nat → Nat → Int32) (N : Nat) : Nat → Nat → Int32 → Int32
  | 0, _, c => c
  | k + 1, a, c => zc_pr f N k (a + 1) (zc_in (f a) (N - (a + 1)) (a + 1) c)
theorem zc_in_congr {f g : Nat → Int32} : ∀ (k b : Nat) (c : Int32), (∀ i, b ≤ i → i < b + k → f i = g i) → zc_in f k b c = zc_in g k b c
  | 0, _, _, _ => rfl
  | k + 1, b, c, h => by rw [zc_in, zc_in, h b (Nat.le_refl _) (by omega), zc_in_congr k (b + 1) _ (fun i h1 h2 => h i (by omega) (by omega))]
theorem zc_pr_congr {f g : Nat → Nat → Int32} {N : Nat} : ∀ (k a : Nat) (c : Int32), a + k ≤ N → (∀ i j, i < j → j < N → f i j = g i j) → zc_pr f N k a c = zc_pr g N k a c
  | 0, _, _, _, _ => rfl
  | k + 1, a, c, hk, h => by
    rw [zc_pr, zc_pr, zc_in_congr (f := f a) (g := g a) (N - (a + 1)) (a + 1) c (fun i h1 h2 => h a i (by omega) (by omega)), zc_pr_congr k (a + 1) _ (by omega) h]
/-- the k-th place: .inl it, or .inr how many there were -/
def zk_in (f : Nat → Bool) (k : Int32) : Nat → Nat → Int32 → Nat ⊕ Int32
  | 0, _, c => .inr c
  | n + 1, b, c => if f b then (if c = k then .inl b else zk_in f k n (b + 1) (c + 1)) else zk_in f k n (b + 1) c
def zk_pr (f : Nat → Nat → Bool) (k : Int32) (N : Nat) : Nat → Nat → Int32 → Option (Nat × Nat)
  | 0, _, _ => none
  | n + 1, a, c => match zk_in (f a) k (N - (a + 1)) (a + 1) c with
    | .inl b => some (a, b)
    | .inr c' => zk_pr f k N n (a + 1) c'
theorem zk_in_tt {f : Nat → Bool} {k c : Int32} {n b : Nat} (h : f b = true) (hc : c = k) : zk_in f k (n + 1) b c = .inl b := by rw [zk_in, if_pos h, if_pos hc]
theorem zk_in_tf {f : Nat → Bool} {k c : Int32} {n b : Nat} (h : f b = true) (hc : ¬ c = k) : zk_in f k (n + 1) b c = zk_in f k n (b + 1) (c + 1) := by rw [zk_in, if_pos h, if_neg hc]
theorem zk_in_f {f : Nat → Bool} {k c : Int32} {n b : Nat} (h : f b = false) : zk_in f k (n + 1) b c = zk_in f k n (b + 1) c := by rw [zk_in, if_neg (by rw [h]; decide)]
theorem zk_in_congr {f g : Nat → Bool} {k : Int32} : ∀ (n b : Nat) (c : Int32), (∀ i, b ≤ i → i < b + n → f i = g i) → zk_in f k n b c = zk_in g k n b c
  | 0, _, _, _ => rfl
  | n + 1, b, c, h => by
    rw [zk_in, zk_in, h b (Nat.le_refl _) (by omega), zk_in_congr n (b + 1) c (fun i h1 h2 => h i (by omega) (by omega)), zk_in_congr n (b + 1) (c + 1) (fun i h1 h2 => h i (by omega) (by omega))]
theorem zk_pr_congr {f g : Nat → Nat → Bool} {k : Int32} {N : Nat} : ∀ (n a : Nat) (c : Int32), a + n ≤ N → (∀ i j, i < j → j < N → f i j = g i j) → zk_pr f k N n a c = zk_pr g k N n a c
  | 0, _, _, _, _ => rfl
  | n + 1, a, c, hk, h => by
    rw [zk_pr, zk_pr, zk_in_congr (f := f a) (g := g a) (N - (a + 1)) (a + 1) c (fun i h1 h2 => h a i (by omega) (by omega))]
    cases zk_in (g a) k (N - (a + 1)) (a + 1) c with
    | inl b => rfl
    | inr c' => exact zk_pr_congr n (a + 1) c' (by omega) h
def zr_pr (r : Option (Nat × Nat)) : Int32 := match r with
  | some ab => nI (16 * ab.1 + ab.2)
  | none => -1
def zr_in (r : Option Nat) : Int32 := match r with
  | some b => nI b
  | none => -1
end
section
/-! the model's small methods -/
theorem az_lit (n : Nat) : (OfNat.ofNat n : Int32) = nI n := rfl
theorem az_up (P : Nat → Prop) (e i0 : Nat) (hi : i0 ≤ e) (hs : ∀ i, i0 ≤ i → i < e → P (i + 1) → P i) (he : P e) : P i0 := by
  obtain ⟨k, rfl⟩ := Nat.exists_eq_add_of_le hi
  induction k with
  | zero => exact he
  | succ k ih => exact ih (Nat.le_add_right _ _) (fun i h1 h2 h3 => hs i h1 (by omega) h3) (hs (i0 + k) (Nat.le_add_right _ _) (by omega) he)
theorem zb_z {c : Prop} [Decidable c] (h : (if c then (1 : Int32) else 0) = 0) : ¬ c := by
  intro hc; rw [if_pos hc] at h; exact absurd h (by decide)
theorem zb_n {c : Prop} [Decidable c] (h : ¬ (if c then (1 : Int32) else 0) = 0) : c := by
  by_cases hc : c
  · exact hc
  · rw [if_neg hc] at h; exact absurd rfl h
theorem zb_01 {c : Prop} [Decidable c] : (if c then (1 : Int32) else 0) = 0 ∨ (if c then (1 : Int32) else 0) = 1 := by
  by_cases h : c
  · exact Or.inr (if_pos h)
  · exact Or.inl (if_neg h)
def zm_mask (f : Nat → Bool) : Nat → Int32
  | 0 => 0
  | n + 1 => zm_mask f n ||| (if f n then 1 <<< (nI n &&& 31) else 0)
theorem zm_mask_t {f : Nat → Bool} {n : Nat} (h : f n = true) : zm_mask f (n + 1) = zm_mask f n ||| (1 <<< (nI n &&& 31)) := by rw [zm_mask, if_pos h]
theorem zm_mask_f {f : Nat → Bool} {n : Nat} (h : f n = false) : zm_mask f (n + 1) = zm_mask f n ||| 0 := by rw [zm_mask, if_neg (by rw [h]; decide)]
def zm_sum (f : Nat → Int32) : Nat → Int32
  | 0 => 0
  | n + 1 => zm_sum f n + f n
def zm_many (x : Int32) : Int32 := zm_sum (fun k => (x >>> (nI k &&& 31)) &&& 1) 16
/-- m parts a and b, by the answers an -/
def zm_pf (an : Nat → Int32) (a b m : Nat) : Bool := !decide (an (16 * m + a) = an (16 * m + b))
/-- m says yes of p: no is 1000000 for kind 0, else 0 -/
def zm_yf (kd : Int32) (an : Nat → Int32) (p m : Nat) : Bool := !decide (an (16 * m + p) = if kd = 0 then 1000000 else 0)
def zm_bf (len : Nat → Int32) (p q : Nat) : Bool := decide (0 < len (16 * p + q))
def zm_need (f l : Int32) : Int32 := 1 + (if l = 1 then 2 else 1) * f
/-- the state's rows of lengths -/
def zm_len (S : Nat → Int32) : Nat → Int32 := fun i => S (7 + i)
section MA
variable {X : az_X} {d : Nat} {mem : az_M} {Q : Option az_V → az_M → Prop} {N : Nat}
theorem s_X8_n (hQ : Q (some (.inl (mem 392 0))) mem) : az_Sp X d mX8_n [.inr 391] mem Q := by
  refine az_body (by decide +kernel) (Nat.le_of_ble_eq_true rfl) ?_
  show az_Ev X _ mX8_n 0 [some (.inr 391)] [] mem Q
  refine az_aloadn dX8_n_0 rfl ?_
  refine az_getr dX8_n_1 flX8_7 sh_391 rfl ?_
  refine az_iconst (v := 0) dX8_n_4 (by decide) ?_
  refine az_iald (0) dX8_n_5 sh_392 (by omega) (by decide) (by simp only [az_lit, nI_add, pk_mul, Nat.add_assoc]) ?_
  refine az_iret dX8_n_6 rfl ?_
  exact hQ
theorem t_X8_n (hn : mem 392 0 = nI N) (hQ : Q (some (.inl (nI N))) mem) : az_Sp X d mX8_n [.inr 391] mem Q := s_X8_n (by rw [hn]; exact hQ)
theorem s_X8_isPost {p : Int32} (hQ : Q (some (.inl (if 0 ≤ p ∧ p < mem 392 0 then 1 else 0))) mem) : az_Sp X (d + 1) mX8_isPost [.inr 391, .inl p] mem Q := by
  refine az_body (by decide +kernel) (Nat.le_of_ble_eq_true rfl) ?_
  show az_Ev X _ mX8_isPost 0 [some (.inr 391), some (.inl p)] [] mem Q
  refine az_iloadn dX8_isPost_0 rfl ?_
  refine az_iflt (t := 16) dX8_isPost_1 (by decide) (fun h1 => ?_) (fun h1 => ?_)
  · rw [if_neg (fun h => absurd h1 (Int32.not_lt.mpr h.1))] at hQ
    refine az_iconst (v := 0) dX8_isPost_16 (by decide) ?_
    refine az_zret dX8_isPost_17 rfl (by first | exact Or.inl rfl | exact Or.inr rfl | assumption) ?_
    exact hQ
  · have h1' : 0 ≤ p := Int32.not_lt.mp h1
    refine az_iloadn dX8_isPost_4 rfl ?_
    refine az_aloadn dX8_isPost_5 rfl ?_
    refine az_inv0 (N := mX8_n) dX8_isPost_6 lkX8_62 okX8_n sh_391 rfl (Nat.le_of_ble_eq_true rfl) ?_
    refine s_X8_n ?_
    try dsimp only [az_ps]
    refine az_icmpge (t := 16) dX8_isPost_9 (by decide) (fun h9 => ?_) (fun h9 => ?_)
    · rw [if_neg (fun h => absurd h9 (Int32.not_le.mpr h.2))] at hQ
      refine az_iconst (v := 0) dX8_isPost_16 (by decide) ?_
      refine az_zret dX8_isPost_17 rfl (by first | exact Or.inl rfl | exact Or.inr rfl | assumption) ?_
      exact hQ
    · rw [if_pos ⟨h1', Int32.not_le.mp h9⟩] at hQ
      refine az_iconst (v := 1) dX8_isPost_12 (by decide) ?_
      refine az_goto (t := 17) dX8_isPost_13 (by decide) ?_
      refine az_zret dX8_isPost_17 rfl (by first | exact Or.inl rfl | exact Or.inr rfl | assumption) ?_
      exact hQ
theorem s_X8_isSet {p : Int32} (hQ : Q (some (.inl (if 0 ≤ p ∧ p < (1 : Int32) <<< (mem 392 0 &&& 31) then 1 else 0))) mem) : az_Sp X (d + 1) mX8_isSet [.inr 391, .inl p] mem Q := by
  refine az_body (by decide +kernel) (Nat.le_of_ble_eq_true rfl) ?_
  show az_Ev X _ mX8_isSet 0 [some (.inr 391), some (.inl p)] [] mem Q
  refine az_iloadn dX8_isSet_0 rfl ?_
  refine az_iflt (t := 18) dX8_isSet_1 (by decide) (fun h1 => ?_) (fun h1 => ?_)
  · rw [if_neg (fun h => absurd h1 (Int32.not_lt.mpr h.1))] at hQ
    refine az_iconst (v := 0) dX8_isSet_18 (by decide) ?_
    refine az_zret dX8_isSet_19 rfl (by first | exact Or.inl rfl | exact Or.inr rfl | assumption) ?_
    exact hQ
  · have h1' : 0 ≤ p := Int32.not_lt.mp h1
    refine az_iloadn dX8_isSet_4 rfl ?_
    refine az_iconst (v := 1) dX8_isSet_5 (by decide) ?_
    refine az_aloadn dX8_isSet_6 rfl ?_
    refine az_inv0 (N := mX8_n) dX8_isSet_7 lkX8_62 okX8_n sh_391 rfl (Nat.le_of_ble_eq_true rfl) ?_
    refine s_X8_n ?_
    try dsimp only [az_ps]
    refine az_ishl dX8_isSet_10 ?_
    refine az_icmpge (t := 18) dX8_isSet_11 (by decide) (fun h11 => ?_) (fun h11 => ?_)
    · rw [if_neg (fun h => absurd h11 (Int32.not_le.mpr h.2))] at hQ
      refine az_iconst (v := 0) dX8_isSet_18 (by decide) ?_
      refine az_zret dX8_isSet_19 rfl (by first | exact Or.inl rfl | exact Or.inr rfl | assumption) ?_
      exact hQ
    · rw [if_pos ⟨h1', Int32.not_le.mp h11⟩] at hQ
      refine az_iconst (v := 1) dX8_isSet_14 (by decide) ?_
      refine az_goto (t := 19) dX8_isSet_15 (by decide) ?_
      refine az_zret dX8_isSet_19 rfl (by first | exact Or.inl rfl | exact Or.inr rfl | assumption) ?_
      exact hQ
theorem s_X8_many {x : Int32} (hQ : Q (some (.inl (zm_many x))) mem) : az_Sp X d mX8_many [.inl x] mem Q := by
  refine az_body (by decide +kernel) (Nat.le_of_ble_eq_true rfl) ?_
  show az_Ev X _ mX8_many 0 [some (.inl x), none, none] [] mem Q
  refine az_iconst (v := 0) dX8_many_0 (by decide) ?_
  refine az_istoren dX8_many_1 (by decide) ?_
  dsimp only [List.set]
  refine az_iconst (v := 0) dX8_many_2 (by decide) ?_
  refine az_istoren dX8_many_3 (by decide) ?_
  dsimp only [List.set]
  skip
  refine az_up (fun i => az_Ev X d mX8_many 4 [some (.inl x), some (.inl (zm_sum (fun k => (x >>> (nI k &&& 31)) &&& 1) i)), some (.inl (nI i))] [] mem Q) 16 0 (by omega) (fun i _ hi ih => ?_) ?_
  · refine az_iloadn dX8_many_4 rfl ?_
    refine az_bipush (v := 16) dX8_many_5 (by decide) ?_
    refine az_icmpge (t := 24) dX8_many_7 (by decide) (fun h7 => ?_) (fun h7 => ?_)
    · exact absurd h7 (nI_ge (b := 16) hi (by decide))
    refine az_iloadn dX8_many_10 rfl ?_
    refine az_iloadn dX8_many_11 rfl ?_
    refine az_iloadn dX8_many_12 rfl ?_
    refine az_ishr dX8_many_13 ?_
    refine az_iconst (v := 1) dX8_many_14 (by decide) ?_
    refine az_iand dX8_many_15 ?_
    refine az_iadd dX8_many_16 ?_
    refine az_istoren dX8_many_17 (by decide) ?_
    dsimp only [List.set]
    refine az_iinc (w := 1) dX8_many_18 rfl (by decide) (by decide) ?_
    dsimp only [List.set]
    refine az_goto (t := 4) dX8_many_21 (by decide) ?_
    rw [nI_1]; exact ih
  · refine az_iloadn dX8_many_4 rfl ?_
    refine az_bipush (v := 16) dX8_many_5 (by decide) ?_
    refine az_icmpge (t := 24) dX8_many_7 (by decide) (fun h7 => ?_) (fun h7 => ?_)
    rotate_left 1
    · exact absurd (Int32.le_refl _) h7
    refine az_iloadn dX8_many_24 rfl ?_
    refine az_iret dX8_many_25 rfl ?_
    exact hQ
theorem s_X8_length {a b : Nat} (ha : a < 16) (hb : b < 16) (hQ : Q (some (.inl (zm_len (mem 392) (16 * a + b)))) mem) : az_Sp X d mX8_length [.inr 391, .inl (nI a), .inl (nI b)] mem Q := by
  refine az_body (by decide +kernel) (Nat.le_of_ble_eq_true rfl) ?_
  show az_Ev X _ mX8_length 0 [some (.inr 391), some (.inl (nI a)), some (.inl (nI b))] [] mem Q
  refine az_aloadn dX8_length_0 rfl ?_
  refine az_getr dX8_length_1 flX8_7 sh_391 rfl ?_
  refine az_bipush (v := 7) dX8_length_4 (by decide) ?_
  refine az_bipush (v := 16) dX8_length_6 (by decide) ?_
  refine az_iloadn dX8_length_8 rfl ?_
  refine az_imul dX8_length_9 ?_
  refine az_iadd dX8_length_10 ?_
  refine az_iloadn dX8_length_11 rfl ?_
  refine az_iadd dX8_length_12 ?_
  refine az_iald (7 + (16 * a + b)) dX8_length_13 sh_392 (by omega) (by decide) (by simp only [az_lit, nI_add, pk_mul, Nat.add_assoc]) ?_
  refine az_iret dX8_length_14 rfl ?_
  exact hQ
theorem s_X8_lay {a b : Nat} {v : Int32} (ha : a < 16) (hb : b < 16) (hQ : Q none (az_w (az_w mem 392 (7 + (16 * a + b)) v) 392 (7 + (16 * b + a)) v)) : az_Sp X d mX8_lay [.inr 391, .inl (nI a), .inl (nI b), .inl v] mem Q := by
  refine az_body (by decide +kernel) (Nat.le_of_ble_eq_true rfl) ?_
  show az_Ev X _ mX8_lay 0 [some (.inr 391), some (.inl (nI a)), some (.inl (nI b)), some (.inl v)] [] mem Q
  refine az_aloadn dX8_lay_0 rfl ?_
  refine az_getr dX8_lay_1 flX8_7 sh_391 rfl ?_
  refine az_bipush (v := 7) dX8_lay_4 (by decide) ?_
  refine az_bipush (v := 16) dX8_lay_6 (by decide) ?_
  refine az_iloadn dX8_lay_8 rfl ?_
  refine az_imul dX8_lay_9 ?_
  refine az_iadd dX8_lay_10 ?_
  refine az_iloadn dX8_lay_11 rfl ?_
  refine az_iadd dX8_lay_12 ?_
  refine az_iloadn dX8_lay_13 rfl ?_
  refine az_iast (7 + (16 * a + b)) dX8_lay_14 sh_392 (by omega) (by decide) (by simp only [az_lit, nI_add, pk_mul, Nat.add_assoc]) ?_
  refine az_aloadn dX8_lay_15 rfl ?_
  refine az_getr dX8_lay_16 flX8_7 sh_391 rfl ?_
  refine az_bipush (v := 7) dX8_lay_19 (by decide) ?_
  refine az_bipush (v := 16) dX8_lay_21 (by decide) ?_
  refine az_iloadn dX8_lay_23 rfl ?_
  refine az_imul dX8_lay_24 ?_
  refine az_iadd dX8_lay_25 ?_
  refine az_iloadn dX8_lay_26 rfl ?_
  refine az_iadd dX8_lay_27 ?_
  refine az_iloadn dX8_lay_28 rfl ?_
  refine az_iast (7 + (16 * b + a)) dX8_lay_29 sh_392 (by omega) (by decide) (by simp only [az_lit, nI_add, pk_mul, Nat.add_assoc]) ?_
  refine az_vret dX8_lay_30 rfl ?_
  exact hQ
theorem s_X8_first {p : Nat} (hp : p < 16) (hQ : Q none (az_w (az_w mem 392 (279 + p) 1) 392 (295 + p) 1)) : az_Sp X d mX8_first [.inr 391, .inl (nI p)] mem Q := by
  refine az_body (by decide +kernel) (Nat.le_of_ble_eq_true rfl) ?_
  show az_Ev X _ mX8_first 0 [some (.inr 391), some (.inl (nI p))] [] mem Q
  refine az_aloadn dX8_first_0 rfl ?_
  refine az_getr dX8_first_1 flX8_7 sh_391 rfl ?_
  refine az_sipush (v := 279) dX8_first_4 (by decide) ?_
  refine az_iloadn dX8_first_7 rfl ?_
  refine az_iadd dX8_first_8 ?_
  refine az_iconst (v := 1) dX8_first_9 (by decide) ?_
  refine az_iast (279 + p) dX8_first_10 sh_392 (by omega) (by decide) (by simp only [az_lit, nI_add, pk_mul, Nat.add_assoc]) ?_
  refine az_aloadn dX8_first_11 rfl ?_
  refine az_getr dX8_first_12 flX8_7 sh_391 rfl ?_
  refine az_sipush (v := 295) dX8_first_15 (by decide) ?_
  refine az_iloadn dX8_first_18 rfl ?_
  refine az_iadd dX8_first_19 ?_
  refine az_iconst (v := 1) dX8_first_20 (by decide) ?_
  refine az_iast (295 + p) dX8_first_21 sh_392 (by omega) (by decide) (by simp only [az_lit, nI_add, pk_mul, Nat.add_assoc]) ?_
  refine az_vret dX8_first_22 rfl ?_
  exact hQ
theorem s_X8_need (hQ : Q (some (.inl (zm_need (mem 392 3) (mem 392 4)))) mem) : az_Sp X d mX8_need [.inr 391] mem Q := by
  unfold zm_need at hQ
  refine az_body (by decide +kernel) (Nat.le_of_ble_eq_true rfl) ?_
  show az_Ev X _ mX8_need 0 [some (.inr 391)] [] mem Q
  refine az_iconst (v := 1) dX8_need_0 (by decide) ?_
  refine az_aloadn dX8_need_1 rfl ?_
  refine az_getr dX8_need_2 flX8_7 sh_391 rfl ?_
  refine az_iconst (v := 4) dX8_need_5 (by decide) ?_
  refine az_iald (4) dX8_need_6 sh_392 (by omega) (by decide) (by simp only [az_lit, nI_add, pk_mul, Nat.add_assoc]) ?_
  refine az_iconst (v := 1) dX8_need_7 (by decide) ?_
  refine az_icmpne (t := 15) dX8_need_8 (by decide) (fun h8 => ?_) (fun h8 => ?_)
  · rw [if_neg h8] at hQ
    refine az_iconst (v := 1) dX8_need_15 (by decide) ?_
    refine az_aloadn dX8_need_16 rfl ?_
    refine az_getr dX8_need_17 flX8_7 sh_391 rfl ?_
    refine az_iconst (v := 3) dX8_need_20 (by decide) ?_
    refine az_iald (3) dX8_need_21 sh_392 (by omega) (by decide) (by simp only [az_lit, nI_add, pk_mul, Nat.add_assoc]) ?_
    refine az_imul dX8_need_22 ?_
    refine az_iadd dX8_need_23 ?_
    refine az_iret dX8_need_24 rfl ?_
    exact hQ
  · rw [if_pos h8] at hQ
    refine az_iconst (v := 2) dX8_need_11 (by decide) ?_
    refine az_goto (t := 16) dX8_need_12 (by decide) ?_
    refine az_aloadn dX8_need_16 rfl ?_
    refine az_getr dX8_need_17 flX8_7 sh_391 rfl ?_
    refine az_iconst (v := 3) dX8_need_20 (by decide) ?_
    refine az_iald (3) dX8_need_21 sh_392 (by omega) (by decide) (by simp only [az_lit, nI_add, pk_mul, Nat.add_assoc]) ?_
    refine az_imul dX8_need_22 ?_
    refine az_iadd dX8_need_23 ?_
    refine az_iret dX8_need_24 rfl ?_
    exact hQ
theorem s_X8_answerOf {a b : Nat} (ha : a < 16) (hb : b < 16) (hQ : Q (some (.inl (mem 396 (16 * a + b)))) mem) : az_Sp X d mX8_answerOf [.inr 391, .inl (nI a), .inl (nI b)] mem Q := by
  refine az_body (by decide +kernel) (Nat.le_of_ble_eq_true rfl) ?_
  show az_Ev X _ mX8_answerOf 0 [some (.inr 391), some (.inl (nI a)), some (.inl (nI b))] [] mem Q
  refine az_aloadn dX8_answerOf_0 rfl ?_
  refine az_getr dX8_answerOf_1 flX8_23 sh_391 rfl ?_
  refine az_bipush (v := 16) dX8_answerOf_4 (by decide) ?_
  refine az_iloadn dX8_answerOf_6 rfl ?_
  refine az_imul dX8_answerOf_7 ?_
  refine az_iloadn dX8_answerOf_8 rfl ?_
  refine az_iadd dX8_answerOf_9 ?_
  refine az_iald (16 * a + b) dX8_answerOf_10 sh_396 (by omega) (by decide) (by simp only [az_lit, nI_add, pk_mul, Nat.add_assoc]) ?_
  refine az_iret dX8_answerOf_11 rfl ?_
  exact hQ
theorem s_X8_isParting {m a b : Nat} (hm : m < 16) (ha : a < 16) (hb : b < 16) (hQ : Q (some (.inl (if zm_pf (mem 396) a b m = true then 1 else 0))) mem) : az_Sp X (d + 1) mX8_isParting [.inr 391, .inl (nI m), .inl (nI a), .inl (nI b)] mem Q := by
  refine az_body (by decide +kernel) (Nat.le_of_ble_eq_true rfl) ?_
  show az_Ev X _ mX8_isParting 0 [some (.inr 391), some (.inl (nI m)), some (.inl (nI a)), some (.inl (nI b))] [] mem Q
  refine az_aloadn dX8_isParting_0 rfl ?_
  refine az_iloadn dX8_isParting_1 rfl ?_
  refine az_iloadn dX8_isParting_2 rfl ?_
  refine az_inv2 (N := mX8_answerOf) dX8_isParting_3 lkX8_105 okX8_answerOf sh_391 rfl (Nat.le_of_ble_eq_true rfl) ?_
  refine s_X8_answerOf (by omega) (by omega) ?_
  try dsimp only [az_ps]
  refine az_aloadn dX8_isParting_6 rfl ?_
  refine az_iloadn dX8_isParting_7 rfl ?_
  refine az_iloadn dX8_isParting_8 rfl ?_
  refine az_inv2 (N := mX8_answerOf) dX8_isParting_9 lkX8_105 okX8_answerOf sh_391 rfl (Nat.le_of_ble_eq_true rfl) ?_
  refine s_X8_answerOf (by omega) (by omega) ?_
  try dsimp only [az_ps]
  refine az_icmpeq (t := 19) dX8_isParting_12 (by decide) (fun h12 => ?_) (fun h12 => ?_)
  · rw [if_neg (by simp [zm_pf, h12])] at hQ
    refine az_iconst (v := 0) dX8_isParting_19 (by decide) ?_
    refine az_zret dX8_isParting_20 rfl (by first | exact Or.inl rfl | exact Or.inr rfl | assumption) ?_
    exact hQ
  · rw [if_pos (by simp [zm_pf, h12])] at hQ
    refine az_iconst (v := 1) dX8_isParting_15 (by decide) ?_
    refine az_goto (t := 20) dX8_isParting_16 (by decide) ?_
    refine az_zret dX8_isParting_20 rfl (by first | exact Or.inl rfl | exact Or.inr rfl | assumption) ?_
    exact hQ
theorem s_X8_parting {a b : Nat} (hn : mem 392 0 = nI N) (hN : N ≤ 16) (ha : a < 16) (hb : b < 16) (hQ : Q (some (.inl (zm_mask (zm_pf (mem 396) a b) N))) mem) : az_Sp X (d + 2) mX8_parting [.inr 391, .inl (nI a), .inl (nI b)] mem Q := by
  refine az_body (by decide +kernel) (Nat.le_of_ble_eq_true rfl) ?_
  show az_Ev X _ mX8_parting 0 [some (.inr 391), some (.inl (nI a)), some (.inl (nI b)), none, none] [] mem Q
  refine az_iconst (v := 0) dX8_parting_0 (by decide) ?_
  refine az_istoren dX8_parting_1 (by decide) ?_
  dsimp only [List.set]
  refine az_iconst (v := 0) dX8_parting_2 (by decide) ?_
  refine az_istore dX8_parting_3 (by decide) ?_
  dsimp only [List.set]
  skip
  refine az_up (fun i => az_Ev X (d + 2) mX8_parting 5 [some (.inr 391), some (.inl (nI a)), some (.inl (nI b)), some (.inl (zm_mask (zm_pf (mem 396) a b) i)), some (.inl (nI i))] [] mem Q) N 0 (by omega) (fun i _ hi ih => ?_) ?_
  · refine az_iload dX8_parting_5 rfl ?_
    refine az_aloadn dX8_parting_7 rfl ?_
    refine az_inv0 (N := mX8_n) dX8_parting_8 lkX8_62 okX8_n sh_391 rfl (Nat.le_of_ble_eq_true rfl) ?_
    refine t_X8_n hn ?_
    try dsimp only [az_ps]
    refine az_icmpge (t := 42) dX8_parting_11 (by decide) (fun h11 => ?_) (fun h11 => ?_)
    · exact absurd h11 (nI_ge (by omega) (by omega))
    refine az_iloadn dX8_parting_14 rfl ?_
    refine az_aloadn dX8_parting_15 rfl ?_
    refine az_iload dX8_parting_16 rfl ?_
    refine az_iloadn dX8_parting_18 rfl ?_
    refine az_iloadn dX8_parting_19 rfl ?_
    refine az_inv3 (N := mX8_isParting) dX8_parting_20 lkX8_108 okX8_isParting sh_391 rfl (Nat.le_of_ble_eq_true rfl) ?_
    refine s_X8_isParting (by omega) (by omega) (by omega) ?_
    try dsimp only [az_ps]
    refine az_ifeq (t := 33) dX8_parting_23 (by decide) (fun h23 => ?_) (fun h23 => ?_)
    · replace h23 := zb_z h23
      rw [zm_mask_f (by simpa using h23)] at ih
      refine az_iconst (v := 0) dX8_parting_33 (by decide) ?_
      refine az_ior dX8_parting_34 ?_
      refine az_istoren dX8_parting_35 (by decide) ?_
      dsimp only [List.set]
      refine az_iinc (w := 1) dX8_parting_36 rfl (by decide) (by decide) ?_
      dsimp only [List.set]
      refine az_goto (t := 5) dX8_parting_39 (by decide) ?_
      rw [nI_1]; exact ih
    · replace h23 := zb_n h23
      rw [zm_mask_t (by simpa using h23)] at ih
      refine az_iconst (v := 1) dX8_parting_26 (by decide) ?_
      refine az_iload dX8_parting_27 rfl ?_
      refine az_ishl dX8_parting_29 ?_
      refine az_goto (t := 34) dX8_parting_30 (by decide) ?_
      refine az_ior dX8_parting_34 ?_
      refine az_istoren dX8_parting_35 (by decide) ?_
      dsimp only [List.set]
      refine az_iinc (w := 1) dX8_parting_36 rfl (by decide) (by decide) ?_
      dsimp only [List.set]
      refine az_goto (t := 5) dX8_parting_39 (by decide) ?_
      rw [nI_1]; exact ih
  · refine az_iload dX8_parting_5 rfl ?_
    refine az_aloadn dX8_parting_7 rfl ?_
    refine az_inv0 (N := mX8_n) dX8_parting_8 lkX8_62 okX8_n sh_391 rfl (Nat.le_of_ble_eq_true rfl) ?_
    refine t_X8_n hn ?_
    try dsimp only [az_ps]
    refine az_icmpge (t := 42) dX8_parting_11 (by decide) (fun h11 => ?_) (fun h11 => ?_)
    rotate_left 1
    · exact absurd (Int32.le_refl _) h11
    refine az_iloadn dX8_parting_42 rfl ?_
    refine az_iret dX8_parting_43 rfl ?_
    exact hQ
theorem s_X8_areTwins {a b : Nat} (hn : mem 392 0 = nI N) (hN : N ≤ 16) (ha : a < 16) (hb : b < 16) (hQ : Q (some (.inl (if zm_mask (zm_pf (mem 396) a b) N = 0 then 1 else 0))) mem) : az_Sp X (d + 3) mX8_areTwins [.inr 391, .inl (nI a), .inl (nI b)] mem Q := by
  refine az_body (by decide +kernel) (Nat.le_of_ble_eq_true rfl) ?_
  show az_Ev X _ mX8_areTwins 0 [some (.inr 391), some (.inl (nI a)), some (.inl (nI b))] [] mem Q
  refine az_aloadn dX8_areTwins_0 rfl ?_
  refine az_iloadn dX8_areTwins_1 rfl ?_
  refine az_iloadn dX8_areTwins_2 rfl ?_
  refine az_inv2 (N := mX8_parting) dX8_areTwins_3 lkX8_111 okX8_parting sh_391 rfl (Nat.le_of_ble_eq_true rfl) ?_
  refine s_X8_parting hn hN ha hb ?_
  try dsimp only [az_ps]
  refine az_ifne (t := 13) dX8_areTwins_6 (by decide) (fun h6 => ?_) (fun h6 => ?_)
  · rw [if_neg h6] at hQ
    refine az_iconst (v := 0) dX8_areTwins_13 (by decide) ?_
    refine az_zret dX8_areTwins_14 rfl (by first | exact Or.inl rfl | exact Or.inr rfl | assumption) ?_
    exact hQ
  · rw [if_pos h6] at hQ
    refine az_iconst (v := 1) dX8_areTwins_9 (by decide) ?_
    refine az_goto (t := 14) dX8_areTwins_10 (by decide) ?_
    refine az_zret dX8_areTwins_14 rfl (by first | exact Or.inl rfl | exact Or.inr rfl | assumption) ?_
    exact hQ
theorem s_X8_isYes {m p : Nat} (hm : m < 16) (hp : p < 16) (hQ : Q (some (.inl (if zm_yf (mem 392 1) (mem 396) p m = true then 1 else 0))) mem) : az_Sp X (d + 1) mX8_isYes [.inr 391, .inl (nI m), .inl (nI p)] mem Q := by
  refine az_body (by decide +kernel) (Nat.le_of_ble_eq_true rfl) ?_
  show az_Ev X _ mX8_isYes 0 [some (.inr 391), some (.inl (nI m)), some (.inl (nI p))] [] mem Q
  refine az_aloadn dX8_isYes_0 rfl ?_
  refine az_getr dX8_isYes_1 flX8_7 sh_391 rfl ?_
  refine az_iconst (v := 1) dX8_isYes_4 (by decide) ?_
  refine az_iald (1) dX8_isYes_5 sh_392 (by omega) (by decide) (by simp only [az_lit, nI_add, pk_mul, Nat.add_assoc]) ?_
  refine az_ifne (t := 28) dX8_isYes_6 (by decide) (fun h6 => ?_) (fun h6 => ?_)
  · refine az_aloadn dX8_isYes_28 rfl ?_
    refine az_iloadn dX8_isYes_29 rfl ?_
    refine az_iloadn dX8_isYes_30 rfl ?_
    refine az_inv2 (N := mX8_answerOf) dX8_isYes_31 lkX8_105 okX8_answerOf sh_391 rfl (Nat.le_of_ble_eq_true rfl) ?_
    refine s_X8_answerOf (by omega) (by omega) ?_
    try dsimp only [az_ps]
    refine az_ifeq (t := 41) dX8_isYes_34 (by decide) (fun h34 => ?_) (fun h34 => ?_)
    · rw [if_neg (by simp [zm_yf, h6, h34])] at hQ
      refine az_iconst (v := 0) dX8_isYes_41 (by decide) ?_
      refine az_zret dX8_isYes_42 rfl (by first | exact Or.inl rfl | exact Or.inr rfl | assumption) ?_
      exact hQ
    · rw [if_pos (by simp [zm_yf, h6, h34])] at hQ
      refine az_iconst (v := 1) dX8_isYes_37 (by decide) ?_
      refine az_goto (t := 42) dX8_isYes_38 (by decide) ?_
      refine az_zret dX8_isYes_42 rfl (by first | exact Or.inl rfl | exact Or.inr rfl | assumption) ?_
      exact hQ
  · refine az_aloadn dX8_isYes_9 rfl ?_
    refine az_iloadn dX8_isYes_10 rfl ?_
    refine az_iloadn dX8_isYes_11 rfl ?_
    refine az_inv2 (N := mX8_answerOf) dX8_isYes_12 lkX8_105 okX8_answerOf sh_391 rfl (Nat.le_of_ble_eq_true rfl) ?_
    refine s_X8_answerOf (by omega) (by omega) ?_
    try dsimp only [az_ps]
    refine az_ldc dX8_isYes_15 kcX8_74 ?_
    refine az_icmpeq (t := 24) dX8_isYes_17 (by decide) (fun h17 => ?_) (fun h17 => ?_)
    · rw [if_neg (by simp [zm_yf, h6, h17])] at hQ
      refine az_iconst (v := 0) dX8_isYes_24 (by decide) ?_
      refine az_goto (t := 42) dX8_isYes_25 (by decide) ?_
      refine az_zret dX8_isYes_42 rfl (by first | exact Or.inl rfl | exact Or.inr rfl | assumption) ?_
      exact hQ
    · rw [if_pos (by simp [zm_yf, h6, h17])] at hQ
      refine az_iconst (v := 1) dX8_isYes_20 (by decide) ?_
      refine az_goto (t := 42) dX8_isYes_21 (by decide) ?_
      refine az_zret dX8_isYes_42 rfl (by first | exact Or.inl rfl | exact Or.inr rfl | assumption) ?_
      exact hQ
theorem s_X8_yes {p : Nat} (hn : mem 392 0 = nI N) (hN : N ≤ 16) (hp : p < 16) (hQ : Q (some (.inl (zm_mask (zm_yf (mem 392 1) (mem 396) p) N))) mem) : az_Sp X (d + 2) mX8_yes [.inr 391, .inl (nI p)] mem Q := by
  refine az_body (by decide +kernel) (Nat.le_of_ble_eq_true rfl) ?_
  show az_Ev X _ mX8_yes 0 [some (.inr 391), some (.inl (nI p)), none, none] [] mem Q
  refine az_iconst (v := 0) dX8_yes_0 (by decide) ?_
  refine az_istoren dX8_yes_1 (by decide) ?_
  dsimp only [List.set]
  refine az_iconst (v := 0) dX8_yes_2 (by decide) ?_
  refine az_istoren dX8_yes_3 (by decide) ?_
  dsimp only [List.set]
  skip
  refine az_up (fun i => az_Ev X (d + 2) mX8_yes 4 [some (.inr 391), some (.inl (nI p)), some (.inl (zm_mask (zm_yf (mem 392 1) (mem 396) p) i)), some (.inl (nI i))] [] mem Q) N 0 (by omega) (fun i _ hi ih => ?_) ?_
  · refine az_iloadn dX8_yes_4 rfl ?_
    refine az_aloadn dX8_yes_5 rfl ?_
    refine az_inv0 (N := mX8_n) dX8_yes_6 lkX8_62 okX8_n sh_391 rfl (Nat.le_of_ble_eq_true rfl) ?_
    refine t_X8_n hn ?_
    try dsimp only [az_ps]
    refine az_icmpge (t := 37) dX8_yes_9 (by decide) (fun h9 => ?_) (fun h9 => ?_)
    · exact absurd h9 (nI_ge (by omega) (by omega))
    refine az_iloadn dX8_yes_12 rfl ?_
    refine az_aloadn dX8_yes_13 rfl ?_
    refine az_iloadn dX8_yes_14 rfl ?_
    refine az_iloadn dX8_yes_15 rfl ?_
    refine az_inv2 (N := mX8_isYes) dX8_yes_16 lkX8_114 okX8_isYes sh_391 rfl (Nat.le_of_ble_eq_true rfl) ?_
    refine s_X8_isYes (by omega) (by omega) ?_
    try dsimp only [az_ps]
    refine az_ifeq (t := 28) dX8_yes_19 (by decide) (fun h19 => ?_) (fun h19 => ?_)
    · replace h19 := zb_z h19
      rw [zm_mask_f (by simpa using h19)] at ih
      refine az_iconst (v := 0) dX8_yes_28 (by decide) ?_
      refine az_ior dX8_yes_29 ?_
      refine az_istoren dX8_yes_30 (by decide) ?_
      dsimp only [List.set]
      refine az_iinc (w := 1) dX8_yes_31 rfl (by decide) (by decide) ?_
      dsimp only [List.set]
      refine az_goto (t := 4) dX8_yes_34 (by decide) ?_
      rw [nI_1]; exact ih
    · replace h19 := zb_n h19
      rw [zm_mask_t (by simpa using h19)] at ih
      refine az_iconst (v := 1) dX8_yes_22 (by decide) ?_
      refine az_iloadn dX8_yes_23 rfl ?_
      refine az_ishl dX8_yes_24 ?_
      refine az_goto (t := 29) dX8_yes_25 (by decide) ?_
      refine az_ior dX8_yes_29 ?_
      refine az_istoren dX8_yes_30 (by decide) ?_
      dsimp only [List.set]
      refine az_iinc (w := 1) dX8_yes_31 rfl (by decide) (by decide) ?_
      dsimp only [List.set]
      refine az_goto (t := 4) dX8_yes_34 (by decide) ?_
      rw [nI_1]; exact ih
  · refine az_iloadn dX8_yes_4 rfl ?_
    refine az_aloadn dX8_yes_5 rfl ?_
    refine az_inv0 (N := mX8_n) dX8_yes_6 lkX8_62 okX8_n sh_391 rfl (Nat.le_of_ble_eq_true rfl) ?_
    refine t_X8_n hn ?_
    try dsimp only [az_ps]
    refine az_icmpge (t := 37) dX8_yes_9 (by decide) (fun h9 => ?_) (fun h9 => ?_)
    rotate_left 1
    · exact absurd (Int32.le_refl _) h9
    refine az_iloadn dX8_yes_37 rfl ?_
    refine az_iret dX8_yes_38 rfl ?_
    exact hQ
theorem s_X8_besideBits {p : Nat} (hn : mem 392 0 = nI N) (hN : N ≤ 16) (hp : p < 16) (hQ : Q (some (.inl (zm_mask (zm_bf (zm_len (mem 392)) p) N))) mem) : az_Sp X (d + 1) mX8_besideBits [.inr 391, .inl (nI p)] mem Q := by
  refine az_body (by decide +kernel) (Nat.le_of_ble_eq_true rfl) ?_
  show az_Ev X _ mX8_besideBits 0 [some (.inr 391), some (.inl (nI p)), none, none] [] mem Q
  refine az_iconst (v := 0) dX8_besideBits_0 (by decide) ?_
  refine az_istoren dX8_besideBits_1 (by decide) ?_
  dsimp only [List.set]
  refine az_iconst (v := 0) dX8_besideBits_2 (by decide) ?_
  refine az_istoren dX8_besideBits_3 (by decide) ?_
  dsimp only [List.set]
  skip
  refine az_up (fun i => az_Ev X (d + 1) mX8_besideBits 4 [some (.inr 391), some (.inl (nI p)), some (.inl (zm_mask (zm_bf (zm_len (mem 392)) p) i)), some (.inl (nI i))] [] mem Q) N 0 (by omega) (fun i _ hi ih => ?_) ?_
  · refine az_iloadn dX8_besideBits_4 rfl ?_
    refine az_aloadn dX8_besideBits_5 rfl ?_
    refine az_inv0 (N := mX8_n) dX8_besideBits_6 lkX8_62 okX8_n sh_391 rfl (Nat.le_of_ble_eq_true rfl) ?_
    refine t_X8_n hn ?_
    try dsimp only [az_ps]
    refine az_icmpge (t := 37) dX8_besideBits_9 (by decide) (fun h9 => ?_) (fun h9 => ?_)
    · exact absurd h9 (nI_ge (by omega) (by omega))
    refine az_iloadn dX8_besideBits_12 rfl ?_
    refine az_aloadn dX8_besideBits_13 rfl ?_
    refine az_iloadn dX8_besideBits_14 rfl ?_
    refine az_iloadn dX8_besideBits_15 rfl ?_
    refine az_inv2 (N := mX8_length) dX8_besideBits_16 lkX8_70 okX8_length sh_391 rfl (Nat.le_of_ble_eq_true rfl) ?_
    refine s_X8_length (by omega) (by omega) ?_
    try dsimp only [az_ps]
    refine az_ifle (t := 28) dX8_besideBits_19 (by decide) (fun h19 => ?_) (fun h19 => ?_)
    · rw [zm_mask_f (by simpa [zm_bf] using h19)] at ih
      refine az_iconst (v := 0) dX8_besideBits_28 (by decide) ?_
      refine az_ior dX8_besideBits_29 ?_
      refine az_istoren dX8_besideBits_30 (by decide) ?_
      dsimp only [List.set]
      refine az_iinc (w := 1) dX8_besideBits_31 rfl (by decide) (by decide) ?_
      dsimp only [List.set]
      refine az_goto (t := 4) dX8_besideBits_34 (by decide) ?_
      rw [nI_1]; exact ih
    · rw [zm_mask_t (by simpa [zm_bf] using h19)] at ih
      refine az_iconst (v := 1) dX8_besideBits_22 (by decide) ?_
      refine az_iloadn dX8_besideBits_23 rfl ?_
      refine az_ishl dX8_besideBits_24 ?_
      refine az_goto (t := 29) dX8_besideBits_25 (by decide) ?_
      refine az_ior dX8_besideBits_29 ?_
      refine az_istoren dX8_besideBits_30 (by decide) ?_
      dsimp only [List.set]
      refine az_iinc (w := 1) dX8_besideBits_31 rfl (by decide) (by decide) ?_
      dsimp only [List.set]
      refine az_goto (t := 4) dX8_besideBits_34 (by decide) ?_
      rw [nI_1]; exact ih
  · refine az_iloadn dX8_besideBits_4 rfl ?_
    refine az_aloadn dX8_besideBits_5 rfl ?_
    refine az_inv0 (N := mX8_n) dX8_besideBits_6 lkX8_62 okX8_n sh_391 rfl (Nat.le_of_ble_eq_true rfl) ?_
    refine t_X8_n hn ?_
    try dsimp only [az_ps]
    refine az_icmpge (t := 37) dX8_besideBits_9 (by decide) (fun h9 => ?_) (fun h9 => ?_)
    rotate_left 1
    · exact absurd (Int32.le_refl _) h9
    refine az_iloadn dX8_besideBits_37 rfl ?_
    refine az_iret dX8_besideBits_38 rfl ?_
    exact hQ
end MA
end
section
/-! the model's clashes, twins, words -/
def zl_lk (P : Nat → Int32) (x nd : Int32) (a b : Nat) : Bool := !decide (P (16 * a + b) = 0) && decide (zm_many (P (16 * a + b) &&& x) < nd)
def zl_ly (Y : Nat → Int32) (x nd : Int32) (p : Nat) : Bool := decide (zm_many (Y p &&& x) < nd)
def zl_clash (P Y : Nat → Int32) (yw : Int32) (N : Nat) (x nd : Int32) : Int32 := match zf_pr (zl_lk P x nd) N N 0 with
  | some ab => nI (16 * ab.1 + ab.2)
  | none => if yw = 1 then (match zf_in (zl_ly Y x nd) N 0 with
    | some p => nI (1000 + p)
    | none => -1) else -1
def zt_tw (an : Nat → Int32) (N a b : Nat) : Bool := decide (zm_mask (zm_pf an a b) N = 0)
def zw_ag (S an : Nat → Int32) (p m : Nat) : Bool := decide (S (311 + m) = 1) && !decide (S (327 + m) = an (16 * m + p))
def zw_fit (S an : Nat → Int32) (N p : Nat) : Bool := decide (zm_many (zm_mask (zw_ag S an p) N) ≤ if S 4 = 1 then S 3 else 0)
section MB
variable {X : az_X} {d : Nat} {mem : az_M} {Q : Option az_V → az_M → Prop} {N : Nat}
theorem s_X8_clashOf {x : Int32} (hn : mem 392 0 = nI N) (hN : N ≤ 16) (hQ : Q (some (.inl (zl_clash (mem 397) (mem 398) (mem 392 5) N x (zm_need (mem 392 3) (mem 392 4))))) mem) : az_Sp X (d + 1) mX8_clashOf [.inr 391, .inl x] mem Q := by
  refine az_body (by decide +kernel) (Nat.le_of_ble_eq_true rfl) ?_
  show az_Ev X _ mX8_clashOf 0 [some (.inr 391), some (.inl x), none, none, none, none] [] mem Q
  refine az_aloadn dX8_clashOf_0 rfl ?_
  refine az_inv0 (N := mX8_need) dX8_clashOf_1 lkX8_95 okX8_need sh_391 rfl (Nat.le_of_ble_eq_true rfl) ?_
  refine s_X8_need ?_
  try dsimp only [az_ps]
  refine az_istoren dX8_clashOf_4 (by decide) ?_
  dsimp only [List.set]
  refine az_iconst (v := 0) dX8_clashOf_5 (by decide) ?_
  refine az_istoren dX8_clashOf_6 (by decide) ?_
  dsimp only [List.set]
  skip
  generalize zm_need (mem 392 3) (mem 392 4) = nd at hQ ⊢
  refine az_up (fun i => zf_pr (zl_lk (mem 397) x nd) N (N - i) i = zf_pr (zl_lk (mem 397) x nd) N N 0 → ∀ L4 L5, az_Ev X (d + 1) mX8_clashOf 7 [some (.inr 391), some (.inl x), some (.inl nd), some (.inl (nI i)), L4, L5] [] mem Q) N 0 (by omega) (fun i _ hi ih he L4 L5 => ?_) (fun he L4 L5 => ?_) rfl none none
  · rw [zs_sub hi] at he
    refine az_iloadn dX8_clashOf_7 rfl ?_
    refine az_aloadn dX8_clashOf_8 rfl ?_
    refine az_inv0 (N := mX8_n) dX8_clashOf_9 lkX8_62 okX8_n sh_391 rfl (Nat.le_of_ble_eq_true rfl) ?_
    refine t_X8_n hn ?_
    try dsimp only [az_ps]
    refine az_icmpge (t := 79) dX8_clashOf_12 (by decide) (fun h12 => ?_) (fun h12 => ?_)
    · exact absurd h12 (nI_ge (by omega) (by omega))
    refine az_iloadn dX8_clashOf_15 rfl ?_
    refine az_iconst (v := 1) dX8_clashOf_16 (by decide) ?_
    refine az_iadd dX8_clashOf_17 ?_
    refine az_istore dX8_clashOf_18 (by decide) ?_
    dsimp only [List.set]
    rw [nI_1]
    refine az_up (fun j => zf_in (zl_lk (mem 397) x nd i) (N - j) j = zf_in (zl_lk (mem 397) x nd i) (N - (i + 1)) (i + 1) → ∀ L5, az_Ev X (d + 1) mX8_clashOf 20 [some (.inr 391), some (.inl x), some (.inl nd), some (.inl (nI i)), some (.inl (nI j)), L5] [] mem Q) N (i + 1) (by omega) (fun j hj1 hj ih2 he2 L5 => ?_) (fun he2 L5 => ?_) rfl L5
    · rw [zs_sub hj] at he2
      refine az_iload dX8_clashOf_20 rfl ?_
      refine az_aloadn dX8_clashOf_22 rfl ?_
      refine az_inv0 (N := mX8_n) dX8_clashOf_23 lkX8_62 okX8_n sh_391 rfl (Nat.le_of_ble_eq_true rfl) ?_
      refine t_X8_n hn ?_
      try dsimp only [az_ps]
      refine az_icmpge (t := 73) dX8_clashOf_26 (by decide) (fun h26 => ?_) (fun h26 => ?_)
      · exact absurd h26 (nI_ge (by omega) (by omega))
      refine az_aloadn dX8_clashOf_29 rfl ?_
      refine az_getr dX8_clashOf_30 flX8_26 sh_391 rfl ?_
      refine az_bipush (v := 16) dX8_clashOf_33 (by decide) ?_
      refine az_iloadn dX8_clashOf_35 rfl ?_
      refine az_imul dX8_clashOf_36 ?_
      refine az_iload dX8_clashOf_37 rfl ?_
      refine az_iadd dX8_clashOf_39 ?_
      refine az_iald (16 * i + j) dX8_clashOf_40 sh_397 (by omega) (by decide) (by simp only [az_lit, nI_add, pk_mul, Nat.add_assoc]) ?_
      refine az_istore dX8_clashOf_41 (by decide) ?_
      dsimp only [List.set]
      refine az_iload dX8_clashOf_43 rfl ?_
      refine az_ifeq (t := 67) dX8_clashOf_45 (by decide) (fun h45 => ?_) (fun h45 => ?_)
      · rw [zf_in_f (by simp [zl_lk, h45])] at he2
        refine az_iinc (w := 1) dX8_clashOf_67 rfl (by decide) (by decide) ?_
        dsimp only [List.set]
        refine az_goto (t := 20) dX8_clashOf_70 (by decide) ?_
        rw [nI_1]; exact ih2 he2 _
      · refine az_iload dX8_clashOf_48 rfl ?_
        refine az_iloadn dX8_clashOf_50 rfl ?_
        refine az_iand dX8_clashOf_51 ?_
        refine az_ins1 (N := mX8_many) dX8_clashOf_52 lsX8_102 okX8_many (Nat.le_of_ble_eq_true rfl) ?_
        refine s_X8_many ?_
        try dsimp only [az_ps]
        refine az_iloadn dX8_clashOf_55 rfl ?_
        refine az_icmpge (t := 67) dX8_clashOf_56 (by decide) (fun h56 => ?_) (fun h56 => ?_)
        · rw [zf_in_f (by simp [zl_lk, h45]; exact Int32.not_lt.mp (fun h => absurd h56 (Int32.not_le.mpr h)))] at he2
          refine az_iinc (w := 1) dX8_clashOf_67 rfl (by decide) (by decide) ?_
          dsimp only [List.set]
          refine az_goto (t := 20) dX8_clashOf_70 (by decide) ?_
          rw [nI_1]; exact ih2 he2 _
        · rw [zf_in_t (by simp [zl_lk, h45]; exact Int32.not_le.mp h56)] at he2
          rw [zf_pr_t he2.symm] at he
          unfold zl_clash at hQ
          rw [← he] at hQ
          refine az_bipush (v := 16) dX8_clashOf_59 (by decide) ?_
          refine az_iloadn dX8_clashOf_61 rfl ?_
          refine az_imul dX8_clashOf_62 ?_
          refine az_iload dX8_clashOf_63 rfl ?_
          refine az_iadd dX8_clashOf_65 ?_
          refine az_iret dX8_clashOf_66 rfl ?_
          simpa only [az_lit, nI_add, pk_mul] using hQ
    · rw [Nat.sub_self] at he2
      refine az_iload dX8_clashOf_20 rfl ?_
      refine az_aloadn dX8_clashOf_22 rfl ?_
      refine az_inv0 (N := mX8_n) dX8_clashOf_23 lkX8_62 okX8_n sh_391 rfl (Nat.le_of_ble_eq_true rfl) ?_
      refine t_X8_n hn ?_
      try dsimp only [az_ps]
      refine az_icmpge (t := 73) dX8_clashOf_26 (by decide) (fun h26 => ?_) (fun h26 => ?_)
      rotate_left 1
      · exact absurd (Int32.le_refl _) h26
      refine az_iinc (w := 1) dX8_clashOf_73 rfl (by decide) (by decide) ?_
      dsimp only [List.set]
      refine az_goto (t := 7) dX8_clashOf_76 (by decide) ?_
      rw [nI_1]; rw [zf_pr_f he2.symm] at he; exact ih he _ _
  · rw [Nat.sub_self] at he
    have he : zf_pr (zl_lk (mem 397) x nd) N N 0 = none := he.symm
    unfold zl_clash at hQ
    rw [he] at hQ
    dsimp only at hQ
    refine az_iloadn dX8_clashOf_7 rfl ?_
    refine az_aloadn dX8_clashOf_8 rfl ?_
    refine az_inv0 (N := mX8_n) dX8_clashOf_9 lkX8_62 okX8_n sh_391 rfl (Nat.le_of_ble_eq_true rfl) ?_
    refine t_X8_n hn ?_
    try dsimp only [az_ps]
    refine az_icmpge (t := 79) dX8_clashOf_12 (by decide) (fun h12 => ?_) (fun h12 => ?_)
    rotate_left 1
    · exact absurd (Int32.le_refl _) h12
    refine az_iconst (v := 0) dX8_clashOf_79 (by decide) ?_
    refine az_istoren dX8_clashOf_80 (by decide) ?_
    dsimp only [List.set]
    skip
    refine az_up (fun j => zf_in (zl_ly (mem 398) x nd) (N - j) j = zf_in (zl_ly (mem 398) x nd) N 0 → az_Ev X (d + 1) mX8_clashOf 81 [some (.inr 391), some (.inl x), some (.inl nd), some (.inl (nI j)), L4, L5] [] mem Q) N 0 (by omega) (fun j hj1 hj ih2 he2 => ?_) (fun he2 => ?_) rfl
    · rw [zs_sub hj] at he2
      refine az_iloadn dX8_clashOf_81 rfl ?_
      refine az_aloadn dX8_clashOf_82 rfl ?_
      refine az_inv0 (N := mX8_n) dX8_clashOf_83 lkX8_62 okX8_n sh_391 rfl (Nat.le_of_ble_eq_true rfl) ?_
      refine t_X8_n hn ?_
      try dsimp only [az_ps]
      refine az_icmpge (t := 126) dX8_clashOf_86 (by decide) (fun h86 => ?_) (fun h86 => ?_)
      · exact absurd h86 (nI_ge (by omega) (by omega))
      refine az_aloadn dX8_clashOf_89 rfl ?_
      refine az_getr dX8_clashOf_90 flX8_7 sh_391 rfl ?_
      refine az_iconst (v := 5) dX8_clashOf_93 (by decide) ?_
      refine az_iald (5) dX8_clashOf_94 sh_392 (by omega) (by decide) (by simp only [az_lit, nI_add, pk_mul, Nat.add_assoc]) ?_
      refine az_iconst (v := 1) dX8_clashOf_95 (by decide) ?_
      refine az_icmpne (t := 126) dX8_clashOf_96 (by decide) (fun h96 => ?_) (fun h96 => ?_)
      · rw [if_neg h96] at hQ
        refine az_iconst (v := -1) dX8_clashOf_126 (by decide) ?_
        refine az_iret dX8_clashOf_127 rfl ?_
        exact hQ
      · refine az_aloadn dX8_clashOf_99 rfl ?_
        refine az_getr dX8_clashOf_100 flX8_29 sh_391 rfl ?_
        refine az_iloadn dX8_clashOf_103 rfl ?_
        refine az_iald (j) dX8_clashOf_104 sh_398 (by omega) (by decide) (by simp only [az_lit, nI_add, pk_mul, Nat.add_assoc]) ?_
        refine az_iloadn dX8_clashOf_105 rfl ?_
        refine az_iand dX8_clashOf_106 ?_
        refine az_ins1 (N := mX8_many) dX8_clashOf_107 lsX8_102 okX8_many (Nat.le_of_ble_eq_true rfl) ?_
        refine s_X8_many ?_
        try dsimp only [az_ps]
        refine az_iloadn dX8_clashOf_110 rfl ?_
        refine az_icmpge (t := 120) dX8_clashOf_111 (by decide) (fun h111 => ?_) (fun h111 => ?_)
        · rw [zf_in_f (by simp [zl_ly]; exact Int32.not_lt.mp (fun h => absurd h111 (Int32.not_le.mpr h)))] at he2
          refine az_iinc (w := 1) dX8_clashOf_120 rfl (by decide) (by decide) ?_
          dsimp only [List.set]
          refine az_goto (t := 81) dX8_clashOf_123 (by decide) ?_
          rw [nI_1]; exact ih2 he2
        · rw [zf_in_t (by simp [zl_ly]; exact Int32.not_le.mp h111)] at he2
          rw [if_pos h96, ← he2] at hQ
          refine az_sipush (v := 1000) dX8_clashOf_114 (by decide) ?_
          refine az_iloadn dX8_clashOf_117 rfl ?_
          refine az_iadd dX8_clashOf_118 ?_
          refine az_iret dX8_clashOf_119 rfl ?_
          simpa only [az_lit, nI_add, pk_mul] using hQ
    · rw [Nat.sub_self] at he2
      have he2 : zf_in (zl_ly (mem 398) x nd) N 0 = none := he2.symm
      rw [he2] at hQ
      refine az_iloadn dX8_clashOf_81 rfl ?_
      refine az_aloadn dX8_clashOf_82 rfl ?_
      refine az_inv0 (N := mX8_n) dX8_clashOf_83 lkX8_62 okX8_n sh_391 rfl (Nat.le_of_ble_eq_true rfl) ?_
      refine t_X8_n hn ?_
      try dsimp only [az_ps]
      refine az_icmpge (t := 126) dX8_clashOf_86 (by decide) (fun h86 => ?_) (fun h86 => ?_)
      rotate_left 1
      · exact absurd (Int32.le_refl _) h86
      refine az_iconst (v := -1) dX8_clashOf_126 (by decide) ?_
      refine az_iret dX8_clashOf_127 rfl ?_
      by_cases hy : mem 392 5 = 1
      · rw [if_pos hy] at hQ; exact hQ
      · rw [if_neg hy] at hQ; exact hQ
theorem s_X8_twins {k : Int32} (hn : mem 392 0 = nI N) (hN : N ≤ 16) (hQ : Q (some (.inl (if k < 0 then -1 else zr_pr (zk_pr (zt_tw (mem 396) N) k N N 0 0)))) mem) : az_Sp X (d + 4) mX8_twins [.inr 391, .inl k] mem Q := by
  refine az_body (by decide +kernel) (Nat.le_of_ble_eq_true rfl) ?_
  show az_Ev X _ mX8_twins 0 [some (.inr 391), some (.inl k), none, none, none] [] mem Q
  refine az_iconst (v := 0) dX8_twins_0 (by decide) ?_
  refine az_istoren dX8_twins_1 (by decide) ?_
  dsimp only [List.set]
  refine az_iconst (v := 0) dX8_twins_2 (by decide) ?_
  refine az_istoren dX8_twins_3 (by decide) ?_
  dsimp only [List.set]
  skip
  refine az_up (fun i => ∀ c, zk_pr (zt_tw (mem 396) N) k N (N - i) i c = zk_pr (zt_tw (mem 396) N) k N N 0 0 → ∀ L4, az_Ev X (d + 4) mX8_twins 4 [some (.inr 391), some (.inl k), some (.inl c), some (.inl (nI i)), L4] [] mem Q) N 0 (by omega) (fun i _ hi ih c he L4 => ?_) (fun c he L4 => ?_) 0 rfl none
  · rw [zs_sub hi] at he
    refine az_iloadn dX8_twins_4 rfl ?_
    refine az_aloadn dX8_twins_5 rfl ?_
    refine az_inv0 (N := mX8_n) dX8_twins_6 lkX8_62 okX8_n sh_391 rfl (Nat.le_of_ble_eq_true rfl) ?_
    refine t_X8_n hn ?_
    try dsimp only [az_ps]
    refine az_icmpge (t := 71) dX8_twins_9 (by decide) (fun h9 => ?_) (fun h9 => ?_)
    · exact absurd h9 (nI_ge (by omega) (by omega))
    refine az_iloadn dX8_twins_12 rfl ?_
    refine az_iflt (t := 71) dX8_twins_13 (by decide) (fun h13 => ?_) (fun h13 => ?_)
    · rw [if_pos h13] at hQ
      refine az_iconst (v := -1) dX8_twins_71 (by decide) ?_
      exact az_iret dX8_twins_72 rfl hQ
    rw [if_neg h13] at hQ
    refine az_iloadn dX8_twins_16 rfl ?_
    refine az_iconst (v := 1) dX8_twins_17 (by decide) ?_
    refine az_iadd dX8_twins_18 ?_
    refine az_istore dX8_twins_19 (by decide) ?_
    dsimp only [List.set]
    rw [nI_1]
    refine az_up (fun j => ∀ c', zk_in (zt_tw (mem 396) N i) k (N - j) j c' = zk_in (zt_tw (mem 396) N i) k (N - (i + 1)) (i + 1) c → az_Ev X (d + 4) mX8_twins 21 [some (.inr 391), some (.inl k), some (.inl c'), some (.inl (nI i)), some (.inl (nI j))] [] mem Q) N (i + 1) (by omega) (fun j hj1 hj ih2 c' he2 => ?_) (fun c' he2 => ?_) c rfl
    · rw [zs_sub hj] at he2
      refine az_iload dX8_twins_21 rfl ?_
      refine az_aloadn dX8_twins_23 rfl ?_
      refine az_inv0 (N := mX8_n) dX8_twins_24 lkX8_62 okX8_n sh_391 rfl (Nat.le_of_ble_eq_true rfl) ?_
      refine t_X8_n hn ?_
      try dsimp only [az_ps]
      refine az_icmpge (t := 65) dX8_twins_27 (by decide) (fun h27 => ?_) (fun h27 => ?_)
      · exact absurd h27 (nI_ge (by omega) (by omega))
      refine az_aloadn dX8_twins_30 rfl ?_
      refine az_iloadn dX8_twins_31 rfl ?_
      refine az_iload dX8_twins_32 rfl ?_
      refine az_inv2 (N := mX8_areTwins) dX8_twins_34 lkX8_130 okX8_areTwins sh_391 rfl (Nat.le_of_ble_eq_true rfl) ?_
      refine s_X8_areTwins hn hN (by omega) (by omega) ?_
      try dsimp only [az_ps]
      refine az_ifne (t := 43) dX8_twins_37 (by decide) (fun h37 => ?_) (fun h37 => ?_)
      · replace h37 := zb_n h37
        refine az_iloadn dX8_twins_43 rfl ?_
        refine az_iloadn dX8_twins_44 rfl ?_
        refine az_icmpne (t := 56) dX8_twins_45 (by decide) (fun h45 => ?_) (fun h45 => ?_)
        · rw [zk_in_tf (by simp [zt_tw, h37]) h45] at he2
          refine az_iinc (w := 1) dX8_twins_56 rfl (by decide) (by decide) ?_
          dsimp only [List.set]
          refine az_iinc (w := 1) dX8_twins_59 rfl (by decide) (by decide) ?_
          dsimp only [List.set]
          refine az_goto (t := 21) dX8_twins_62 (by decide) ?_
          rw [nI_1]; exact ih2 _ he2
        · rw [zk_in_tt (by simp [zt_tw, h37]) h45] at he2
          rw [zk_pr, ← he2] at he
          rw [← he] at hQ
          refine az_bipush (v := 16) dX8_twins_48 (by decide) ?_
          refine az_iloadn dX8_twins_50 rfl ?_
          refine az_imul dX8_twins_51 ?_
          refine az_iload dX8_twins_52 rfl ?_
          refine az_iadd dX8_twins_54 ?_
          refine az_iret dX8_twins_55 rfl ?_
          simpa only [az_lit, nI_add, pk_mul, zr_pr] using hQ
      · replace h37 := zb_z h37
        rw [zk_in_f (by simp [zt_tw, h37])] at he2
        refine az_goto (t := 59) dX8_twins_40 (by decide) ?_
        refine az_iinc (w := 1) dX8_twins_59 rfl (by decide) (by decide) ?_
        dsimp only [List.set]
        refine az_goto (t := 21) dX8_twins_62 (by decide) ?_
        rw [nI_1]; exact ih2 _ he2
    · rw [Nat.sub_self] at he2
      refine az_iload dX8_twins_21 rfl ?_
      refine az_aloadn dX8_twins_23 rfl ?_
      refine az_inv0 (N := mX8_n) dX8_twins_24 lkX8_62 okX8_n sh_391 rfl (Nat.le_of_ble_eq_true rfl) ?_
      refine t_X8_n hn ?_
      try dsimp only [az_ps]
      refine az_icmpge (t := 65) dX8_twins_27 (by decide) (fun h27 => ?_) (fun h27 => ?_)
      rotate_left 1
      · exact absurd (Int32.le_refl _) h27
      refine az_iinc (w := 1) dX8_twins_65 rfl (by decide) (by decide) ?_
      dsimp only [List.set]
      refine az_goto (t := 4) dX8_twins_68 (by decide) ?_
      rw [nI_1]; rw [zk_pr, ← he2] at he; exact ih _ he _
  · rw [Nat.sub_self] at he
    refine az_iloadn dX8_twins_4 rfl ?_
    refine az_aloadn dX8_twins_5 rfl ?_
    refine az_inv0 (N := mX8_n) dX8_twins_6 lkX8_62 okX8_n sh_391 rfl (Nat.le_of_ble_eq_true rfl) ?_
    refine t_X8_n hn ?_
    try dsimp only [az_ps]
    refine az_icmpge (t := 71) dX8_twins_9 (by decide) (fun h9 => ?_) (fun h9 => ?_)
    rotate_left 1
    · exact absurd (Int32.le_refl _) h9
    refine az_iconst (v := -1) dX8_twins_71 (by decide) ?_
    refine az_iret dX8_twins_72 rfl ?_
    rw [← he] at hQ
    by_cases hk : k < 0
    · rw [if_pos hk] at hQ; exact hQ
    · rw [if_neg hk] at hQ; exact hQ
theorem s_X8_againstBits {p : Nat} (hn : mem 392 0 = nI N) (hN : N ≤ 16) (hp : p < 16) (hQ : Q (some (.inl (zm_mask (zw_ag (mem 392) (mem 396) p) N))) mem) : az_Sp X (d + 1) mX8_againstBits [.inr 391, .inl (nI p)] mem Q := by
  refine az_body (by decide +kernel) (Nat.le_of_ble_eq_true rfl) ?_
  show az_Ev X _ mX8_againstBits 0 [some (.inr 391), some (.inl (nI p)), none, none] [] mem Q
  refine az_iconst (v := 0) dX8_againstBits_0 (by decide) ?_
  refine az_istoren dX8_againstBits_1 (by decide) ?_
  dsimp only [List.set]
  refine az_iconst (v := 0) dX8_againstBits_2 (by decide) ?_
  refine az_istoren dX8_againstBits_3 (by decide) ?_
  dsimp only [List.set]
  skip
  refine az_up (fun i => az_Ev X (d + 1) mX8_againstBits 4 [some (.inr 391), some (.inl (nI p)), some (.inl (zm_mask (zw_ag (mem 392) (mem 396) p) i)), some (.inl (nI i))] [] mem Q) N 0 (by omega) (fun i _ hi ih => ?_) ?_
  · refine az_iloadn dX8_againstBits_4 rfl ?_
    refine az_aloadn dX8_againstBits_5 rfl ?_
    refine az_inv0 (N := mX8_n) dX8_againstBits_6 lkX8_62 okX8_n sh_391 rfl (Nat.le_of_ble_eq_true rfl) ?_
    refine t_X8_n hn ?_
    try dsimp only [az_ps]
    refine az_icmpge (t := 61) dX8_againstBits_9 (by decide) (fun h9 => ?_) (fun h9 => ?_)
    · exact absurd h9 (nI_ge (by omega) (by omega))
    refine az_iloadn dX8_againstBits_12 rfl ?_
    refine az_aloadn dX8_againstBits_13 rfl ?_
    refine az_getr dX8_againstBits_14 flX8_7 sh_391 rfl ?_
    refine az_sipush (v := 311) dX8_againstBits_17 (by decide) ?_
    refine az_iloadn dX8_againstBits_20 rfl ?_
    refine az_iadd dX8_againstBits_21 ?_
    refine az_iald (311 + i) dX8_againstBits_22 sh_392 (by omega) (by decide) (by simp only [az_lit, nI_add, pk_mul, Nat.add_assoc]) ?_
    refine az_iconst (v := 1) dX8_againstBits_23 (by decide) ?_
    refine az_icmpne (t := 52) dX8_againstBits_24 (by decide) (fun h24 => ?_) (fun h24 => ?_)
    · rw [zm_mask_f (by simp [zw_ag, h24])] at ih
      refine az_iconst (v := 0) dX8_againstBits_52 (by decide) ?_
      refine az_ior dX8_againstBits_53 ?_
      refine az_istoren dX8_againstBits_54 (by decide) ?_
      dsimp only [List.set]
      refine az_iinc (w := 1) dX8_againstBits_55 rfl (by decide) (by decide) ?_
      dsimp only [List.set]
      refine az_goto (t := 4) dX8_againstBits_58 (by decide) ?_
      rw [nI_1]; exact ih
    · refine az_aloadn dX8_againstBits_27 rfl ?_
      refine az_getr dX8_againstBits_28 flX8_7 sh_391 rfl ?_
      refine az_sipush (v := 327) dX8_againstBits_31 (by decide) ?_
      refine az_iloadn dX8_againstBits_34 rfl ?_
      refine az_iadd dX8_againstBits_35 ?_
      refine az_iald (327 + i) dX8_againstBits_36 sh_392 (by omega) (by decide) (by simp only [az_lit, nI_add, pk_mul, Nat.add_assoc]) ?_
      refine az_aloadn dX8_againstBits_37 rfl ?_
      refine az_iloadn dX8_againstBits_38 rfl ?_
      refine az_iloadn dX8_againstBits_39 rfl ?_
      refine az_inv2 (N := mX8_answerOf) dX8_againstBits_40 lkX8_105 okX8_answerOf sh_391 rfl (Nat.le_of_ble_eq_true rfl) ?_
      refine s_X8_answerOf (by omega) (by omega) ?_
      try dsimp only [az_ps]
      refine az_icmpeq (t := 52) dX8_againstBits_43 (by decide) (fun h43 => ?_) (fun h43 => ?_)
      · rw [zm_mask_f (by simp [zw_ag, h24, h43])] at ih
        refine az_iconst (v := 0) dX8_againstBits_52 (by decide) ?_
        refine az_ior dX8_againstBits_53 ?_
        refine az_istoren dX8_againstBits_54 (by decide) ?_
        dsimp only [List.set]
        refine az_iinc (w := 1) dX8_againstBits_55 rfl (by decide) (by decide) ?_
        dsimp only [List.set]
        refine az_goto (t := 4) dX8_againstBits_58 (by decide) ?_
        rw [nI_1]; exact ih
      · rw [zm_mask_t (by simp [zw_ag, h24, h43])] at ih
        refine az_iconst (v := 1) dX8_againstBits_46 (by decide) ?_
        refine az_iloadn dX8_againstBits_47 rfl ?_
        refine az_ishl dX8_againstBits_48 ?_
        refine az_goto (t := 53) dX8_againstBits_49 (by decide) ?_
        refine az_ior dX8_againstBits_53 ?_
        refine az_istoren dX8_againstBits_54 (by decide) ?_
        dsimp only [List.set]
        refine az_iinc (w := 1) dX8_againstBits_55 rfl (by decide) (by decide) ?_
        dsimp only [List.set]
        refine az_goto (t := 4) dX8_againstBits_58 (by decide) ?_
        rw [nI_1]; exact ih
  · refine az_iloadn dX8_againstBits_4 rfl ?_
    refine az_aloadn dX8_againstBits_5 rfl ?_
    refine az_inv0 (N := mX8_n) dX8_againstBits_6 lkX8_62 okX8_n sh_391 rfl (Nat.le_of_ble_eq_true rfl) ?_
    refine t_X8_n hn ?_
    try dsimp only [az_ps]
    refine az_icmpge (t := 61) dX8_againstBits_9 (by decide) (fun h9 => ?_) (fun h9 => ?_)
    rotate_left 1
    · exact absurd (Int32.le_refl _) h9
    refine az_iloadn dX8_againstBits_61 rfl ?_
    refine az_iret dX8_againstBits_62 rfl ?_
    exact hQ
theorem s_X8_isFit {p : Nat} (hn : mem 392 0 = nI N) (hN : N ≤ 16) (hp : p < 16) (hQ : Q (some (.inl (if zw_fit (mem 392) (mem 396) N p = true then 1 else 0))) mem) : az_Sp X (d + 2) mX8_isFit [.inr 391, .inl (nI p)] mem Q := by
  refine az_body (by decide +kernel) (Nat.le_of_ble_eq_true rfl) ?_
  show az_Ev X _ mX8_isFit 0 [some (.inr 391), some (.inl (nI p))] [] mem Q
  refine az_aloadn dX8_isFit_0 rfl ?_
  refine az_iloadn dX8_isFit_1 rfl ?_
  refine az_inv1 (N := mX8_againstBits) dX8_isFit_2 lkX8_149 okX8_againstBits sh_391 rfl (Nat.le_of_ble_eq_true rfl) ?_
  refine s_X8_againstBits hn hN hp ?_
  try dsimp only [az_ps]
  refine az_ins1 (N := mX8_many) dX8_isFit_5 lsX8_102 okX8_many (Nat.le_of_ble_eq_true rfl) ?_
  refine s_X8_many ?_
  try dsimp only [az_ps]
  refine az_aloadn dX8_isFit_8 rfl ?_
  refine az_getr dX8_isFit_9 flX8_7 sh_391 rfl ?_
  refine az_iconst (v := 4) dX8_isFit_12 (by decide) ?_
  refine az_iald (4) dX8_isFit_13 sh_392 (by omega) (by decide) (by simp only [az_lit, nI_add, pk_mul, Nat.add_assoc]) ?_
  refine az_iconst (v := 1) dX8_isFit_14 (by decide) ?_
  refine az_icmpne (t := 27) dX8_isFit_15 (by decide) (fun h15 => ?_) (fun h15 => ?_)
  · refine az_iconst (v := 0) dX8_isFit_27 (by decide) ?_
    refine az_icmpgt (t := 35) dX8_isFit_28 (by decide) (fun h28 => ?_) (fun h28 => ?_)
    · rw [if_neg (by simp [zw_fit, h15]; exact h28)] at hQ
      refine az_iconst (v := 0) dX8_isFit_35 (by decide) ?_
      refine az_zret dX8_isFit_36 rfl (by first | exact Or.inl rfl | exact Or.inr rfl | assumption) ?_
      exact hQ
    · rw [if_pos (by simp [zw_fit, h15]; exact Int32.not_lt.mp h28)] at hQ
      refine az_iconst (v := 1) dX8_isFit_31 (by decide) ?_
      refine az_goto (t := 36) dX8_isFit_32 (by decide) ?_
      refine az_zret dX8_isFit_36 rfl (by first | exact Or.inl rfl | exact Or.inr rfl | assumption) ?_
      exact hQ
  · refine az_aloadn dX8_isFit_18 rfl ?_
    refine az_getr dX8_isFit_19 flX8_7 sh_391 rfl ?_
    refine az_iconst (v := 3) dX8_isFit_22 (by decide) ?_
    refine az_iald (3) dX8_isFit_23 sh_392 (by omega) (by decide) (by simp only [az_lit, nI_add, pk_mul, Nat.add_assoc]) ?_
    refine az_goto (t := 28) dX8_isFit_24 (by decide) ?_
    refine az_icmpgt (t := 35) dX8_isFit_28 (by decide) (fun h28 => ?_) (fun h28 => ?_)
    · rw [if_neg (by simp [zw_fit, h15]; exact h28)] at hQ
      refine az_iconst (v := 0) dX8_isFit_35 (by decide) ?_
      refine az_zret dX8_isFit_36 rfl (by first | exact Or.inl rfl | exact Or.inr rfl | assumption) ?_
      exact hQ
    · rw [if_pos (by simp [zw_fit, h15]; exact Int32.not_lt.mp h28)] at hQ
      refine az_iconst (v := 1) dX8_isFit_31 (by decide) ?_
      refine az_goto (t := 36) dX8_isFit_32 (by decide) ?_
      refine az_zret dX8_isFit_36 rfl (by first | exact Or.inl rfl | exact Or.inr rfl | assumption) ?_
      exact hQ
theorem s_X8_fits (hn : mem 392 0 = nI N) (hN : N ≤ 16) (hQ : Q (some (.inl (zm_sum (fun p => if zw_fit (mem 392) (mem 396) N p then 1 else 0) N))) mem) : az_Sp X (d + 3) mX8_fits [.inr 391] mem Q := by
  refine az_body (by decide +kernel) (Nat.le_of_ble_eq_true rfl) ?_
  show az_Ev X _ mX8_fits 0 [some (.inr 391), none, none] [] mem Q
  refine az_iconst (v := 0) dX8_fits_0 (by decide) ?_
  refine az_istoren dX8_fits_1 (by decide) ?_
  dsimp only [List.set]
  refine az_iconst (v := 0) dX8_fits_2 (by decide) ?_
  refine az_istoren dX8_fits_3 (by decide) ?_
  dsimp only [List.set]
  skip
  refine az_up (fun i => az_Ev X (d + 3) mX8_fits 4 [some (.inr 391), some (.inl (zm_sum (fun p => if zw_fit (mem 392) (mem 396) N p then 1 else 0) i)), some (.inl (nI i))] [] mem Q) N 0 (by omega) (fun i _ hi ih => ?_) ?_
  · refine az_iloadn dX8_fits_4 rfl ?_
    refine az_aloadn dX8_fits_5 rfl ?_
    refine az_inv0 (N := mX8_n) dX8_fits_6 lkX8_62 okX8_n sh_391 rfl (Nat.le_of_ble_eq_true rfl) ?_
    refine t_X8_n hn ?_
    try dsimp only [az_ps]
    refine az_icmpge (t := 34) dX8_fits_9 (by decide) (fun h9 => ?_) (fun h9 => ?_)
    · exact absurd h9 (nI_ge (by omega) (by omega))
    refine az_iloadn dX8_fits_12 rfl ?_
    refine az_aloadn dX8_fits_13 rfl ?_
    refine az_iloadn dX8_fits_14 rfl ?_
    refine az_inv1 (N := mX8_isFit) dX8_fits_15 lkX8_152 okX8_isFit sh_391 rfl (Nat.le_of_ble_eq_true rfl) ?_
    refine s_X8_isFit hn hN (by omega) ?_
    try dsimp only [az_ps]
    refine az_ifeq (t := 25) dX8_fits_18 (by decide) (fun h18 => ?_) (fun h18 => ?_)
    · replace h18 := zb_z h18
      rw [zm_sum, if_neg h18] at ih
      refine az_iconst (v := 0) dX8_fits_25 (by decide) ?_
      refine az_iadd dX8_fits_26 ?_
      refine az_istoren dX8_fits_27 (by decide) ?_
      dsimp only [List.set]
      refine az_iinc (w := 1) dX8_fits_28 rfl (by decide) (by decide) ?_
      dsimp only [List.set]
      refine az_goto (t := 4) dX8_fits_31 (by decide) ?_
      rw [nI_1]; exact ih
    · replace h18 := zb_n h18
      rw [zm_sum, if_pos h18] at ih
      refine az_iconst (v := 1) dX8_fits_21 (by decide) ?_
      refine az_goto (t := 26) dX8_fits_22 (by decide) ?_
      refine az_iadd dX8_fits_26 ?_
      refine az_istoren dX8_fits_27 (by decide) ?_
      dsimp only [List.set]
      refine az_iinc (w := 1) dX8_fits_28 rfl (by decide) (by decide) ?_
      dsimp only [List.set]
      refine az_goto (t := 4) dX8_fits_31 (by decide) ?_
      rw [nI_1]; exact ih
  · refine az_iloadn dX8_fits_4 rfl ?_
    refine az_aloadn dX8_fits_5 rfl ?_
    refine az_inv0 (N := mX8_n) dX8_fits_6 lkX8_62 okX8_n sh_391 rfl (Nat.le_of_ble_eq_true rfl) ?_
    refine t_X8_n hn ?_
    try dsimp only [az_ps]
    refine az_icmpge (t := 34) dX8_fits_9 (by decide) (fun h9 => ?_) (fun h9 => ?_)
    rotate_left 1
    · exact absurd (Int32.le_refl _) h9
    refine az_iloadn dX8_fits_34 rfl ?_
    refine az_iret dX8_fits_35 rfl ?_
    exact hQ
def zr_k (r : Nat ⊕ Int32) : Int32 := match r with
  | .inl b => nI b
  | .inr _ => -1
theorem s_X8_where {k : Int32} (hn : mem 392 0 = nI N) (hN : N ≤ 16) (hQ : Q (some (.inl (if k < 0 then -1 else zr_k (zk_in (zw_fit (mem 392) (mem 396) N) k N 0 0)))) mem) : az_Sp X (d + 3) mX8_where [.inr 391, .inl k] mem Q := by
  refine az_body (by decide +kernel) (Nat.le_of_ble_eq_true rfl) ?_
  show az_Ev X _ mX8_where 0 [some (.inr 391), some (.inl k), none, none] [] mem Q
  refine az_iconst (v := 0) dX8_where_0 (by decide) ?_
  refine az_istoren dX8_where_1 (by decide) ?_
  dsimp only [List.set]
  refine az_iconst (v := 0) dX8_where_2 (by decide) ?_
  refine az_istoren dX8_where_3 (by decide) ?_
  dsimp only [List.set]
  skip
  refine az_up (fun j => ∀ c, zk_in (zw_fit (mem 392) (mem 396) N) k (N - j) j c = zk_in (zw_fit (mem 392) (mem 396) N) k N 0 0 → az_Ev X (d + 3) mX8_where 4 [some (.inr 391), some (.inl k), some (.inl c), some (.inl (nI j))] [] mem Q) N 0 (by omega) (fun j hj1 hj ih2 c he2 => ?_) (fun c he2 => ?_) 0 rfl
  · rw [zs_sub hj] at he2
    refine az_iloadn dX8_where_4 rfl ?_
    refine az_aloadn dX8_where_5 rfl ?_
    refine az_inv0 (N := mX8_n) dX8_where_6 lkX8_62 okX8_n sh_391 rfl (Nat.le_of_ble_eq_true rfl) ?_
    refine t_X8_n hn ?_
    try dsimp only [az_ps]
    refine az_icmpge (t := 43) dX8_where_9 (by decide) (fun h9 => ?_) (fun h9 => ?_)
    · exact absurd h9 (nI_ge (by omega) (by omega))
    refine az_iloadn dX8_where_12 rfl ?_
    refine az_iflt (t := 43) dX8_where_13 (by decide) (fun h13 => ?_) (fun h13 => ?_)
    · rw [if_pos h13] at hQ
      refine az_iconst (v := -1) dX8_where_43 (by decide) ?_
      refine az_iret dX8_where_44 rfl ?_
      exact hQ
    · rw [if_neg h13] at hQ
      refine az_aloadn dX8_where_16 rfl ?_
      refine az_iloadn dX8_where_17 rfl ?_
      refine az_inv1 (N := mX8_isFit) dX8_where_18 lkX8_152 okX8_isFit sh_391 rfl (Nat.le_of_ble_eq_true rfl) ?_
      refine s_X8_isFit hn hN (by omega) ?_
      try dsimp only [az_ps]
      refine az_ifne (t := 27) dX8_where_21 (by decide) (fun h21 => ?_) (fun h21 => ?_)
      · replace h21 := zb_n h21
        refine az_iloadn dX8_where_27 rfl ?_
        refine az_iloadn dX8_where_28 rfl ?_
        refine az_icmpne (t := 34) dX8_where_29 (by decide) (fun h29 => ?_) (fun h29 => ?_)
        · rw [zk_in_tf (by simpa using h21) h29] at he2
          refine az_iinc (w := 1) dX8_where_34 rfl (by decide) (by decide) ?_
          dsimp only [List.set]
          refine az_iinc (w := 1) dX8_where_37 rfl (by decide) (by decide) ?_
          dsimp only [List.set]
          refine az_goto (t := 4) dX8_where_40 (by decide) ?_
          rw [nI_1]; exact ih2 _ he2
        · rw [zk_in_tt (by simpa using h21) h29] at he2
          rw [← he2] at hQ
          refine az_iloadn dX8_where_32 rfl ?_
          refine az_iret dX8_where_33 rfl ?_
          exact hQ
      · replace h21 := zb_z h21
        rw [zk_in_f (by simpa using h21)] at he2
        refine az_goto (t := 37) dX8_where_24 (by decide) ?_
        refine az_iinc (w := 1) dX8_where_37 rfl (by decide) (by decide) ?_
        dsimp only [List.set]
        refine az_goto (t := 4) dX8_where_40 (by decide) ?_
        rw [nI_1]; exact ih2 _ he2
  · rw [Nat.sub_self] at he2
    refine az_iloadn dX8_where_4 rfl ?_
    refine az_aloadn dX8_where_5 rfl ?_
    refine az_inv0 (N := mX8_n) dX8_where_6 lkX8_62 okX8_n sh_391 rfl (Nat.le_of_ble_eq_true rfl) ?_
    refine t_X8_n hn ?_
    try dsimp only [az_ps]
    refine az_icmpge (t := 43) dX8_where_9 (by decide) (fun h9 => ?_) (fun h9 => ?_)
    rotate_left 1
    · exact absurd (Int32.le_refl _) h9
    refine az_iconst (v := -1) dX8_where_43 (by decide) ?_
    refine az_iret dX8_where_44 rfl ?_
    rw [← he2] at hQ
    by_cases hk : k < 0
    · rw [if_pos hk] at hQ; exact hQ
    · rw [if_neg hk] at hQ; exact hQ
end MB
end
section
/-! the model's walk, act, gather -/
theorem az_w_same (mem : az_M) (k j : Nat) (v : Int32) : az_w mem k j v k = upd (mem k) j v := by simp [az_w, az_st]
theorem az_w_ne (mem : az_M) {k j a : Nat} {v : Int32} (h : a ≠ k) : az_w mem k j v a = mem a := by simp [az_w, az_st, h]
theorem zm_upd_eq (f : Nat → Int32) (k j : Nat) (v : Int32) : upd f k v j = if j = k then v else f j := rfl
def zw_st (a k b : Nat) (w : Nat → Int32) : Nat → Int32 := if w (16 * a + k) + w (16 * k + b) < w (16 * a + b) then upd w (16 * a + b) (w (16 * a + k) + w (16 * k + b)) else w
def zw_b (a k : Nat) : Nat → Nat → (Nat → Int32) → Nat → Int32
  | 0, _, w => w
  | n + 1, b, w => zw_b a k n (b + 1) (zw_st a k b w)
def zw_a (N k : Nat) : Nat → Nat → (Nat → Int32) → Nat → Int32
  | 0, _, w => w
  | n + 1, a, w => zw_a N k n (a + 1) (zw_b a k N 0 w)
def zw_k (N : Nat) : Nat → Nat → (Nat → Int32) → Nat → Int32
  | 0, _, w => w
  | n + 1, k, w => zw_k N n (k + 1) (zw_a N k N 0 w)
/-- the ways ahead of all rounds -/
def zw_0 (len : Nat → Int32) (i : Nat) : Int32 := if i / 16 = i % 16 then 0 else if 0 < len i then len i else 1000000
def zw_00 (len old : Nat → Int32) (i : Nat) : Int32 := if i < 256 then zw_0 len i else old i
def zs_says (S w : Nat → Int32) (m p : Nat) : Int32 :=
  if S 1 = 0 then w (16 * m + p) else if S 1 = 1 then (if 0 < zm_len S (16 * m + p) ∨ m = p then 1 else 0) else if S 1 = 2 then (if 0 < zm_len S (16 * m + p) then 1 else 0) else if S 1 = 3 then (if w (16 * m + p) ≤ S 2 then 1 else 0) else (if w (16 * m + p) ≤ S (263 + m) then 1 else 0)
def zm_rd (S : Nat → Int32) (a b v : Int32) : Prop := (0 ≤ a ∧ a < S 0) ∧ (0 ≤ b ∧ b < S 0) ∧ a ≠ b ∧ 1 ≤ v ∧ v ≤ 1000 ∧ zm_len S (16 * a.toNatClampNeg + b.toNatClampNeg) = 0
theorem zi_of {x : Int32} {N : Nat} (hN : N < 2 ^ 31) (h : 0 ≤ x ∧ x < nI N) : x.toNatClampNeg < N ∧ x = nI x.toNatClampNeg := by
  obtain ⟨j, hj, rfl⟩ := nI_of (x := x) (Int32.not_lt.mpr h.1)
  rw [nI_clamp hj]
  exact ⟨(nI_ltI hj hN).mp h.2, rfl⟩
theorem zi_ne {x : Int32} {k : Nat} (hk : k < 2 ^ 31) (h : ¬ x = nI k) : x.toInt ≠ (k : Int) := by
  intro he
  apply h
  apply Int32.toInt_inj.mp
  rw [he, nI_toInt hk]
section MC
variable {X : az_X} {d : Nat} {mem : az_M} {Q : Option az_V → az_M → Prop} {N : Nat}
theorem t_X8_length {a b : Int32} {A B : Nat} (ea : a = nI A) (eb : b = nI B) (ha : A < 16) (hb : B < 16) (hQ : Q (some (.inl (zm_len (mem 392) (16 * A + B)))) mem) : az_Sp X d mX8_length [.inr 391, .inl a, .inl b] mem Q := by
  subst ea; subst eb; exact s_X8_length ha hb hQ
theorem s_X8_isRoad {a b v : Int32} [Decidable (zm_rd (mem 392) a b v)] (hn : mem 392 0 = nI N) (hN : N ≤ 16) (hQ : Q (some (.inl (if zm_rd (mem 392) a b v then 1 else 0))) mem) : az_Sp X (d + 2) mX8_isRoad [.inr 391, .inl a, .inl b, .inl v] mem Q := by
  refine az_body (by decide +kernel) (Nat.le_of_ble_eq_true rfl) ?_
  show az_Ev X _ mX8_isRoad 0 [some (.inr 391), some (.inl a), some (.inl b), some (.inl v)] [] mem Q
  refine az_aloadn dX8_isRoad_0 rfl ?_
  refine az_iloadn dX8_isRoad_1 rfl ?_
  refine az_inv1 (N := mX8_isPost) dX8_isRoad_2 lkX8_66 okX8_isPost sh_391 rfl (Nat.le_of_ble_eq_true rfl) ?_
  refine s_X8_isPost ?_
  try dsimp only [az_ps]
  refine az_ifeq (t := 46) dX8_isRoad_5 (by decide) (fun h5 => ?_) (fun h5 => ?_)
  · replace h5 := zb_z h5
    rw [if_neg (fun h => h5 h.1)] at hQ
    refine az_iconst (v := 0) dX8_isRoad_46 (by decide) ?_
    refine az_zret dX8_isRoad_47 rfl (by first | exact Or.inl rfl | exact Or.inr rfl | assumption) ?_
    exact hQ
  · replace h5 := zb_n h5
    refine az_aloadn dX8_isRoad_8 rfl ?_
    refine az_iloadn dX8_isRoad_9 rfl ?_
    refine az_inv1 (N := mX8_isPost) dX8_isRoad_10 lkX8_66 okX8_isPost sh_391 rfl (Nat.le_of_ble_eq_true rfl) ?_
    refine s_X8_isPost ?_
    try dsimp only [az_ps]
    refine az_ifeq (t := 46) dX8_isRoad_13 (by decide) (fun h13 => ?_) (fun h13 => ?_)
    · replace h13 := zb_z h13
      rw [if_neg (fun h => h13 h.2.1)] at hQ
      refine az_iconst (v := 0) dX8_isRoad_46 (by decide) ?_
      refine az_zret dX8_isRoad_47 rfl (by first | exact Or.inl rfl | exact Or.inr rfl | assumption) ?_
      exact hQ
    · replace h13 := zb_n h13
      refine az_iloadn dX8_isRoad_16 rfl ?_
      refine az_iloadn dX8_isRoad_17 rfl ?_
      refine az_icmpeq (t := 46) dX8_isRoad_18 (by decide) (fun h18 => ?_) (fun h18 => ?_)
      · rw [if_neg (fun h => h.2.2.1 h18)] at hQ
        refine az_iconst (v := 0) dX8_isRoad_46 (by decide) ?_
        refine az_zret dX8_isRoad_47 rfl (by first | exact Or.inl rfl | exact Or.inr rfl | assumption) ?_
        exact hQ
      · refine az_iloadn dX8_isRoad_21 rfl ?_
        refine az_iconst (v := 1) dX8_isRoad_22 (by decide) ?_
        refine az_icmplt (t := 46) dX8_isRoad_23 (by decide) (fun h23 => ?_) (fun h23 => ?_)
        · rw [if_neg (fun h => absurd h23 (Int32.not_lt.mpr h.2.2.2.1))] at hQ
          refine az_iconst (v := 0) dX8_isRoad_46 (by decide) ?_
          refine az_zret dX8_isRoad_47 rfl (by first | exact Or.inl rfl | exact Or.inr rfl | assumption) ?_
          exact hQ
        · refine az_iloadn dX8_isRoad_26 rfl ?_
          refine az_sipush (v := 1000) dX8_isRoad_27 (by decide) ?_
          refine az_icmpgt (t := 46) dX8_isRoad_30 (by decide) (fun h30 => ?_) (fun h30 => ?_)
          · rw [if_neg (fun h => absurd h30 (Int32.not_lt.mpr h.2.2.2.2.1))] at hQ
            refine az_iconst (v := 0) dX8_isRoad_46 (by decide) ?_
            refine az_zret dX8_isRoad_47 rfl (by first | exact Or.inl rfl | exact Or.inr rfl | assumption) ?_
            exact hQ
          · rw [hn] at h5 h13
            have ea := zi_of (by omega) h5
            have eb := zi_of (by omega) h13
            refine az_aloadn dX8_isRoad_33 rfl ?_
            refine az_iloadn dX8_isRoad_34 rfl ?_
            refine az_iloadn dX8_isRoad_35 rfl ?_
            refine az_inv2 (N := mX8_length) dX8_isRoad_36 lkX8_70 okX8_length sh_391 rfl (Nat.le_of_ble_eq_true rfl) ?_
            refine t_X8_length ea.2 eb.2 (by omega) (by omega) ?_
            try dsimp only [az_ps]
            refine az_ifne (t := 46) dX8_isRoad_39 (by decide) (fun h39 => ?_) (fun h39 => ?_)
            · rw [if_neg (fun h => h39 h.2.2.2.2.2)] at hQ
              refine az_iconst (v := 0) dX8_isRoad_46 (by decide) ?_
              refine az_zret dX8_isRoad_47 rfl (by first | exact Or.inl rfl | exact Or.inr rfl | assumption) ?_
              exact hQ
            · rw [if_pos ⟨by rw [hn]; exact h5, by rw [hn]; exact h13, h18, Int32.not_lt.mp h23, Int32.not_lt.mp h30, h39⟩] at hQ
              refine az_iconst (v := 1) dX8_isRoad_42 (by decide) ?_
              refine az_goto (t := 47) dX8_isRoad_43 (by decide) ?_
              refine az_zret dX8_isRoad_47 rfl (by first | exact Or.inl rfl | exact Or.inr rfl | assumption) ?_
              exact hQ
theorem s_X8_gather (hn : mem 392 0 = nI N) (hN : N ≤ 16) (hQ : ∀ m', (∀ k, k ≠ 397 → k ≠ 398 → m' k = mem k) → (∀ a b, a < b → b < N → m' 397 (16 * a + b) = zm_mask (zm_pf (mem 396) a b) N) → (∀ p, p < N → m' 398 p = zm_mask (zm_yf (mem 392 1) (mem 396) p) N) → Q none m') : az_Sp X (d + 3) mX8_gather [.inr 391] mem Q := by
  refine az_body (by decide +kernel) (Nat.le_of_ble_eq_true rfl) ?_
  show az_Ev X _ mX8_gather 0 [some (.inr 391), none, none] [] mem Q
  refine az_iconst (v := 0) dX8_gather_0 (by decide) ?_
  refine az_istoren dX8_gather_1 (by decide) ?_
  dsimp only [List.set]
  skip
  refine az_up (fun i => ∀ m' L2, (∀ k, k ≠ 397 → k ≠ 398 → m' k = mem k) → (∀ a b, a < i → a < b → b < N → m' 397 (16 * a + b) = zm_mask (zm_pf (mem 396) a b) N) → (∀ p, p < i → m' 398 p = zm_mask (zm_yf (mem 392 1) (mem 396) p) N) → az_Ev X (d + 3) mX8_gather 2 [some (.inr 391), some (.inl (nI i)), L2] [] m' Q) N 0 (by omega) (fun i _ hi ih m' L2 hf h1 h2 => ?_) (fun m' L2 hf h1 h2 => ?_) mem none (fun _ _ _ => rfl) (fun a b h => absurd h (by omega)) (fun p h => absurd h (by omega))
  · have hn' : m' 392 0 = nI N := by rw [hf 392 (by decide) (by decide)]; exact hn
    refine az_iloadn dX8_gather_2 rfl ?_
    refine az_aloadn dX8_gather_3 rfl ?_
    refine az_inv0 (N := mX8_n) dX8_gather_4 lkX8_62 okX8_n sh_391 rfl (Nat.le_of_ble_eq_true rfl) ?_
    refine t_X8_n hn' ?_
    try dsimp only [az_ps]
    refine az_icmpge (t := 62) dX8_gather_7 (by decide) (fun h7 => ?_) (fun h7 => ?_)
    · exact absurd h7 (nI_ge (by omega) (by omega))
    refine az_aloadn dX8_gather_10 rfl ?_
    refine az_getr dX8_gather_11 flX8_29 sh_391 rfl ?_
    refine az_iloadn dX8_gather_14 rfl ?_
    refine az_aloadn dX8_gather_15 rfl ?_
    refine az_iloadn dX8_gather_16 rfl ?_
    refine az_inv1 (N := mX8_yes) dX8_gather_17 lkX8_121 okX8_yes sh_391 rfl (Nat.le_of_ble_eq_true rfl) ?_
    refine s_X8_yes hn' hN (by omega) ?_
    rw [hf 392 (by decide) (by decide), hf 396 (by decide) (by decide)]
    try dsimp only [az_ps]
    refine az_iast (i) dX8_gather_20 sh_398 (by omega) (by decide) (by simp only [az_lit, nI_add, pk_mul, Nat.add_assoc]) ?_
    refine az_iloadn dX8_gather_21 rfl ?_
    refine az_iconst (v := 1) dX8_gather_22 (by decide) ?_
    refine az_iadd dX8_gather_23 ?_
    refine az_istoren dX8_gather_24 (by decide) ?_
    dsimp only [List.set]
    rw [nI_1]
    refine az_up (fun j => ∀ m', (∀ k, k ≠ 397 → k ≠ 398 → m' k = mem k) → (∀ a b, a < i → a < b → b < N → m' 397 (16 * a + b) = zm_mask (zm_pf (mem 396) a b) N) → (∀ b, i < b → b < j → m' 397 (16 * i + b) = zm_mask (zm_pf (mem 396) i b) N) → (∀ p, p < i + 1 → m' 398 p = zm_mask (zm_yf (mem 392 1) (mem 396) p) N) → az_Ev X (d + 3) mX8_gather 25 [some (.inr 391), some (.inl (nI i)), some (.inl (nI j))] [] m' Q) N (i + 1) (by omega) (fun j hj1 hj ih2 m' hf h1 h3 h2 => ?_) (fun m' hf h1 h3 h2 => ?_) _ ?_ ?_ ?_ ?_
    · have hn' : m' 392 0 = nI N := by rw [hf 392 (by decide) (by decide)]; exact hn
      refine az_iloadn dX8_gather_25 rfl ?_
      refine az_aloadn dX8_gather_26 rfl ?_
      refine az_inv0 (N := mX8_n) dX8_gather_27 lkX8_62 okX8_n sh_391 rfl (Nat.le_of_ble_eq_true rfl) ?_
      refine t_X8_n hn' ?_
      try dsimp only [az_ps]
      refine az_icmpge (t := 56) dX8_gather_30 (by decide) (fun h30 => ?_) (fun h30 => ?_)
      · exact absurd h30 (nI_ge (by omega) (by omega))
      refine az_aloadn dX8_gather_33 rfl ?_
      refine az_getr dX8_gather_34 flX8_26 sh_391 rfl ?_
      refine az_bipush (v := 16) dX8_gather_37 (by decide) ?_
      refine az_iloadn dX8_gather_39 rfl ?_
      refine az_imul dX8_gather_40 ?_
      refine az_iloadn dX8_gather_41 rfl ?_
      refine az_iadd dX8_gather_42 ?_
      refine az_aloadn dX8_gather_43 rfl ?_
      refine az_iloadn dX8_gather_44 rfl ?_
      refine az_iloadn dX8_gather_45 rfl ?_
      refine az_inv2 (N := mX8_parting) dX8_gather_46 lkX8_111 okX8_parting sh_391 rfl (Nat.le_of_ble_eq_true rfl) ?_
      refine s_X8_parting hn' hN (by omega) (by omega) ?_
      rw [hf 396 (by decide) (by decide)]
      try dsimp only [az_ps]
      refine az_iast (16 * i + j) dX8_gather_49 sh_397 (by omega) (by decide) (by simp only [az_lit, nI_add, pk_mul, Nat.add_assoc]) ?_
      refine az_iinc (w := 1) dX8_gather_50 rfl (by decide) (by decide) ?_
      dsimp only [List.set]
      refine az_goto (t := 25) dX8_gather_53 (by decide) ?_
      rw [nI_1]
      refine ih2 _ (fun k hk1 hk2 => by rw [az_w_ne _ hk1]; exact hf k hk1 hk2) (fun a b ha hb hb2 => ?_) (fun b hb1 hb2 => ?_) (fun p hp => by rw [az_w_ne _ (by decide)]; exact h2 p hp)
      · rw [az_w_eq, if_neg (by omega)]; exact h1 a b ha hb hb2
      · rw [az_w_eq]
        by_cases hbj : b = j
        · rw [if_pos ⟨rfl, by omega⟩, hbj]
        · rw [if_neg (by omega)]; exact h3 b hb1 (by omega)
    · have hn' : m' 392 0 = nI N := by rw [hf 392 (by decide) (by decide)]; exact hn
      refine az_iloadn dX8_gather_25 rfl ?_
      refine az_aloadn dX8_gather_26 rfl ?_
      refine az_inv0 (N := mX8_n) dX8_gather_27 lkX8_62 okX8_n sh_391 rfl (Nat.le_of_ble_eq_true rfl) ?_
      refine t_X8_n hn' ?_
      try dsimp only [az_ps]
      refine az_icmpge (t := 56) dX8_gather_30 (by decide) (fun h30 => ?_) (fun h30 => ?_)
      rotate_left 1
      · exact absurd (Int32.le_refl _) h30
      refine az_iinc (w := 1) dX8_gather_56 rfl (by decide) (by decide) ?_
      dsimp only [List.set]
      refine az_goto (t := 2) dX8_gather_59 (by decide) ?_
      rw [nI_1]
      refine ih _ _ hf (fun a b ha hb hb2 => ?_) h2
      rcases Nat.lt_or_ge a i with q | q
      · exact h1 a b q hb hb2
      · have : a = i := by omega
        subst this; exact h3 b hb hb2
    · exact fun k hk1 hk2 => by rw [az_w_ne _ hk2]; exact hf k hk1 hk2
    · exact fun a b ha hb hb2 => by rw [az_w_ne _ (by decide)]; exact h1 a b ha hb hb2
    · exact fun b hb1 hb2 => absurd hb1 (by omega)
    · intro p hp
      rw [az_w_eq]
      by_cases hpi : p = i
      · rw [if_pos ⟨rfl, hpi⟩, hpi]
      · rw [if_neg (by omega)]; exact h2 p (by omega)
  · have hn' : m' 392 0 = nI N := by rw [hf 392 (by decide) (by decide)]; exact hn
    refine az_iloadn dX8_gather_2 rfl ?_
    refine az_aloadn dX8_gather_3 rfl ?_
    refine az_inv0 (N := mX8_n) dX8_gather_4 lkX8_62 okX8_n sh_391 rfl (Nat.le_of_ble_eq_true rfl) ?_
    refine t_X8_n hn' ?_
    try dsimp only [az_ps]
    refine az_icmpge (t := 62) dX8_gather_7 (by decide) (fun h7 => ?_) (fun h7 => ?_)
    rotate_left 1
    · exact absurd (Int32.le_refl _) h7
    refine az_vret dX8_gather_62 rfl ?_
    exact hQ m' hf (fun a b h1' h2' => h1 a b (by omega) h1' h2') h2
theorem s_X8_act {t c : Nat} (ht : mem 391 3 = nI t) (ht2 : t < 60) (hc : mem 391 2 = nI c) (hc2 : c ≤ 60) (hQ : ∀ m', (∀ k, k ≠ 391 → k ≠ 393 → m' k = mem k) → (∀ j, m' 391 j = if j = 3 then nI ((t + 1) % 60) else if j = 2 then nI (if c < 60 then c + 1 else c) else mem 391 j) → (∀ k, k < 600 → m' 393 (600 * ((t + 1) % 60) + k) = mem 392 k) → (∀ i k, i < 60 → i ≠ (t + 1) % 60 → k < 600 → m' 393 (600 * i + k) = mem 393 (600 * i + k)) → Q none m') : az_Sp X (d + 1) mX8_act [.inr 391] mem Q := by
  have hm : (t + 1) % 60 < 60 := Nat.mod_lt _ (by decide)
  refine az_body (by decide +kernel) (Nat.le_of_ble_eq_true rfl) ?_
  show az_Ev X _ mX8_act 0 [some (.inr 391), none] [] mem Q
  refine az_aloadn dX8_act_0 rfl ?_
  refine az_aloadn dX8_act_1 rfl ?_
  refine az_geti dX8_act_2 flX8_55 sh_391 rfl ?_
  refine az_iconst (v := 1) dX8_act_5 (by decide) ?_
  refine az_iadd dX8_act_6 ?_
  refine az_bipush (v := 60) dX8_act_7 (by decide) ?_
  refine az_irem dX8_act_9 (by decide) ?_
  refine az_puti dX8_act_10 plX8_55 sh_391 rfl ?_
  refine az_iconst (v := 0) dX8_act_13 (by decide) ?_
  refine az_istoren dX8_act_14 (by decide) ?_
  dsimp only [List.set]
  skip
  have e1 : (mem 391 3 + 1 - (mem 391 3 + 1) / 60 * 60) = nI ((t + 1) % 60) := by
    rw [ht, nI_1]; exact pk_rem (a := t + 1) (d := 60) (by omega) (by decide) (by decide)
  rw [e1]
  generalize hs : (t + 1) % 60 = s at hm hQ ⊢
  refine az_up (fun i => ∀ m', (∀ k, k ≠ 391 → k ≠ 393 → m' k = mem k) → (m' 391 = upd (mem 391) 3 (nI s)) → (∀ k, k < i → m' 393 (600 * s + k) = mem 392 k) → (∀ i k, i < 60 → i ≠ s → k < 600 → m' 393 (600 * i + k) = mem 393 (600 * i + k)) → az_Ev X (d + 1) mX8_act 15 [some (.inr 391), some (.inl (nI i))] [] m' Q) 600 0 (by omega) (fun i _ hi ih m' hf h1 h2 h3 => ?_) (fun m' hf h1 h2 h3 => ?_) _ ?_ ?_ ?_ ?_
  · refine az_iloadn dX8_act_15 rfl ?_
    refine az_sipush (v := 600) dX8_act_16 (by decide) ?_
    refine az_icmpge (t := 49) dX8_act_19 (by decide) (fun h19 => ?_) (fun h19 => ?_)
    · exact absurd h19 (nI_ge (b := 600) hi (by decide))
    refine az_aloadn dX8_act_22 rfl ?_
    refine az_getr dX8_act_23 flX8_14 sh_391 rfl ?_
    refine az_sipush (v := 600) dX8_act_26 (by decide) ?_
    refine az_aloadn dX8_act_29 rfl ?_
    refine az_geti dX8_act_30 flX8_55 sh_391 rfl ?_
    refine az_imul dX8_act_33 ?_
    refine az_iloadn dX8_act_34 rfl ?_
    refine az_iadd dX8_act_35 ?_
    refine az_aloadn dX8_act_36 rfl ?_
    refine az_getr dX8_act_37 flX8_7 sh_391 rfl ?_
    refine az_iloadn dX8_act_40 rfl ?_
    refine az_iald (i) dX8_act_41 sh_392 (by omega) (by decide) (by simp only [az_lit, nI_add, pk_mul, Nat.add_assoc]) ?_
    refine az_iast (600 * s + i) dX8_act_42 sh_393 (by omega) (by decide) (by rw [h1, zm_upd_eq, if_pos rfl]; simp only [az_lit, nI_add, pk_mul]) ?_
    refine az_iinc (w := 1) dX8_act_43 rfl (by decide) (by decide) ?_
    dsimp only [List.set]
    refine az_goto (t := 15) dX8_act_46 (by decide) ?_
    rw [nI_1, hf 392 (by decide) (by decide)]
    refine ih _ (fun k hk1 hk2 => by rw [az_w_ne _ hk2]; exact hf k hk1 hk2) (by rw [az_w_ne _ (by decide)]; exact h1) (fun k hk => ?_) (fun a k ha hb hk => ?_)
    · rw [az_w_eq]
      by_cases hki : k = i
      · rw [if_pos ⟨rfl, by omega⟩, hki]
      · rw [if_neg (by omega)]; exact h2 k (by omega)
    · rw [az_w_eq, if_neg (by omega)]; exact h3 a k ha hb hk
  · have ec : m' 391 2 = nI c := by rw [h1, zm_upd_eq, if_neg (by decide)]; exact hc
    refine az_iloadn dX8_act_15 rfl ?_
    refine az_sipush (v := 600) dX8_act_16 (by decide) ?_
    refine az_icmpge (t := 49) dX8_act_19 (by decide) (fun h19 => ?_) (fun h19 => ?_)
    rotate_left 1
    · exact absurd (Int32.le_refl _) h19
    refine az_aloadn dX8_act_49 rfl ?_
    refine az_geti dX8_act_50 flX8_59 sh_391 rfl ?_
    refine az_bipush (v := 60) dX8_act_53 (by decide) ?_
    rw [ec]
    refine az_icmpge (t := 68) dX8_act_55 (by decide) (fun h55 => ?_) (fun h55 => ?_)
    · have hc60 : ¬ c < 60 := fun h => absurd h55 (nI_ge (b := 60) h (by decide))
      rw [if_neg hc60] at hQ
      have fin : Q none m' := by
        refine hQ m' hf (fun j => ?_) h2 h3
        rw [h1, zm_upd_eq]
        by_cases h2 : j = 2
        · subst h2; rw [if_neg (by decide), if_neg (by decide), if_pos rfl]; exact hc
        · rw [if_neg h2]
      refine az_vret dX8_act_68 rfl ?_
      exact fin
    · have hc60 : c < 60 := (nI_ltI (by omega) (by decide)).mp (Int32.not_le.mp h55)
      rw [if_pos hc60] at hQ
      have fin : Q none (az_w m' 391 2 (nI (c + 1))) := by
        refine hQ _ (fun k h1 h2 => by rw [az_w_ne _ h1]; exact hf k h1 h2) (fun j => ?_) (fun k hk => by rw [az_w_ne _ (by decide)]; exact h2 k hk) (fun i k g1 g2 g3 => by rw [az_w_ne _ (by decide)]; exact h3 i k g1 g2 g3)
        rw [az_w_same, h1, zm_upd_eq, zm_upd_eq]
        by_cases h3 : j = 3
        · rw [if_neg (by omega), if_pos h3, if_pos h3]
        · rw [if_neg h3, if_neg h3]
      refine az_aloadn dX8_act_58 rfl ?_
      refine az_dup dX8_act_59 ?_
      refine az_geti dX8_act_60 flX8_59 sh_391 rfl ?_
      refine az_iconst (v := 1) dX8_act_63 (by decide) ?_
      refine az_iadd dX8_act_64 ?_
      rw [ec, nI_1]
      refine az_puti dX8_act_65 plX8_59 sh_391 rfl ?_
      refine az_vret dX8_act_68 rfl ?_
      exact fin
  · exact fun k hk1 hk2 => by rw [az_w_ne _ hk1]
  · rw [az_w_same]
  · exact fun k hk => absurd hk (by omega)
  · exact fun i k h1 h2 h3 => by rw [az_w_ne _ (by decide)]
theorem s_X8_says {m p : Nat} (hm : m < 16) (hp : p < 16) (hQ : Q (some (.inl (zs_says (mem 392) (mem 395) m p))) mem) : az_Sp X (d + 1) mX8_says [.inr 391, .inl (nI m), .inl (nI p)] mem Q := by
  refine az_body (by decide +kernel) (Nat.le_of_ble_eq_true rfl) ?_
  show az_Ev X _ mX8_says 0 [some (.inr 391), some (.inl (nI m)), some (.inl (nI p)), none, none] [] mem Q
  unfold zs_says at hQ
  refine az_aloadn dX8_says_0 rfl ?_
  refine az_getr dX8_says_1 flX8_20 sh_391 rfl ?_
  refine az_bipush (v := 16) dX8_says_4 (by decide) ?_
  refine az_iloadn dX8_says_6 rfl ?_
  refine az_imul dX8_says_7 ?_
  refine az_iloadn dX8_says_8 rfl ?_
  refine az_iadd dX8_says_9 ?_
  refine az_iald (16 * m + p) dX8_says_10 sh_395 (by omega) (by decide) (by simp only [az_lit, nI_add, pk_mul, Nat.add_assoc]) ?_
  refine az_istoren dX8_says_11 (by decide) ?_
  dsimp only [List.set]
  refine az_aloadn dX8_says_12 rfl ?_
  refine az_iloadn dX8_says_13 rfl ?_
  refine az_iloadn dX8_says_14 rfl ?_
  refine az_inv2 (N := mX8_length) dX8_says_15 lkX8_70 okX8_length sh_391 rfl (Nat.le_of_ble_eq_true rfl) ?_
  refine s_X8_length (by omega) (by omega) ?_
  try dsimp only [az_ps]
  refine az_ifle (t := 25) dX8_says_18 (by decide) (fun h18 => ?_) (fun h18 => ?_)
  · have h18' : ¬ 0 < zm_len (mem 392) (16 * m + p) := fun h => absurd h18 (Int32.not_le.mpr h)
    refine az_iconst (v := 0) dX8_says_25 (by decide) ?_
    refine az_istore dX8_says_26 (by decide) ?_
    dsimp only [List.set]
    refine az_aloadn dX8_says_28 rfl ?_
    refine az_getr dX8_says_29 flX8_7 sh_391 rfl ?_
    refine az_iconst (v := 1) dX8_says_32 (by decide) ?_
    refine az_iald (1) dX8_says_33 sh_392 (by omega) (by decide) (by simp only [az_lit, nI_add, pk_mul, Nat.add_assoc]) ?_
    by_cases hs34_0 : mem 392 1 = 0
    · refine az_tin (off := 30) (t := 64) dX8_says_34 (by rw [hs34_0]; decide) (by rw [hs34_0]; decide) (by rw [hs34_0]; decide) (by decide) ?_
      rw [if_pos hs34_0] at hQ
      refine az_iloadn dX8_says_64 rfl ?_
      refine az_iret dX8_says_65 rfl ?_
      exact hQ
    by_cases hs34_1 : mem 392 1 = 1
    · refine az_tin (off := 32) (t := 66) dX8_says_34 (by rw [hs34_1]; decide) (by rw [hs34_1]; decide) (by rw [hs34_1]; decide) (by decide) ?_
      rw [if_neg hs34_0, if_pos hs34_1] at hQ
      refine az_iload dX8_says_66 rfl ?_
      refine az_ifne (t := 76) dX8_says_68 (by decide) (fun h68 => ?_) (fun h68 => ?_)
      · refine az_iconst (v := 1) dX8_says_76 (by decide) ?_
        refine az_goto (t := 81) dX8_says_77 (by decide) ?_
        refine az_iret dX8_says_81 rfl ?_
        first | exact hQ | (rw [if_pos (Or.inl h18')] at hQ; exact hQ) | (exact absurd rfl h68) | (exact absurd h68 (by decide)) | (rw [if_neg (fun h => h.elim h18' (fun q => h73 (by rw [q])))] at hQ; exact hQ) | (rw [if_pos (Or.inr ((nI_eq (by omega) (by omega)).mp h73))] at hQ; exact hQ)
      · refine az_iloadn dX8_says_71 rfl ?_
        refine az_iloadn dX8_says_72 rfl ?_
        refine az_icmpne (t := 80) dX8_says_73 (by decide) (fun h73 => ?_) (fun h73 => ?_)
        · refine az_iconst (v := 0) dX8_says_80 (by decide) ?_
          refine az_iret dX8_says_81 rfl ?_
          first | exact hQ | (rw [if_pos (Or.inl h18')] at hQ; exact hQ) | (exact absurd rfl h68) | (exact absurd h68 (by decide)) | (rw [if_neg (fun h => h.elim h18' (fun q => h73 (by rw [q])))] at hQ; exact hQ) | (rw [if_pos (Or.inr ((nI_eq (by omega) (by omega)).mp h73))] at hQ; exact hQ)
        · refine az_iconst (v := 1) dX8_says_76 (by decide) ?_
          refine az_goto (t := 81) dX8_says_77 (by decide) ?_
          refine az_iret dX8_says_81 rfl ?_
          first | exact hQ | (rw [if_pos (Or.inl h18')] at hQ; exact hQ) | (exact absurd rfl h68) | (exact absurd h68 (by decide)) | (rw [if_neg (fun h => h.elim h18' (fun q => h73 (by rw [q])))] at hQ; exact hQ) | (rw [if_pos (Or.inr ((nI_eq (by omega) (by omega)).mp h73))] at hQ; exact hQ)
    by_cases hs34_2 : mem 392 1 = 2
    · refine az_tin (off := 48) (t := 82) dX8_says_34 (by rw [hs34_2]; decide) (by rw [hs34_2]; decide) (by rw [hs34_2]; decide) (by decide) ?_
      rw [if_neg hs34_0, if_neg hs34_1, if_pos hs34_2] at hQ
      refine az_iload dX8_says_82 rfl ?_
      refine az_ifeq (t := 91) dX8_says_84 (by decide) (fun h84 => ?_) (fun h84 => ?_)
      · refine az_iconst (v := 0) dX8_says_91 (by decide) ?_
        refine az_iret dX8_says_92 rfl ?_
        first | exact hQ | (rw [if_pos h18'] at hQ; exact hQ) | (exact absurd rfl h84) | (exact absurd h84 (by decide)) | (rw [if_neg h18'] at hQ; exact hQ)
      · refine az_iconst (v := 1) dX8_says_87 (by decide) ?_
        refine az_goto (t := 92) dX8_says_88 (by decide) ?_
        refine az_iret dX8_says_92 rfl ?_
        first | exact hQ | (rw [if_pos h18'] at hQ; exact hQ) | (exact absurd rfl h84) | (exact absurd h84 (by decide)) | (rw [if_neg h18'] at hQ; exact hQ)
    by_cases hs34_3 : mem 392 1 = 3
    · refine az_tin (off := 59) (t := 93) dX8_says_34 (by rw [hs34_3]; decide) (by rw [hs34_3]; decide) (by rw [hs34_3]; decide) (by decide) ?_
      rw [if_neg hs34_0, if_neg hs34_1, if_neg hs34_2, if_pos hs34_3] at hQ
      refine az_iloadn dX8_says_93 rfl ?_
      refine az_aloadn dX8_says_94 rfl ?_
      refine az_getr dX8_says_95 flX8_7 sh_391 rfl ?_
      refine az_iconst (v := 2) dX8_says_98 (by decide) ?_
      refine az_iald (2) dX8_says_99 sh_392 (by omega) (by decide) (by simp only [az_lit, nI_add, pk_mul, Nat.add_assoc]) ?_
      refine az_icmpgt (t := 107) dX8_says_100 (by decide) (fun h100 => ?_) (fun h100 => ?_)
      · rw [if_neg (fun h => absurd h100 (Int32.not_lt.mpr h))] at hQ
        refine az_iconst (v := 0) dX8_says_107 (by decide) ?_
        refine az_iret dX8_says_108 rfl ?_
        exact hQ
      · rw [if_pos (Int32.not_lt.mp h100)] at hQ
        refine az_iconst (v := 1) dX8_says_103 (by decide) ?_
        refine az_goto (t := 108) dX8_says_104 (by decide) ?_
        refine az_iret dX8_says_108 rfl ?_
        exact hQ
    refine az_tout (t := 109) dX8_says_34 (by have g0 := zi_ne (k := 0) (by decide) hs34_0; have g1 := zi_ne (k := 1) (by decide) hs34_1; have g2 := zi_ne (k := 2) (by decide) hs34_2; have g3 := zi_ne (k := 3) (by decide) hs34_3; omega) (by decide) ?_
    rw [if_neg hs34_0, if_neg hs34_1, if_neg hs34_2, if_neg hs34_3] at hQ
    refine az_iloadn dX8_says_109 rfl ?_
    refine az_aloadn dX8_says_110 rfl ?_
    refine az_getr dX8_says_111 flX8_7 sh_391 rfl ?_
    refine az_sipush (v := 263) dX8_says_114 (by decide) ?_
    refine az_iloadn dX8_says_117 rfl ?_
    refine az_iadd dX8_says_118 ?_
    refine az_iald (263 + m) dX8_says_119 sh_392 (by omega) (by decide) (by simp only [az_lit, nI_add, pk_mul, Nat.add_assoc]) ?_
    refine az_icmpgt (t := 127) dX8_says_120 (by decide) (fun h120 => ?_) (fun h120 => ?_)
    · rw [if_neg (fun h => absurd h120 (Int32.not_lt.mpr h))] at hQ
      refine az_iconst (v := 0) dX8_says_127 (by decide) ?_
      refine az_iret dX8_says_128 rfl ?_
      exact hQ
    · rw [if_pos (Int32.not_lt.mp h120)] at hQ
      refine az_iconst (v := 1) dX8_says_123 (by decide) ?_
      refine az_goto (t := 128) dX8_says_124 (by decide) ?_
      refine az_iret dX8_says_128 rfl ?_
      exact hQ
  · have h18' : 0 < zm_len (mem 392) (16 * m + p) := Int32.not_le.mp h18
    refine az_iconst (v := 1) dX8_says_21 (by decide) ?_
    refine az_goto (t := 26) dX8_says_22 (by decide) ?_
    refine az_istore dX8_says_26 (by decide) ?_
    dsimp only [List.set]
    refine az_aloadn dX8_says_28 rfl ?_
    refine az_getr dX8_says_29 flX8_7 sh_391 rfl ?_
    refine az_iconst (v := 1) dX8_says_32 (by decide) ?_
    refine az_iald (1) dX8_says_33 sh_392 (by omega) (by decide) (by simp only [az_lit, nI_add, pk_mul, Nat.add_assoc]) ?_
    by_cases hs34_0 : mem 392 1 = 0
    · refine az_tin (off := 30) (t := 64) dX8_says_34 (by rw [hs34_0]; decide) (by rw [hs34_0]; decide) (by rw [hs34_0]; decide) (by decide) ?_
      rw [if_pos hs34_0] at hQ
      refine az_iloadn dX8_says_64 rfl ?_
      refine az_iret dX8_says_65 rfl ?_
      exact hQ
    by_cases hs34_1 : mem 392 1 = 1
    · refine az_tin (off := 32) (t := 66) dX8_says_34 (by rw [hs34_1]; decide) (by rw [hs34_1]; decide) (by rw [hs34_1]; decide) (by decide) ?_
      rw [if_neg hs34_0, if_pos hs34_1] at hQ
      refine az_iload dX8_says_66 rfl ?_
      refine az_ifne (t := 76) dX8_says_68 (by decide) (fun h68 => ?_) (fun h68 => ?_)
      · refine az_iconst (v := 1) dX8_says_76 (by decide) ?_
        refine az_goto (t := 81) dX8_says_77 (by decide) ?_
        refine az_iret dX8_says_81 rfl ?_
        first | exact hQ | (rw [if_pos (Or.inl h18')] at hQ; exact hQ) | (exact absurd rfl h68) | (exact absurd h68 (by decide)) | (rw [if_neg (fun h => h.elim h18' (fun q => h73 (by rw [q])))] at hQ; exact hQ) | (rw [if_pos (Or.inr ((nI_eq (by omega) (by omega)).mp h73))] at hQ; exact hQ)
      · refine az_iloadn dX8_says_71 rfl ?_
        refine az_iloadn dX8_says_72 rfl ?_
        refine az_icmpne (t := 80) dX8_says_73 (by decide) (fun h73 => ?_) (fun h73 => ?_)
        · refine az_iconst (v := 0) dX8_says_80 (by decide) ?_
          refine az_iret dX8_says_81 rfl ?_
          first | exact hQ | (rw [if_pos (Or.inl h18')] at hQ; exact hQ) | (exact absurd rfl h68) | (exact absurd h68 (by decide)) | (rw [if_neg (fun h => h.elim h18' (fun q => h73 (by rw [q])))] at hQ; exact hQ) | (rw [if_pos (Or.inr ((nI_eq (by omega) (by omega)).mp h73))] at hQ; exact hQ)
        · refine az_iconst (v := 1) dX8_says_76 (by decide) ?_
          refine az_goto (t := 81) dX8_says_77 (by decide) ?_
          refine az_iret dX8_says_81 rfl ?_
          first | exact hQ | (rw [if_pos (Or.inl h18')] at hQ; exact hQ) | (exact absurd rfl h68) | (exact absurd h68 (by decide)) | (rw [if_neg (fun h => h.elim h18' (fun q => h73 (by rw [q])))] at hQ; exact hQ) | (rw [if_pos (Or.inr ((nI_eq (by omega) (by omega)).mp h73))] at hQ; exact hQ)
    by_cases hs34_2 : mem 392 1 = 2
    · refine az_tin (off := 48) (t := 82) dX8_says_34 (by rw [hs34_2]; decide) (by rw [hs34_2]; decide) (by rw [hs34_2]; decide) (by decide) ?_
      rw [if_neg hs34_0, if_neg hs34_1, if_pos hs34_2] at hQ
      refine az_iload dX8_says_82 rfl ?_
      refine az_ifeq (t := 91) dX8_says_84 (by decide) (fun h84 => ?_) (fun h84 => ?_)
      · refine az_iconst (v := 0) dX8_says_91 (by decide) ?_
        refine az_iret dX8_says_92 rfl ?_
        first | exact hQ | (rw [if_pos h18'] at hQ; exact hQ) | (exact absurd rfl h84) | (exact absurd h84 (by decide)) | (rw [if_neg h18'] at hQ; exact hQ)
      · refine az_iconst (v := 1) dX8_says_87 (by decide) ?_
        refine az_goto (t := 92) dX8_says_88 (by decide) ?_
        refine az_iret dX8_says_92 rfl ?_
        first | exact hQ | (rw [if_pos h18'] at hQ; exact hQ) | (exact absurd rfl h84) | (exact absurd h84 (by decide)) | (rw [if_neg h18'] at hQ; exact hQ)
    by_cases hs34_3 : mem 392 1 = 3
    · refine az_tin (off := 59) (t := 93) dX8_says_34 (by rw [hs34_3]; decide) (by rw [hs34_3]; decide) (by rw [hs34_3]; decide) (by decide) ?_
      rw [if_neg hs34_0, if_neg hs34_1, if_neg hs34_2, if_pos hs34_3] at hQ
      refine az_iloadn dX8_says_93 rfl ?_
      refine az_aloadn dX8_says_94 rfl ?_
      refine az_getr dX8_says_95 flX8_7 sh_391 rfl ?_
      refine az_iconst (v := 2) dX8_says_98 (by decide) ?_
      refine az_iald (2) dX8_says_99 sh_392 (by omega) (by decide) (by simp only [az_lit, nI_add, pk_mul, Nat.add_assoc]) ?_
      refine az_icmpgt (t := 107) dX8_says_100 (by decide) (fun h100 => ?_) (fun h100 => ?_)
      · rw [if_neg (fun h => absurd h100 (Int32.not_lt.mpr h))] at hQ
        refine az_iconst (v := 0) dX8_says_107 (by decide) ?_
        refine az_iret dX8_says_108 rfl ?_
        exact hQ
      · rw [if_pos (Int32.not_lt.mp h100)] at hQ
        refine az_iconst (v := 1) dX8_says_103 (by decide) ?_
        refine az_goto (t := 108) dX8_says_104 (by decide) ?_
        refine az_iret dX8_says_108 rfl ?_
        exact hQ
    refine az_tout (t := 109) dX8_says_34 (by have g0 := zi_ne (k := 0) (by decide) hs34_0; have g1 := zi_ne (k := 1) (by decide) hs34_1; have g2 := zi_ne (k := 2) (by decide) hs34_2; have g3 := zi_ne (k := 3) (by decide) hs34_3; omega) (by decide) ?_
    rw [if_neg hs34_0, if_neg hs34_1, if_neg hs34_2, if_neg hs34_3] at hQ
    refine az_iloadn dX8_says_109 rfl ?_
    refine az_aloadn dX8_says_110 rfl ?_
    refine az_getr dX8_says_111 flX8_7 sh_391 rfl ?_
    refine az_sipush (v := 263) dX8_says_114 (by decide) ?_
    refine az_iloadn dX8_says_117 rfl ?_
    refine az_iadd dX8_says_118 ?_
    refine az_iald (263 + m) dX8_says_119 sh_392 (by omega) (by decide) (by simp only [az_lit, nI_add, pk_mul, Nat.add_assoc]) ?_
    refine az_icmpgt (t := 127) dX8_says_120 (by decide) (fun h120 => ?_) (fun h120 => ?_)
    · rw [if_neg (fun h => absurd h120 (Int32.not_lt.mpr h))] at hQ
      refine az_iconst (v := 0) dX8_says_127 (by decide) ?_
      refine az_iret dX8_says_128 rfl ?_
      exact hQ
    · rw [if_pos (Int32.not_lt.mp h120)] at hQ
      refine az_iconst (v := 1) dX8_says_123 (by decide) ?_
      refine az_goto (t := 128) dX8_says_124 (by decide) ?_
      refine az_iret dX8_says_128 rfl ?_
      exact hQ
theorem s_X8_walk (hn : mem 392 0 = nI N) (hN : N ≤ 16) (hQ : ∀ m', (∀ k, k ≠ 395 → k ≠ 396 → m' k = mem k) → m' 395 = zw_k N N 0 (zw_00 (zm_len (mem 392)) (mem 395)) → (∀ a b, a < N → b < N → m' 396 (16 * a + b) = zs_says (mem 392) (m' 395) a b) → Q none m') : az_Sp X (d + 2) mX8_walk [.inr 391] mem Q := by
  refine az_body (by decide +kernel) (Nat.le_of_ble_eq_true rfl) ?_
  show az_Ev X _ mX8_walk 0 [some (.inr 391), none, none, none, none] [] mem Q
  refine az_iconst (v := 0) dX8_walk_0 (by decide) ?_
  refine az_istoren dX8_walk_1 (by decide) ?_
  dsimp only [List.set]
  skip
  refine az_up (fun i => ∀ m' L2, (∀ k, k ≠ 395 → m' k = mem k) → (∀ j, j < 16 * i → m' 395 j = zw_0 (zm_len (mem 392)) j) → (∀ j, 256 ≤ j → m' 395 j = mem 395 j) → az_Ev X (d + 2) mX8_walk 2 [some (.inr 391), some (.inl (nI i)), L2, none, none] [] m' Q) 16 0 (by omega) (fun i _ hi ih m' L2 hf h1 h2 => ?_) (fun m' L2 hf h1 h2 => ?_) mem none (fun _ _ => rfl) (fun j h => absurd h (by omega)) (fun _ _ => rfl)
  · refine az_iloadn dX8_walk_2 rfl ?_
    refine az_bipush (v := 16) dX8_walk_3 (by decide) ?_
    refine az_icmpge (t := 68) dX8_walk_5 (by decide) (fun h5 => ?_) (fun h5 => ?_)
    · exact absurd h5 (nI_ge (b := 16) hi (by decide))
    refine az_iconst (v := 0) dX8_walk_8 (by decide) ?_
    refine az_istoren dX8_walk_9 (by decide) ?_
    dsimp only [List.set]
    skip
    refine az_up (fun j => ∀ m', (∀ k, k ≠ 395 → m' k = mem k) → (∀ q, q < 16 * i + j → m' 395 q = zw_0 (zm_len (mem 392)) q) → (∀ j, 256 ≤ j → m' 395 j = mem 395 j) → az_Ev X (d + 2) mX8_walk 10 [some (.inr 391), some (.inl (nI i)), some (.inl (nI j)), none, none] [] m' Q) 16 0 (by omega) (fun j _ hj ih2 m' hf h1 h2 => ?_) (fun m' hf h1 h2 => ?_) m' hf h1 h2
    · have ed : (16 * i + j) / 16 = i := by omega
      have em : (16 * i + j) % 16 = j := by omega
      have fin : ∀ v, v = zw_0 (zm_len (mem 392)) (16 * i + j) → az_Ev X (d + 2) mX8_walk 10 [some (.inr 391), some (.inl (nI i)), some (.inl (nI (j + 1))), none, none] [] (az_w m' 395 (16 * i + j) v) Q := by
        intro v hv
        refine ih2 _ (fun k hk => by rw [az_w_ne _ hk]; exact hf k hk) (fun q hq => ?_) (fun q hq => ?_)
        · rw [az_w_eq]
          by_cases hqq : q = 16 * i + j
          · rw [if_pos ⟨rfl, hqq⟩, hqq]; exact hv
          · rw [if_neg (fun h => hqq h.2)]; exact h1 q (by omega)
        · rw [az_w_eq, if_neg (by omega)]; exact h2 q hq
      unfold zw_0 at fin
      rw [ed, em] at fin
      refine az_iloadn dX8_walk_10 rfl ?_
      refine az_bipush (v := 16) dX8_walk_11 (by decide) ?_
      refine az_icmpge (t := 62) dX8_walk_13 (by decide) (fun h13 => ?_) (fun h13 => ?_)
      · exact absurd h13 (nI_ge (b := 16) hj (by decide))
      refine az_aloadn dX8_walk_16 rfl ?_
      refine az_getr dX8_walk_17 flX8_20 sh_391 rfl ?_
      refine az_bipush (v := 16) dX8_walk_20 (by decide) ?_
      refine az_iloadn dX8_walk_22 rfl ?_
      refine az_imul dX8_walk_23 ?_
      refine az_iloadn dX8_walk_24 rfl ?_
      refine az_iadd dX8_walk_25 ?_
      refine az_iloadn dX8_walk_26 rfl ?_
      refine az_iloadn dX8_walk_27 rfl ?_
      refine az_icmpne (t := 35) dX8_walk_28 (by decide) (fun h28 => ?_) (fun h28 => ?_)
      · have hij : ¬ i = j := fun h => h28 (by rw [h])
        refine az_aloadn dX8_walk_35 rfl ?_
        refine az_iloadn dX8_walk_36 rfl ?_
        refine az_iloadn dX8_walk_37 rfl ?_
        refine az_inv2 (N := mX8_length) dX8_walk_38 lkX8_70 okX8_length sh_391 rfl (Nat.le_of_ble_eq_true rfl) ?_
        refine s_X8_length (by omega) (by omega) ?_
        try dsimp only [az_ps]
        refine az_ifle (t := 53) dX8_walk_41 (by decide) (fun h41 => ?_) (fun h41 => ?_)
        · rw [hf 392 (by decide)] at h41
          refine az_ldc dX8_walk_53 kcX8_74 ?_
          refine az_iast (16 * i + j) dX8_walk_55 sh_395 (by omega) (by decide) (by simp only [az_lit, nI_add, pk_mul, Nat.add_assoc]) ?_
          refine az_iinc (w := 1) dX8_walk_56 rfl (by decide) (by decide) ?_
          dsimp only [List.set]
          refine az_goto (t := 10) dX8_walk_59 (by decide) ?_
          rw [nI_1]
          first
          | exact fin _ (by rw [if_pos hij])
          | exact fin _ (by rw [if_neg hij, if_neg (fun h => absurd h41 (Int32.not_le.mpr h))])
          | exact fin _ (by rw [if_neg hij, if_pos (Int32.not_le.mp h41), hf 392 (by decide)])
        · rw [hf 392 (by decide)] at h41
          refine az_aloadn dX8_walk_44 rfl ?_
          refine az_iloadn dX8_walk_45 rfl ?_
          refine az_iloadn dX8_walk_46 rfl ?_
          refine az_inv2 (N := mX8_length) dX8_walk_47 lkX8_70 okX8_length sh_391 rfl (Nat.le_of_ble_eq_true rfl) ?_
          refine s_X8_length (by omega) (by omega) ?_
          try dsimp only [az_ps]
          refine az_goto (t := 55) dX8_walk_50 (by decide) ?_
          refine az_iast (16 * i + j) dX8_walk_55 sh_395 (by omega) (by decide) (by simp only [az_lit, nI_add, pk_mul, Nat.add_assoc]) ?_
          refine az_iinc (w := 1) dX8_walk_56 rfl (by decide) (by decide) ?_
          dsimp only [List.set]
          refine az_goto (t := 10) dX8_walk_59 (by decide) ?_
          rw [nI_1]
          first
          | exact fin _ (by rw [if_pos hij])
          | exact fin _ (by rw [if_neg hij, if_neg (fun h => absurd h41 (Int32.not_le.mpr h))])
          | exact fin _ (by rw [if_neg hij, if_pos (Int32.not_le.mp h41), hf 392 (by decide)])
      · have hij : i = j := (nI_eq (by omega) (by omega)).mp h28
        refine az_iconst (v := 0) dX8_walk_31 (by decide) ?_
        refine az_goto (t := 55) dX8_walk_32 (by decide) ?_
        refine az_iast (16 * i + j) dX8_walk_55 sh_395 (by omega) (by decide) (by simp only [az_lit, nI_add, pk_mul, Nat.add_assoc]) ?_
        refine az_iinc (w := 1) dX8_walk_56 rfl (by decide) (by decide) ?_
        dsimp only [List.set]
        refine az_goto (t := 10) dX8_walk_59 (by decide) ?_
        rw [nI_1]
        first
        | exact fin _ (by rw [if_pos hij])
        | exact fin _ (by rw [if_neg hij, if_neg (fun h => absurd h41 (Int32.not_le.mpr h))])
        | exact fin _ (by rw [if_neg hij, if_pos (Int32.not_le.mp h41), hf 392 (by decide)])
    · refine az_iloadn dX8_walk_10 rfl ?_
      refine az_bipush (v := 16) dX8_walk_11 (by decide) ?_
      refine az_icmpge (t := 62) dX8_walk_13 (by decide) (fun h13 => ?_) (fun h13 => ?_)
      rotate_left 1
      · exact absurd (Int32.le_refl _) h13
      refine az_iinc (w := 1) dX8_walk_62 rfl (by decide) (by decide) ?_
      dsimp only [List.set]
      refine az_goto (t := 2) dX8_walk_65 (by decide) ?_
      rw [nI_1]; exact ih _ _ hf (fun j hj => h1 j (by omega)) h2
  · have hn' : m' 392 0 = nI N := by rw [hf 392 (by decide)]; exact hn
    have hw : m' 395 = zw_00 (zm_len (mem 392)) (mem 395) := by
      funext j
      unfold zw_00
      by_cases hj : j < 256
      · rw [if_pos hj]; exact h1 j (by omega)
      · rw [if_neg hj]; exact h2 j (by omega)
    clear h1 h2 hn'
    refine az_iloadn dX8_walk_2 rfl ?_
    refine az_bipush (v := 16) dX8_walk_3 (by decide) ?_
    refine az_icmpge (t := 68) dX8_walk_5 (by decide) (fun h5 => ?_) (fun h5 => ?_)
    rotate_left 1
    · exact absurd (Int32.le_refl _) h5
    refine az_iconst (v := 0) dX8_walk_68 (by decide) ?_
    refine az_istoren dX8_walk_69 (by decide) ?_
    dsimp only [List.set]
    skip
    rw [← hw] at hQ
    generalize hR : zw_k N N 0 (m' 395) = R at hQ
    refine az_up (fun i => ∀ m' L2 L3 L4, (∀ k, k ≠ 395 → m' k = mem k) → zw_k N (N - i) i (m' 395) = R → az_Ev X (d + 2) mX8_walk 70 [some (.inr 391), some (.inl (nI i)), L2, L3, L4] [] m' Q) N 0 (by omega) (fun k _ hk ih m' L2 L3 L4 hf h1 => ?_) (fun m' L2 L3 L4 hf h1 => ?_) m' L2 none none hf hR
    · have hn' : m' 392 0 = nI N := by rw [hf 392 (by decide)]; exact hn
      rw [zs_sub hk, zw_k] at h1
      refine az_iloadn dX8_walk_70 rfl ?_
      refine az_aloadn dX8_walk_71 rfl ?_
      refine az_inv0 (N := mX8_n) dX8_walk_72 lkX8_62 okX8_n sh_391 rfl (Nat.le_of_ble_eq_true rfl) ?_
      refine t_X8_n hn' ?_
      try dsimp only [az_ps]
      refine az_icmpge (t := 170) dX8_walk_75 (by decide) (fun h75 => ?_) (fun h75 => ?_)
      · exact absurd h75 (nI_ge (by omega) (by omega))
      refine az_iconst (v := 0) dX8_walk_78 (by decide) ?_
      refine az_istoren dX8_walk_79 (by decide) ?_
      dsimp only [List.set]
      skip
      generalize hR2 : zw_a N k N 0 (m' 395) = R2 at h1
      refine az_up (fun a => ∀ m' L3 L4, (∀ k, k ≠ 395 → m' k = mem k) → zw_a N k (N - a) a (m' 395) = R2 → az_Ev X (d + 2) mX8_walk 80 [some (.inr 391), some (.inl (nI k)), some (.inl (nI a)), L3, L4] [] m' Q) N 0 (by omega) (fun a _ ha ih2 m' L3 L4 hf h2 => ?_) (fun m' L3 L4 hf h2 => ?_) m' L3 L4 hf hR2
      · have hn' : m' 392 0 = nI N := by rw [hf 392 (by decide)]; exact hn
        rw [zs_sub ha, zw_a] at h2
        refine az_iloadn dX8_walk_80 rfl ?_
        refine az_aloadn dX8_walk_81 rfl ?_
        refine az_inv0 (N := mX8_n) dX8_walk_82 lkX8_62 okX8_n sh_391 rfl (Nat.le_of_ble_eq_true rfl) ?_
        refine t_X8_n hn' ?_
        try dsimp only [az_ps]
        refine az_icmpge (t := 164) dX8_walk_85 (by decide) (fun h85 => ?_) (fun h85 => ?_)
        · exact absurd h85 (nI_ge (by omega) (by omega))
        refine az_iconst (v := 0) dX8_walk_88 (by decide) ?_
        refine az_istoren dX8_walk_89 (by decide) ?_
        dsimp only [List.set]
        skip
        generalize hR3 : zw_b a k N 0 (m' 395) = R3 at h2
        refine az_up (fun b => ∀ m' L4, (∀ k, k ≠ 395 → m' k = mem k) → zw_b a k (N - b) b (m' 395) = R3 → az_Ev X (d + 2) mX8_walk 90 [some (.inr 391), some (.inl (nI k)), some (.inl (nI a)), some (.inl (nI b)), L4] [] m' Q) N 0 (by omega) (fun b _ hb ih3 m' L4 hf h3 => ?_) (fun m' L4 hf h3 => ?_) m' L4 hf hR3
        · have hn' : m' 392 0 = nI N := by rw [hf 392 (by decide)]; exact hn
          rw [zs_sub hb, zw_b, zw_st] at h3
          refine az_iloadn dX8_walk_90 rfl ?_
          refine az_aloadn dX8_walk_91 rfl ?_
          refine az_inv0 (N := mX8_n) dX8_walk_92 lkX8_62 okX8_n sh_391 rfl (Nat.le_of_ble_eq_true rfl) ?_
          refine t_X8_n hn' ?_
          try dsimp only [az_ps]
          refine az_icmpge (t := 158) dX8_walk_95 (by decide) (fun h95 => ?_) (fun h95 => ?_)
          · exact absurd h95 (nI_ge (by omega) (by omega))
          refine az_aloadn dX8_walk_98 rfl ?_
          refine az_getr dX8_walk_99 flX8_20 sh_391 rfl ?_
          refine az_bipush (v := 16) dX8_walk_102 (by decide) ?_
          refine az_iloadn dX8_walk_104 rfl ?_
          refine az_imul dX8_walk_105 ?_
          refine az_iloadn dX8_walk_106 rfl ?_
          refine az_iadd dX8_walk_107 ?_
          refine az_iald (16 * a + k) dX8_walk_108 sh_395 (by omega) (by decide) (by simp only [az_lit, nI_add, pk_mul, Nat.add_assoc]) ?_
          refine az_aloadn dX8_walk_109 rfl ?_
          refine az_getr dX8_walk_110 flX8_20 sh_391 rfl ?_
          refine az_bipush (v := 16) dX8_walk_113 (by decide) ?_
          refine az_iloadn dX8_walk_115 rfl ?_
          refine az_imul dX8_walk_116 ?_
          refine az_iloadn dX8_walk_117 rfl ?_
          refine az_iadd dX8_walk_118 ?_
          refine az_iald (16 * k + b) dX8_walk_119 sh_395 (by omega) (by decide) (by simp only [az_lit, nI_add, pk_mul, Nat.add_assoc]) ?_
          refine az_iadd dX8_walk_120 ?_
          refine az_istore dX8_walk_121 (by decide) ?_
          dsimp only [List.set]
          refine az_iload dX8_walk_123 rfl ?_
          refine az_aloadn dX8_walk_125 rfl ?_
          refine az_getr dX8_walk_126 flX8_20 sh_391 rfl ?_
          refine az_bipush (v := 16) dX8_walk_129 (by decide) ?_
          refine az_iloadn dX8_walk_131 rfl ?_
          refine az_imul dX8_walk_132 ?_
          refine az_iloadn dX8_walk_133 rfl ?_
          refine az_iadd dX8_walk_134 ?_
          refine az_iald (16 * a + b) dX8_walk_135 sh_395 (by omega) (by decide) (by simp only [az_lit, nI_add, pk_mul, Nat.add_assoc]) ?_
          refine az_icmpge (t := 152) dX8_walk_136 (by decide) (fun h136 => ?_) (fun h136 => ?_)
          · rw [if_neg (Int32.not_lt.mpr h136)] at h3
            refine az_iinc (w := 1) dX8_walk_152 rfl (by decide) (by decide) ?_
            dsimp only [List.set]
            refine az_goto (t := 90) dX8_walk_155 (by decide) ?_
            rw [nI_1]
            first
            | exact ih3 _ _ hf h3
            | exact ih3 _ _ (fun q hq => by rw [az_w_ne _ hq]; exact hf q hq) (by rw [az_w_same]; exact h3)
          · rw [if_pos (Int32.not_le.mp h136)] at h3
            refine az_aloadn dX8_walk_139 rfl ?_
            refine az_getr dX8_walk_140 flX8_20 sh_391 rfl ?_
            refine az_bipush (v := 16) dX8_walk_143 (by decide) ?_
            refine az_iloadn dX8_walk_145 rfl ?_
            refine az_imul dX8_walk_146 ?_
            refine az_iloadn dX8_walk_147 rfl ?_
            refine az_iadd dX8_walk_148 ?_
            refine az_iload dX8_walk_149 rfl ?_
            refine az_iast (16 * a + b) dX8_walk_151 sh_395 (by omega) (by decide) (by simp only [az_lit, nI_add, pk_mul, Nat.add_assoc]) ?_
            refine az_iinc (w := 1) dX8_walk_152 rfl (by decide) (by decide) ?_
            dsimp only [List.set]
            refine az_goto (t := 90) dX8_walk_155 (by decide) ?_
            rw [nI_1]
            first
            | exact ih3 _ _ hf h3
            | exact ih3 _ _ (fun q hq => by rw [az_w_ne _ hq]; exact hf q hq) (by rw [az_w_same]; exact h3)
        · have hn' : m' 392 0 = nI N := by rw [hf 392 (by decide)]; exact hn
          rw [Nat.sub_self, zw_b] at h3
          refine az_iloadn dX8_walk_90 rfl ?_
          refine az_aloadn dX8_walk_91 rfl ?_
          refine az_inv0 (N := mX8_n) dX8_walk_92 lkX8_62 okX8_n sh_391 rfl (Nat.le_of_ble_eq_true rfl) ?_
          refine t_X8_n hn' ?_
          try dsimp only [az_ps]
          refine az_icmpge (t := 158) dX8_walk_95 (by decide) (fun h95 => ?_) (fun h95 => ?_)
          rotate_left 1
          · exact absurd (Int32.le_refl _) h95
          refine az_iinc (w := 1) dX8_walk_158 rfl (by decide) (by decide) ?_
          dsimp only [List.set]
          refine az_goto (t := 80) dX8_walk_161 (by decide) ?_
          rw [nI_1]; exact ih2 _ _ _ hf (by rw [h3]; exact h2)
      · have hn' : m' 392 0 = nI N := by rw [hf 392 (by decide)]; exact hn
        rw [Nat.sub_self, zw_a] at h2
        refine az_iloadn dX8_walk_80 rfl ?_
        refine az_aloadn dX8_walk_81 rfl ?_
        refine az_inv0 (N := mX8_n) dX8_walk_82 lkX8_62 okX8_n sh_391 rfl (Nat.le_of_ble_eq_true rfl) ?_
        refine t_X8_n hn' ?_
        try dsimp only [az_ps]
        refine az_icmpge (t := 164) dX8_walk_85 (by decide) (fun h85 => ?_) (fun h85 => ?_)
        rotate_left 1
        · exact absurd (Int32.le_refl _) h85
        refine az_iinc (w := 1) dX8_walk_164 rfl (by decide) (by decide) ?_
        dsimp only [List.set]
        refine az_goto (t := 70) dX8_walk_167 (by decide) ?_
        rw [nI_1]; exact ih _ _ _ _ hf (by rw [h2]; exact h1)
    · have hn' : m' 392 0 = nI N := by rw [hf 392 (by decide)]; exact hn
      rw [Nat.sub_self, zw_k] at h1
      refine az_iloadn dX8_walk_70 rfl ?_
      refine az_aloadn dX8_walk_71 rfl ?_
      refine az_inv0 (N := mX8_n) dX8_walk_72 lkX8_62 okX8_n sh_391 rfl (Nat.le_of_ble_eq_true rfl) ?_
      refine t_X8_n hn' ?_
      try dsimp only [az_ps]
      refine az_icmpge (t := 170) dX8_walk_75 (by decide) (fun h75 => ?_) (fun h75 => ?_)
      rotate_left 1
      · exact absurd (Int32.le_refl _) h75
      refine az_iconst (v := 0) dX8_walk_170 (by decide) ?_
      refine az_istoren dX8_walk_171 (by decide) ?_
      dsimp only [List.set]
      skip
      refine az_up (fun i => ∀ m' L2, (∀ k, k ≠ 395 → k ≠ 396 → m' k = mem k) → m' 395 = R → (∀ a b, a < i → b < N → m' 396 (16 * a + b) = zs_says (mem 392) R a b) → az_Ev X (d + 2) mX8_walk 172 [some (.inr 391), some (.inl (nI i)), L2, L3, L4] [] m' Q) N 0 (by omega) (fun i _ hi ih m' L2 hf h1 h2 => ?_) (fun m' L2 hf h1 h2 => ?_) m' L2 (fun k h1 h2 => hf k h1) h1 (fun a b h => absurd h (by omega))
      · have hn' : m' 392 0 = nI N := by rw [hf 392 (by decide) (by decide)]; exact hn
        refine az_iloadn dX8_walk_172 rfl ?_
        refine az_aloadn dX8_walk_173 rfl ?_
        refine az_inv0 (N := mX8_n) dX8_walk_174 lkX8_62 okX8_n sh_391 rfl (Nat.le_of_ble_eq_true rfl) ?_
        refine t_X8_n hn' ?_
        try dsimp only [az_ps]
        refine az_icmpge (t := 219) dX8_walk_177 (by decide) (fun h177 => ?_) (fun h177 => ?_)
        · exact absurd h177 (nI_ge (by omega) (by omega))
        refine az_iconst (v := 0) dX8_walk_180 (by decide) ?_
        refine az_istoren dX8_walk_181 (by decide) ?_
        dsimp only [List.set]
        skip
        refine az_up (fun j => ∀ m', (∀ k, k ≠ 395 → k ≠ 396 → m' k = mem k) → m' 395 = R → (∀ a b, a < i → b < N → m' 396 (16 * a + b) = zs_says (mem 392) R a b) → (∀ b, b < j → m' 396 (16 * i + b) = zs_says (mem 392) R i b) → az_Ev X (d + 2) mX8_walk 182 [some (.inr 391), some (.inl (nI i)), some (.inl (nI j)), L3, L4] [] m' Q) N 0 (by omega) (fun j _ hj ih2 m' hf h1 h2 h3 => ?_) (fun m' hf h1 h2 h3 => ?_) m' hf h1 h2 (fun b h => absurd h (by omega))
        · have hn' : m' 392 0 = nI N := by rw [hf 392 (by decide) (by decide)]; exact hn
          refine az_iloadn dX8_walk_182 rfl ?_
          refine az_aloadn dX8_walk_183 rfl ?_
          refine az_inv0 (N := mX8_n) dX8_walk_184 lkX8_62 okX8_n sh_391 rfl (Nat.le_of_ble_eq_true rfl) ?_
          refine t_X8_n hn' ?_
          try dsimp only [az_ps]
          refine az_icmpge (t := 213) dX8_walk_187 (by decide) (fun h187 => ?_) (fun h187 => ?_)
          · exact absurd h187 (nI_ge (by omega) (by omega))
          refine az_aloadn dX8_walk_190 rfl ?_
          refine az_getr dX8_walk_191 flX8_23 sh_391 rfl ?_
          refine az_bipush (v := 16) dX8_walk_194 (by decide) ?_
          refine az_iloadn dX8_walk_196 rfl ?_
          refine az_imul dX8_walk_197 ?_
          refine az_iloadn dX8_walk_198 rfl ?_
          refine az_iadd dX8_walk_199 ?_
          refine az_aloadn dX8_walk_200 rfl ?_
          refine az_iloadn dX8_walk_201 rfl ?_
          refine az_iloadn dX8_walk_202 rfl ?_
          refine az_inv2 (N := mX8_says) dX8_walk_203 lkX8_75 okX8_says sh_391 rfl (Nat.le_of_ble_eq_true rfl) ?_
          refine s_X8_says (by omega) (by omega) ?_
          rw [hf 392 (by decide) (by decide), h1]
          try dsimp only [az_ps]
          refine az_iast (16 * i + j) dX8_walk_206 sh_396 (by omega) (by decide) (by simp only [az_lit, nI_add, pk_mul, Nat.add_assoc]) ?_
          refine az_iinc (w := 1) dX8_walk_207 rfl (by decide) (by decide) ?_
          dsimp only [List.set]
          refine az_goto (t := 182) dX8_walk_210 (by decide) ?_
          rw [nI_1]
          refine ih2 _ (fun k hk1 hk2 => by rw [az_w_ne _ hk2]; exact hf k hk1 hk2) (by rw [az_w_ne _ (by decide)]; exact h1) (fun a b ha hb => ?_) (fun b hb => ?_)
          · rw [az_w_eq, if_neg (by omega)]; exact h2 a b ha hb
          · rw [az_w_eq]
            by_cases hbj : b = j
            · rw [if_pos ⟨rfl, by omega⟩, hbj]
            · rw [if_neg (by omega)]; exact h3 b (by omega)
        · have hn' : m' 392 0 = nI N := by rw [hf 392 (by decide) (by decide)]; exact hn
          refine az_iloadn dX8_walk_182 rfl ?_
          refine az_aloadn dX8_walk_183 rfl ?_
          refine az_inv0 (N := mX8_n) dX8_walk_184 lkX8_62 okX8_n sh_391 rfl (Nat.le_of_ble_eq_true rfl) ?_
          refine t_X8_n hn' ?_
          try dsimp only [az_ps]
          refine az_icmpge (t := 213) dX8_walk_187 (by decide) (fun h187 => ?_) (fun h187 => ?_)
          rotate_left 1
          · exact absurd (Int32.le_refl _) h187
          refine az_iinc (w := 1) dX8_walk_213 rfl (by decide) (by decide) ?_
          dsimp only [List.set]
          refine az_goto (t := 172) dX8_walk_216 (by decide) ?_
          rw [nI_1]
          refine ih _ _ hf h1 (fun a b ha hb => ?_)
          rcases Nat.lt_or_ge a i with q | q
          · exact h2 a b q hb
          · have : a = i := by omega
            subst this; exact h3 b hb
      · have hn' : m' 392 0 = nI N := by rw [hf 392 (by decide) (by decide)]; exact hn
        refine az_iloadn dX8_walk_172 rfl ?_
        refine az_aloadn dX8_walk_173 rfl ?_
        refine az_inv0 (N := mX8_n) dX8_walk_174 lkX8_62 okX8_n sh_391 rfl (Nat.le_of_ble_eq_true rfl) ?_
        refine t_X8_n hn' ?_
        try dsimp only [az_ps]
        refine az_icmpge (t := 219) dX8_walk_177 (by decide) (fun h177 => ?_) (fun h177 => ?_)
        rotate_left 1
        · exact absurd (Int32.le_refl _) h177
        refine az_vret dX8_walk_219 rfl ?_
        exact hQ m' hf h1 (fun a b ha hb => by rw [h1]; exact h2 a b ha hb)
end MC
end
section
/-! the model's best sets, shown pairs, simple questions -/
def zm_P (an : Nat → Int32) (N i : Nat) : Int32 := zm_mask (zm_pf an (i / 16) (i % 16)) N
def zm_Y (kd : Int32) (an : Nat → Int32) (N p : Nat) : Int32 := zm_mask (zm_yf kd an p) N
theorem zm_P_at {an : Nat → Int32} {N a b : Nat} (hb : b < 16) : zm_P an N (16 * a + b) = zm_mask (zm_pf an a b) N := by
  unfold zm_P
  rw [show (16 * a + b) / 16 = a by omega, show (16 * a + b) % 16 = b by omega]
theorem zl_clash_congr {P P' Y Y' : Nat → Int32} {yw x nd : Int32} {N : Nat} (hP : ∀ a b, a < b → b < N → P (16 * a + b) = P' (16 * a + b)) (hY : ∀ p, p < N → Y p = Y' p) : zl_clash P Y yw N x nd = zl_clash P' Y' yw N x nd := by
  unfold zl_clash
  rw [zf_pr_congr (f := zl_lk P x nd) (g := zl_lk P' x nd) N 0 (by omega) (fun i j h1 h2 => by unfold zl_lk; rw [hP i j h1 h2]), zf_in_congr (f := zl_ly Y x nd) (g := zl_ly Y' x nd) N 0 (fun i h1 h2 => by unfold zl_ly; rw [hY i (by omega)])]
theorem zi_shl : ∀ n, n < 17 → (1 : Int32) <<< (nI n &&& 31) = nI (2 ^ n) := by decide +kernel
theorem zi_pow {N : Nat} (h : N ≤ 16) : 2 ^ N ≤ 65536 := Nat.pow_le_pow_right (by decide) h
def zm_price (S : Nat → Int32) (N : Nat) (x : Int32) : Int32 := zm_sum (fun p => if (x >>> (nI p &&& 31)) &&& 1 = 1 then S (279 + p) else 0) N
def zb_go (cl cost : Nat → Int32) : Nat → Nat → Int32 → Int32 → Int32
  | 0, _, b, _ => b
  | n + 1, s, b, l => if (0 ≤ b ∧ l ≤ cost s) ∨ 0 ≤ cl s then zb_go cl cost n (s + 1) b l else zb_go cl cost n (s + 1) (nI s) (cost s)
/-- the clash of set number s, out of answers and state -/
def zc_cl (S an : Nat → Int32) (N s : Nat) : Int32 := zl_clash (zm_P an N) (zm_Y (S 1) an N) (S 5) N (nI s) (zm_need (S 3) (S 4))
def zb_cost (S : Nat → Int32) (N : Nat) (pr : Int32) (s : Nat) : Int32 := if pr = 0 then zm_many (nI s) else zm_price S N (nI s)
def zb_best (S an : Nat → Int32) (N : Nat) (pr : Int32) : Int32 := zb_go (zc_cl S an N) (zb_cost S N pr) (2 ^ N) 0 (-1) 0
def zp_in (P : Nat → Int32) (a : Nat) : Nat → Nat → Int32 × List Nat → Int32 × List Nat
  | 0, _, s => s
  | n + 1, b, s => zp_in P a n (b + 1) (if P (16 * a + b) = 0 ∨ ¬ (P (16 * a + b) &&& s.1) = 0 then s else (s.1 ||| P (16 * a + b), s.2 ++ [16 * a + b]))
def zp_pr (P : Nat → Int32) (N : Nat) : Nat → Nat → Int32 × List Nat → Int32 × List Nat
  | 0, _, s => s
  | n + 1, a, s => zp_pr P N n (a + 1) (zp_in P a (N - (a + 1)) (a + 1) s)
def zp_tri : Nat → Nat
  | 0 => 0
  | n + 1 => zp_tri n + n
theorem zp_tri_le : ∀ n, n < 17 → zp_tri n ≤ 120 := by decide
def zp_list (an : Nat → Int32) (N : Nat) : List Nat := (zp_pr (zm_P an N) N N 0 (0, [])).2
section MD
variable {X : az_X} {d : Nat} {mem : az_M} {Q : Option az_V → az_M → Prop} {N : Nat}
theorem s_X8_price_ {x : Int32} (hn : mem 392 0 = nI N) (hN : N ≤ 16) (hQ : Q (some (.inl (zm_price (mem 392) N x))) mem) : az_Sp X (d + 1) mX8_price_ [.inr 391, .inl x] mem Q := by
  refine az_body (by decide +kernel) (Nat.le_of_ble_eq_true rfl) ?_
  show az_Ev X _ mX8_price_ 0 [some (.inr 391), some (.inl x), none, none] [] mem Q
  refine az_iconst (v := 0) dX8_price__0 (by decide) ?_
  refine az_istoren dX8_price__1 (by decide) ?_
  dsimp only [List.set]
  refine az_iconst (v := 0) dX8_price__2 (by decide) ?_
  refine az_istoren dX8_price__3 (by decide) ?_
  dsimp only [List.set]
  skip
  refine az_up (fun i => az_Ev X (d + 1) mX8_price_ 4 [some (.inr 391), some (.inl x), some (.inl (zm_price (mem 392) i x)), some (.inl (nI i))] [] mem Q) N 0 (by omega) (fun i _ hi ih => ?_) ?_
  · unfold zm_price at ih ⊢
    rw [zm_sum] at ih
    refine az_iloadn dX8_price__4 rfl ?_
    refine az_aloadn dX8_price__5 rfl ?_
    refine az_inv0 (N := mX8_n) dX8_price__6 lkX8_62 okX8_n sh_391 rfl (Nat.le_of_ble_eq_true rfl) ?_
    refine t_X8_n hn ?_
    try dsimp only [az_ps]
    refine az_icmpge (t := 44) dX8_price__9 (by decide) (fun h9 => ?_) (fun h9 => ?_)
    · exact absurd h9 (nI_ge (by omega) (by omega))
    refine az_iloadn dX8_price__12 rfl ?_
    refine az_iloadn dX8_price__13 rfl ?_
    refine az_iloadn dX8_price__14 rfl ?_
    refine az_ishr dX8_price__15 ?_
    refine az_iconst (v := 1) dX8_price__16 (by decide) ?_
    refine az_iand dX8_price__17 ?_
    refine az_iconst (v := 1) dX8_price__18 (by decide) ?_
    refine az_icmpne (t := 35) dX8_price__19 (by decide) (fun h19 => ?_) (fun h19 => ?_)
    · rw [if_neg h19] at ih
      refine az_iconst (v := 0) dX8_price__35 (by decide) ?_
      refine az_iadd dX8_price__36 ?_
      refine az_istoren dX8_price__37 (by decide) ?_
      dsimp only [List.set]
      refine az_iinc (w := 1) dX8_price__38 rfl (by decide) (by decide) ?_
      dsimp only [List.set]
      refine az_goto (t := 4) dX8_price__41 (by decide) ?_
      rw [nI_1]; exact ih
    · rw [if_pos h19] at ih
      refine az_aloadn dX8_price__22 rfl ?_
      refine az_getr dX8_price__23 flX8_7 sh_391 rfl ?_
      refine az_sipush (v := 279) dX8_price__26 (by decide) ?_
      refine az_iloadn dX8_price__29 rfl ?_
      refine az_iadd dX8_price__30 ?_
      refine az_iald (279 + i) dX8_price__31 sh_392 (by omega) (by decide) (by simp only [az_lit, nI_add, pk_mul, Nat.add_assoc]) ?_
      refine az_goto (t := 36) dX8_price__32 (by decide) ?_
      refine az_iadd dX8_price__36 ?_
      refine az_istoren dX8_price__37 (by decide) ?_
      dsimp only [List.set]
      refine az_iinc (w := 1) dX8_price__38 rfl (by decide) (by decide) ?_
      dsimp only [List.set]
      refine az_goto (t := 4) dX8_price__41 (by decide) ?_
      rw [nI_1]; exact ih
  · refine az_iloadn dX8_price__4 rfl ?_
    refine az_aloadn dX8_price__5 rfl ?_
    refine az_inv0 (N := mX8_n) dX8_price__6 lkX8_62 okX8_n sh_391 rfl (Nat.le_of_ble_eq_true rfl) ?_
    refine t_X8_n hn ?_
    try dsimp only [az_ps]
    refine az_icmpge (t := 44) dX8_price__9 (by decide) (fun h9 => ?_) (fun h9 => ?_)
    rotate_left 1
    · exact absurd (Int32.le_refl _) h9
    refine az_iloadn dX8_price__44 rfl ?_
    refine az_iret dX8_price__45 rfl ?_
    exact hQ
theorem t_X8_clashOf {mem0 : az_M} {s : Nat} (hN : N ≤ 16) (hn : mem0 392 0 = nI N) (hf : ∀ k, k ≠ 397 → k ≠ 398 → mem k = mem0 k) (h1 : ∀ a b, a < b → b < N → mem 397 (16 * a + b) = zm_mask (zm_pf (mem0 396) a b) N) (h2 : ∀ p, p < N → mem 398 p = zm_mask (zm_yf (mem0 392 1) (mem0 396) p) N) (hQ : Q (some (.inl (zc_cl (mem0 392) (mem0 396) N s))) mem) : az_Sp X (d + 1) mX8_clashOf [.inr 391, .inl (nI s)] mem Q := by
  have e : mem 392 = mem0 392 := hf 392 (by decide) (by decide)
  refine s_X8_clashOf (N := N) (by rw [e]; exact hn) hN ?_
  rw [e, zl_clash_congr (P' := zm_P (mem0 396) N) (Y' := zm_Y (mem0 392 1) (mem0 396) N) (fun a b ha hb => by rw [h1 a b ha hb, zm_P_at (by omega)]) (fun p hp => by rw [h2 p hp]; rfl)]
  exact hQ
theorem s_X8_best {pr : Int32} (hn : mem 392 0 = nI N) (hN : N ≤ 16) (hQ : ∀ m', (∀ k, k ≠ 397 → k ≠ 398 → m' k = mem k) → (∀ a b, a < b → b < N → m' 397 (16 * a + b) = zm_mask (zm_pf (mem 396) a b) N) → (∀ p, p < N → m' 398 p = zm_mask (zm_yf (mem 392 1) (mem 396) p) N) → Q (some (.inl (zb_best (mem 392) (mem 396) N pr))) m') : az_Sp X (d + 4) mX8_best [.inr 391, .inl pr] mem Q := by
  have hp := zi_pow hN
  refine az_body (by decide +kernel) (Nat.le_of_ble_eq_true rfl) ?_
  show az_Ev X _ mX8_best 0 [some (.inr 391), some (.inl pr), none, none, none, none] [] mem Q
  refine az_aloadn dX8_best_0 rfl ?_
  refine az_inv0 (N := mX8_gather) dX8_best_1 lkX8_124 okX8_gather sh_391 rfl (Nat.le_of_ble_eq_true rfl) ?_
  refine s_X8_gather hn hN (fun m' hf h1 h2 => ?_)
  try dsimp only [az_ps]
  refine az_iconst (v := -1) dX8_best_4 (by decide) ?_
  refine az_istoren dX8_best_5 (by decide) ?_
  dsimp only [List.set]
  refine az_iconst (v := 0) dX8_best_6 (by decide) ?_
  refine az_istoren dX8_best_7 (by decide) ?_
  dsimp only [List.set]
  refine az_iconst (v := 0) dX8_best_8 (by decide) ?_
  refine az_istore dX8_best_9 (by decide) ?_
  dsimp only [List.set]
  skip
  have hQ := hQ m' hf h1 h2
  have e2 : m' 392 = mem 392 := hf 392 (by decide) (by decide)
  have hn' : m' 392 0 = nI N := by rw [e2]; exact hn
  unfold zb_best at hQ
  generalize hR : zb_go (zc_cl (mem 392) (mem 396) N) (zb_cost (mem 392) N pr) (2 ^ N) 0 (-1) 0 = R at hQ
  refine az_up (fun s => ∀ b l L5, zb_go (zc_cl (mem 392) (mem 396) N) (zb_cost (mem 392) N pr) (2 ^ N - s) s b l = R → az_Ev X (d + 4) mX8_best 11 [some (.inr 391), some (.inl pr), some (.inl b), some (.inl l), some (.inl (nI s)), L5] [] m' Q) (2 ^ N) 0 (Nat.zero_le _) (fun s _ hs ih b l L5 he => ?_) (fun b l L5 he => ?_) (-1) 0 none hR
  · rw [zs_sub hs, zb_go] at he
    have hc : ∀ v, v = zb_cost (mem 392) N pr s → az_Ev X (d + 4) mX8_best 40 [some (.inr 391), some (.inl pr), some (.inl b), some (.inl l), some (.inl (nI s)), L5] [.inl v] m' Q := by
      intro v hv
      rw [← hv] at he
      refine az_istore dX8_best_40 (by decide) ?_
      dsimp only [List.set]
      refine az_iloadn dX8_best_42 rfl ?_
      refine az_iflt (t := 52) dX8_best_43 (by decide) (fun h43 => ?_) (fun h43 => ?_)
      · refine az_aloadn dX8_best_52 rfl ?_
        refine az_iload dX8_best_53 rfl ?_
        refine az_inv1 (N := mX8_clashOf) dX8_best_55 lkX8_127 okX8_clashOf sh_391 rfl (Nat.le_of_ble_eq_true rfl) ?_
        refine t_X8_clashOf hN hn hf h1 h2 ?_
        try dsimp only [az_ps]
        refine az_iflt (t := 64) dX8_best_58 (by decide) (fun h58 => ?_) (fun h58 => ?_)
        · rw [if_neg (by first | exact (fun h => h.elim (fun q => absurd q.1 (Int32.not_le.mpr h43)) (fun q => absurd h58 (Int32.not_lt.mpr q))) | exact (fun h => h.elim (fun q => h49 q.2) (fun q => absurd h58 (Int32.not_lt.mpr q))))] at he
          refine az_iload dX8_best_64 rfl ?_
          refine az_istoren dX8_best_66 (by decide) ?_
          dsimp only [List.set]
          refine az_iload dX8_best_67 rfl ?_
          refine az_istoren dX8_best_69 (by decide) ?_
          dsimp only [List.set]
          refine az_iinc (w := 1) dX8_best_70 rfl (by decide) (by decide) ?_
          dsimp only [List.set]
          refine az_goto (t := 11) dX8_best_73 (by decide) ?_
          rw [nI_1]; exact ih _ _ _ (by first | exact he | (rw [hv] at he; exact he))
        · rw [if_pos (Or.inr (Int32.not_lt.mp h58))] at he
          refine az_goto (t := 70) dX8_best_61 (by decide) ?_
          refine az_iinc (w := 1) dX8_best_70 rfl (by decide) (by decide) ?_
          dsimp only [List.set]
          refine az_goto (t := 11) dX8_best_73 (by decide) ?_
          rw [nI_1]; exact ih _ _ _ (by first | exact he | (rw [hv] at he; exact he))
      · refine az_iload dX8_best_46 rfl ?_
        refine az_iloadn dX8_best_48 rfl ?_
        refine az_icmpge (t := 70) dX8_best_49 (by decide) (fun h49 => ?_) (fun h49 => ?_)
        · rw [if_pos (Or.inl ⟨Int32.not_lt.mp h43, h49⟩)] at he
          refine az_iinc (w := 1) dX8_best_70 rfl (by decide) (by decide) ?_
          dsimp only [List.set]
          refine az_goto (t := 11) dX8_best_73 (by decide) ?_
          rw [nI_1]; exact ih _ _ _ (by first | exact he | (rw [hv] at he; exact he))
        · refine az_aloadn dX8_best_52 rfl ?_
          refine az_iload dX8_best_53 rfl ?_
          refine az_inv1 (N := mX8_clashOf) dX8_best_55 lkX8_127 okX8_clashOf sh_391 rfl (Nat.le_of_ble_eq_true rfl) ?_
          refine t_X8_clashOf hN hn hf h1 h2 ?_
          try dsimp only [az_ps]
          refine az_iflt (t := 64) dX8_best_58 (by decide) (fun h58 => ?_) (fun h58 => ?_)
          · rw [if_neg (by first | exact (fun h => h.elim (fun q => absurd q.1 (Int32.not_le.mpr h43)) (fun q => absurd h58 (Int32.not_lt.mpr q))) | exact (fun h => h.elim (fun q => h49 q.2) (fun q => absurd h58 (Int32.not_lt.mpr q))))] at he
            refine az_iload dX8_best_64 rfl ?_
            refine az_istoren dX8_best_66 (by decide) ?_
            dsimp only [List.set]
            refine az_iload dX8_best_67 rfl ?_
            refine az_istoren dX8_best_69 (by decide) ?_
            dsimp only [List.set]
            refine az_iinc (w := 1) dX8_best_70 rfl (by decide) (by decide) ?_
            dsimp only [List.set]
            refine az_goto (t := 11) dX8_best_73 (by decide) ?_
            rw [nI_1]; exact ih _ _ _ (by first | exact he | (rw [hv] at he; exact he))
          · rw [if_pos (Or.inr (Int32.not_lt.mp h58))] at he
            refine az_goto (t := 70) dX8_best_61 (by decide) ?_
            refine az_iinc (w := 1) dX8_best_70 rfl (by decide) (by decide) ?_
            dsimp only [List.set]
            refine az_goto (t := 11) dX8_best_73 (by decide) ?_
            rw [nI_1]; exact ih _ _ _ (by first | exact he | (rw [hv] at he; exact he))
    unfold zb_cost at hc
    refine az_iload dX8_best_11 rfl ?_
    refine az_iconst (v := 1) dX8_best_13 (by decide) ?_
    refine az_aloadn dX8_best_14 rfl ?_
    refine az_inv0 (N := mX8_n) dX8_best_15 lkX8_62 okX8_n sh_391 rfl (Nat.le_of_ble_eq_true rfl) ?_
    refine t_X8_n hn' ?_
    try dsimp only [az_ps]
    refine az_ishl dX8_best_18 ?_
    rw [zi_shl N (by omega)]
    refine az_icmpge (t := 76) dX8_best_19 (by decide) (fun h19 => ?_) (fun h19 => ?_)
    · exact absurd h19 (nI_ge hs (by omega))
    refine az_iloadn dX8_best_22 rfl ?_
    refine az_ifeq (t := 35) dX8_best_23 (by decide) (fun h23 => ?_) (fun h23 => ?_)
    · rw [if_pos h23] at hc
      refine az_iload dX8_best_35 rfl ?_
      refine az_ins1 (N := mX8_many) dX8_best_37 lsX8_102 okX8_many (Nat.le_of_ble_eq_true rfl) ?_
      refine s_X8_many ?_
      try dsimp only [az_ps]
      exact hc _ rfl
    · rw [if_neg h23] at hc
      refine az_aloadn dX8_best_26 rfl ?_
      refine az_iload dX8_best_27 rfl ?_
      refine az_inv1 (N := mX8_price_) dX8_best_29 lkX8_133 okX8_price_ sh_391 rfl (Nat.le_of_ble_eq_true rfl) ?_
      refine s_X8_price_ hn' hN ?_
      rw [e2]
      try dsimp only [az_ps]
      refine az_goto (t := 40) dX8_best_32 (by decide) ?_
      exact hc _ rfl
  · rw [Nat.sub_self, zb_go] at he
    refine az_iload dX8_best_11 rfl ?_
    refine az_iconst (v := 1) dX8_best_13 (by decide) ?_
    refine az_aloadn dX8_best_14 rfl ?_
    refine az_inv0 (N := mX8_n) dX8_best_15 lkX8_62 okX8_n sh_391 rfl (Nat.le_of_ble_eq_true rfl) ?_
    refine t_X8_n hn' ?_
    try dsimp only [az_ps]
    refine az_ishl dX8_best_18 ?_
    rw [zi_shl N (by omega)]
    refine az_icmpge (t := 76) dX8_best_19 (by decide) (fun h19 => ?_) (fun h19 => ?_)
    rotate_left 1
    · exact absurd (Int32.le_refl _) h19
    refine az_iloadn dX8_best_76 rfl ?_
    refine az_iret dX8_best_77 rfl ?_
    rw [he]; exact hQ
theorem s_X8_least (hn : mem 392 0 = nI N) (hN : N ≤ 16) (hQ : ∀ m', (∀ k, k ≠ 391 → k ≠ 397 → k ≠ 398 → m' k = mem k) → (∀ j, m' 391 j = if j = 6 ∧ 0 ≤ zb_best (mem 392) (mem 396) N 0 then zb_best (mem 392) (mem 396) N 0 else mem 391 j) → Q (some (.inl (if 0 ≤ zb_best (mem 392) (mem 396) N 0 then zm_many (zb_best (mem 392) (mem 396) N 0) else -2))) m') : az_Sp X (d + 5) mX8_least [.inr 391] mem Q := by
  refine az_body (by decide +kernel) (Nat.le_of_ble_eq_true rfl) ?_
  show az_Ev X _ mX8_least 0 [some (.inr 391), none] [] mem Q
  refine az_aloadn dX8_least_0 rfl ?_
  refine az_iconst (v := 0) dX8_least_1 (by decide) ?_
  refine az_inv1 (N := mX8_best) dX8_least_2 lkX8_136 okX8_best sh_391 rfl (Nat.le_of_ble_eq_true rfl) ?_
  refine s_X8_best hn hN (fun m' hf h1 h2 => ?_)
  try dsimp only [az_ps]
  refine az_istoren dX8_least_5 (by decide) ?_
  dsimp only [List.set]
  refine az_iloadn dX8_least_6 rfl ?_
  refine az_ifge (t := 13) dX8_least_7 (by decide) (fun h7 => ?_) (fun h7 => ?_)
  · have hq := hQ (az_w m' 391 6 (zb_best (mem 392) (mem 396) N 0)) (fun k k1 k2 k3 => by rw [az_w_ne _ k1]; exact hf k k2 k3) (fun j => by rw [az_w_eq, hf 391 (by decide) (by decide)]; simp [h7])
    rw [if_pos h7] at hq
    refine az_aloadn dX8_least_13 rfl ?_
    refine az_iloadn dX8_least_14 rfl ?_
    refine az_puti dX8_least_15 plX8_140 sh_391 rfl ?_
    refine az_iloadn dX8_least_18 rfl ?_
    refine az_ins1 (N := mX8_many) dX8_least_19 lsX8_102 okX8_many (Nat.le_of_ble_eq_true rfl) ?_
    refine s_X8_many ?_
    try dsimp only [az_ps]
    refine az_iret dX8_least_22 rfl ?_
    exact hq
  · have hq := hQ m' (fun k k1 k2 k3 => hf k k2 k3) (fun j => by rw [hf 391 (by decide) (by decide), if_neg (fun h => h7 h.2)])
    rw [if_neg h7] at hq
    refine az_bipush (v := -2) dX8_least_10 (by decide) ?_
    refine az_iret dX8_least_12 rfl ?_
    exact hq
theorem s_X8_cheapest (hn : mem 392 0 = nI N) (hN : N ≤ 16) (hQ : ∀ m', (∀ k, k ≠ 391 → k ≠ 397 → k ≠ 398 → m' k = mem k) → (∀ j, m' 391 j = if j = 6 ∧ 0 ≤ zb_best (mem 392) (mem 396) N 1 then zb_best (mem 392) (mem 396) N 1 else mem 391 j) → Q (some (.inl (if 0 ≤ zb_best (mem 392) (mem 396) N 1 then zm_price (mem 392) N (zb_best (mem 392) (mem 396) N 1) else -2))) m') : az_Sp X (d + 5) mX8_cheapest [.inr 391] mem Q := by
  refine az_body (by decide +kernel) (Nat.le_of_ble_eq_true rfl) ?_
  show az_Ev X _ mX8_cheapest 0 [some (.inr 391), none] [] mem Q
  refine az_aloadn dX8_cheapest_0 rfl ?_
  refine az_iconst (v := 1) dX8_cheapest_1 (by decide) ?_
  refine az_inv1 (N := mX8_best) dX8_cheapest_2 lkX8_136 okX8_best sh_391 rfl (Nat.le_of_ble_eq_true rfl) ?_
  refine s_X8_best hn hN (fun m' hf h1 h2 => ?_)
  try dsimp only [az_ps]
  refine az_istoren dX8_cheapest_5 (by decide) ?_
  dsimp only [List.set]
  refine az_iloadn dX8_cheapest_6 rfl ?_
  refine az_ifge (t := 13) dX8_cheapest_7 (by decide) (fun h7 => ?_) (fun h7 => ?_)
  · have hq := hQ (az_w m' 391 6 (zb_best (mem 392) (mem 396) N 1)) (fun k k1 k2 k3 => by rw [az_w_ne _ k1]; exact hf k k2 k3) (fun j => by rw [az_w_eq, hf 391 (by decide) (by decide)]; simp [h7])
    rw [if_pos h7] at hq
    refine az_aloadn dX8_cheapest_13 rfl ?_
    refine az_iloadn dX8_cheapest_14 rfl ?_
    refine az_puti dX8_cheapest_15 plX8_140 sh_391 rfl ?_
    refine az_aloadn dX8_cheapest_18 rfl ?_
    refine az_iloadn dX8_cheapest_19 rfl ?_
    refine az_inv1 (N := mX8_price_) dX8_cheapest_20 lkX8_133 okX8_price_ sh_391 rfl (Nat.le_of_ble_eq_true rfl) ?_
    refine s_X8_price_ (N := N) (by rw [az_w_ne _ (by decide), hf 392 (by decide) (by decide)]; exact hn) hN ?_
    rw [az_w_ne _ (by decide), hf 392 (by decide) (by decide)]
    try dsimp only [az_ps]
    refine az_iret dX8_cheapest_23 rfl ?_
    exact hq
  · have hq := hQ m' (fun k k1 k2 k3 => hf k k2 k3) (fun j => by rw [hf 391 (by decide) (by decide), if_neg (fun h => h7 h.2)])
    rw [if_neg h7] at hq
    refine az_bipush (v := -2) dX8_cheapest_10 (by decide) ?_
    refine az_iret dX8_cheapest_12 rfl ?_
    exact hq
theorem s_X8_every (hn : mem 392 0 = nI N) (hN : N ≤ 16) (hQ : ∀ m', (∀ k, k ≠ 397 → k ≠ 398 → m' k = mem k) → Q (some (.inl (if 0 ≤ zb_best (mem 392) (mem 396) N 0 then zc_in (fun k => if zm_many (nI k) = zm_many (zb_best (mem 392) (mem 396) N 0) ∧ zc_cl (mem 392) (mem 396) N k < 0 then 1 else 0) (2 ^ N) 0 0 else 0))) m') : az_Sp X (d + 5) mX8_every [.inr 391] mem Q := by
  have hp := zi_pow hN
  refine az_body (by decide +kernel) (Nat.le_of_ble_eq_true rfl) ?_
  show az_Ev X _ mX8_every 0 [some (.inr 391), none, none, none] [] mem Q
  refine az_aloadn dX8_every_0 rfl ?_
  refine az_iconst (v := 0) dX8_every_1 (by decide) ?_
  refine az_inv1 (N := mX8_best) dX8_every_2 lkX8_136 okX8_best sh_391 rfl (Nat.le_of_ble_eq_true rfl) ?_
  refine s_X8_best hn hN (fun m' hf h1 h2 => ?_)
  try dsimp only [az_ps]
  refine az_istoren dX8_every_5 (by decide) ?_
  dsimp only [List.set]
  refine az_iconst (v := 0) dX8_every_6 (by decide) ?_
  refine az_istoren dX8_every_7 (by decide) ?_
  dsimp only [List.set]
  refine az_iconst (v := 0) dX8_every_8 (by decide) ?_
  refine az_istoren dX8_every_9 (by decide) ?_
  dsimp only [List.set]
  skip
  have hQ := hQ m' hf
  have e2 : m' 392 = mem 392 := hf 392 (by decide) (by decide)
  have hn' : m' 392 0 = nI N := by rw [e2]; exact hn
  generalize zb_best (mem 392) (mem 396) N 0 = bs at hQ ⊢
  by_cases hb : 0 ≤ bs
  · rw [if_pos hb] at hQ
    generalize hR : zc_in (fun k => if zm_many (nI k) = zm_many bs ∧ zc_cl (mem 392) (mem 396) N k < 0 then 1 else 0) (2 ^ N) 0 0 = R at hQ
    refine az_up (fun s => ∀ c, zc_in (fun k => if zm_many (nI k) = zm_many bs ∧ zc_cl (mem 392) (mem 396) N k < 0 then 1 else 0) (2 ^ N - s) s c = R → az_Ev X (d + 5) mX8_every 10 [some (.inr 391), some (.inl bs), some (.inl c), some (.inl (nI s))] [] m' Q) (2 ^ N) 0 (Nat.zero_le _) (fun s _ hs ih c he => ?_) (fun c he => ?_) 0 hR
    · rw [zs_sub hs, zc_in] at he
      refine az_iloadn dX8_every_10 rfl ?_
      refine az_iconst (v := 1) dX8_every_11 (by decide) ?_
      refine az_aloadn dX8_every_12 rfl ?_
      refine az_inv0 (N := mX8_n) dX8_every_13 lkX8_62 okX8_n sh_391 rfl (Nat.le_of_ble_eq_true rfl) ?_
      refine t_X8_n hn' ?_
      try dsimp only [az_ps]
      refine az_ishl dX8_every_16 ?_
      rw [zi_shl N (by omega)]
      refine az_icmpge (t := 57) dX8_every_17 (by decide) (fun h17 => ?_) (fun h17 => ?_)
      · exact absurd h17 (nI_ge hs (by omega))
      refine az_iloadn dX8_every_20 rfl ?_
      refine az_iflt (t := 57) dX8_every_21 (by decide) (fun h21 => ?_) (fun h21 => ?_)
      · exact absurd h21 (Int32.not_lt.mpr hb)
      refine az_iloadn dX8_every_24 rfl ?_
      refine az_iloadn dX8_every_25 rfl ?_
      refine az_ins1 (N := mX8_many) dX8_every_26 lsX8_102 okX8_many (Nat.le_of_ble_eq_true rfl) ?_
      refine s_X8_many ?_
      try dsimp only [az_ps]
      refine az_iloadn dX8_every_29 rfl ?_
      refine az_ins1 (N := mX8_many) dX8_every_30 lsX8_102 okX8_many (Nat.le_of_ble_eq_true rfl) ?_
      refine s_X8_many ?_
      try dsimp only [az_ps]
      refine az_icmpne (t := 48) dX8_every_33 (by decide) (fun h33 => ?_) (fun h33 => ?_)
      · rw [if_neg (fun h => h33 h.1)] at he
        refine az_iconst (v := 0) dX8_every_48 (by decide) ?_
        refine az_iadd dX8_every_49 ?_
        refine az_istoren dX8_every_50 (by decide) ?_
        dsimp only [List.set]
        refine az_iinc (w := 1) dX8_every_51 rfl (by decide) (by decide) ?_
        dsimp only [List.set]
        refine az_goto (t := 10) dX8_every_54 (by decide) ?_
        rw [nI_1]; exact ih _ he
      · refine az_aloadn dX8_every_36 rfl ?_
        refine az_iloadn dX8_every_37 rfl ?_
        refine az_inv1 (N := mX8_clashOf) dX8_every_38 lkX8_127 okX8_clashOf sh_391 rfl (Nat.le_of_ble_eq_true rfl) ?_
        refine t_X8_clashOf hN hn hf h1 h2 ?_
        try dsimp only [az_ps]
        refine az_ifge (t := 48) dX8_every_41 (by decide) (fun h41 => ?_) (fun h41 => ?_)
        · rw [if_neg (fun h => absurd h.2 (Int32.not_lt.mpr h41))] at he
          refine az_iconst (v := 0) dX8_every_48 (by decide) ?_
          refine az_iadd dX8_every_49 ?_
          refine az_istoren dX8_every_50 (by decide) ?_
          dsimp only [List.set]
          refine az_iinc (w := 1) dX8_every_51 rfl (by decide) (by decide) ?_
          dsimp only [List.set]
          refine az_goto (t := 10) dX8_every_54 (by decide) ?_
          rw [nI_1]; exact ih _ he
        · rw [if_pos ⟨h33, Int32.not_le.mp h41⟩] at he
          refine az_iconst (v := 1) dX8_every_44 (by decide) ?_
          refine az_goto (t := 49) dX8_every_45 (by decide) ?_
          refine az_iadd dX8_every_49 ?_
          refine az_istoren dX8_every_50 (by decide) ?_
          dsimp only [List.set]
          refine az_iinc (w := 1) dX8_every_51 rfl (by decide) (by decide) ?_
          dsimp only [List.set]
          refine az_goto (t := 10) dX8_every_54 (by decide) ?_
          rw [nI_1]; exact ih _ he
    · rw [Nat.sub_self, zc_in] at he
      refine az_iloadn dX8_every_10 rfl ?_
      refine az_iconst (v := 1) dX8_every_11 (by decide) ?_
      refine az_aloadn dX8_every_12 rfl ?_
      refine az_inv0 (N := mX8_n) dX8_every_13 lkX8_62 okX8_n sh_391 rfl (Nat.le_of_ble_eq_true rfl) ?_
      refine t_X8_n hn' ?_
      try dsimp only [az_ps]
      refine az_ishl dX8_every_16 ?_
      rw [zi_shl N (by omega)]
      refine az_icmpge (t := 57) dX8_every_17 (by decide) (fun h17 => ?_) (fun h17 => ?_)
      rotate_left 1
      · exact absurd (Int32.le_refl _) h17
      refine az_iloadn dX8_every_57 rfl ?_
      refine az_iret dX8_every_58 rfl ?_
      rw [he]; exact hQ
  · rw [if_neg hb] at hQ
    refine az_iloadn dX8_every_10 rfl ?_
    refine az_iconst (v := 1) dX8_every_11 (by decide) ?_
    refine az_aloadn dX8_every_12 rfl ?_
    refine az_inv0 (N := mX8_n) dX8_every_13 lkX8_62 okX8_n sh_391 rfl (Nat.le_of_ble_eq_true rfl) ?_
    refine t_X8_n hn' ?_
    try dsimp only [az_ps]
    refine az_ishl dX8_every_16 ?_
    rw [zi_shl N (by omega)]
    refine az_icmpge (t := 57) dX8_every_17 (by decide) (fun h17 => ?_) (fun h17 => ?_)
    · refine az_iloadn dX8_every_57 rfl ?_
      refine az_iret dX8_every_58 rfl ?_
      exact hQ
    · refine az_iloadn dX8_every_20 rfl ?_
      refine az_iflt (t := 57) dX8_every_21 (by decide) (fun h21 => ?_) (fun h21 => ?_)
      rotate_left 1
      · exact absurd (Int32.not_lt.mp h21) hb
      refine az_iloadn dX8_every_57 rfl ?_
      refine az_iret dX8_every_58 rfl ?_
      exact hQ
theorem s_X8_clash {x : Int32} (hn : mem 392 0 = nI N) (hN : N ≤ 16) (hQ : ∀ m', (∀ k, k ≠ 397 → k ≠ 398 → m' k = mem k) → Q (some (.inl (if 0 ≤ x ∧ x < nI (2 ^ N) then zl_clash (zm_P (mem 396) N) (zm_Y (mem 392 1) (mem 396) N) (mem 392 5) N x (zm_need (mem 392 3) (mem 392 4)) else -2))) m') : az_Sp X (d + 4) mX8_clash [.inr 391, .inl x] mem Q := by
  refine az_body (by decide +kernel) (Nat.le_of_ble_eq_true rfl) ?_
  show az_Ev X _ mX8_clash 0 [some (.inr 391), some (.inl x)] [] mem Q
  refine az_aloadn dX8_clash_0 rfl ?_
  refine az_iloadn dX8_clash_1 rfl ?_
  refine az_inv1 (N := mX8_isSet) dX8_clash_2 lkX8_118 okX8_isSet sh_391 rfl (Nat.le_of_ble_eq_true rfl) ?_
  refine s_X8_isSet ?_
  rw [hn, zi_shl N (by omega)]
  try dsimp only [az_ps]
  refine az_ifne (t := 11) dX8_clash_5 (by decide) (fun h5 => ?_) (fun h5 => ?_)
  · replace h5 := zb_n h5
    rw [if_pos h5] at hQ
    refine az_aloadn dX8_clash_11 rfl ?_
    refine az_inv0 (N := mX8_gather) dX8_clash_12 lkX8_124 okX8_gather sh_391 rfl (Nat.le_of_ble_eq_true rfl) ?_
    refine s_X8_gather hn hN (fun m' hf h1 h2 => ?_)
    try dsimp only [az_ps]
    refine az_aloadn dX8_clash_15 rfl ?_
    refine az_iloadn dX8_clash_16 rfl ?_
    refine az_inv1 (N := mX8_clashOf) dX8_clash_17 lkX8_127 okX8_clashOf sh_391 rfl (Nat.le_of_ble_eq_true rfl) ?_
    refine s_X8_clashOf (N := N) (by rw [hf 392 (by decide) (by decide)]; exact hn) hN ?_
    rw [hf 392 (by decide) (by decide), zl_clash_congr (P' := zm_P (mem 396) N) (Y' := zm_Y (mem 392 1) (mem 396) N) (fun a b ha hb => by rw [h1 a b ha hb, zm_P_at (by omega)]) (fun p hp => by rw [h2 p hp]; rfl)]
    try dsimp only [az_ps]
    refine az_iret dX8_clash_20 rfl ?_
    exact hQ m' hf
  · replace h5 := zb_z h5
    rw [if_neg h5] at hQ
    refine az_bipush (v := -2) dX8_clash_8 (by decide) ?_
    refine az_iret dX8_clash_10 rfl ?_
    exact hQ mem (fun _ _ _ => rfl)
end MD
end
section
/-! the model's simple questions, and the pairs that are shown -/
theorem zi_ex {x : Int32} {N : Nat} (hN : N < 2 ^ 31) (h : 0 ≤ x ∧ x < nI N) : ∃ P, P < N ∧ x = nI P := ⟨_, zi_of hN h⟩
theorem zi_yes {P N : Nat} (h : P < N) (hN : N < 2 ^ 31) : 0 ≤ nI P ∧ nI P < nI N := ⟨nI_pos' (by omega), nI_lt h hN⟩
def zm_reach (w : Nat → Int32) (N p : Nat) : Int32 := zm_sum (fun q => if w (16 * p + q) < 1000000 then 1 else 0) N
def zm_of (S w : Nat → Int32) (N : Nat) (p what : Int32) : Int32 :=
  if 0 ≤ p ∧ p < nI N then (if what = 0 then zm_many (zm_mask (zm_bf (zm_len S) p.toNatClampNeg) N) else if what = 1 then S (263 + p.toNatClampNeg) else if what = 2 then S (279 + p.toNatClampNeg) else if what = 3 then S (295 + p.toNatClampNeg) else if what = 4 then zm_mask (zm_bf (zm_len S) p.toNatClampNeg) N else if what = 5 then zm_reach w N p.toNatClampNeg else -1) else -1
def zm_ends (len : Nat → Int32) (N : Nat) : Int32 := zm_sum (fun p => zm_many (zm_mask (zm_bf len p) N)) N
def zm_about (S : Nat → Int32) (N : Nat) (un ta what : Int32) : Int32 :=
  if what = 0 then nI N else if what = 1 then zm_ends (zm_len S) N / 2 else if what = 2 then S 1 else if what = 3 then S 2 else if what = 4 then zm_need (S 3) (S 4) else if what = 5 then S 5 else if what = 6 then S 6 else if what = 7 then un else if what = 8 then ta else -1
section ME
variable {X : az_X} {d : Nat} {mem : az_M} {Q : Option az_V → az_M → Prop} {N : Nat}
theorem s_X8_parts {x a b : Int32} (hn : mem 392 0 = nI N) (hN : N ≤ 16) (hQ : Q (some (.inl (if (0 ≤ x ∧ x < nI (2 ^ N)) ∧ (0 ≤ a ∧ a < nI N) ∧ (0 ≤ b ∧ b < nI N) ∧ a ≠ b then zm_many (zm_mask (zm_pf (mem 396) a.toNatClampNeg b.toNatClampNeg) N &&& x) else -1))) mem) : az_Sp X (d + 3) mX8_parts [.inr 391, .inl x, .inl a, .inl b] mem Q := by
  refine az_body (by decide +kernel) (Nat.le_of_ble_eq_true rfl) ?_
  show az_Ev X _ mX8_parts 0 [some (.inr 391), some (.inl x), some (.inl a), some (.inl b)] [] mem Q
  refine az_aloadn dX8_parts_0 rfl ?_
  refine az_iloadn dX8_parts_1 rfl ?_
  refine az_inv1 (N := mX8_isSet) dX8_parts_2 lkX8_118 okX8_isSet sh_391 rfl (Nat.le_of_ble_eq_true rfl) ?_
  refine s_X8_isSet ?_
  rw [hn, zi_shl N (by omega)]
  try dsimp only [az_ps]
  refine az_ifeq (t := 43) dX8_parts_5 (by decide) (fun h5 => ?_) (fun h5 => ?_)
  · replace h5 := zb_z h5
    rw [if_neg (fun h => h5 h.1)] at hQ
    refine az_iconst (v := -1) dX8_parts_43 (by decide) ?_
    refine az_iret dX8_parts_44 rfl ?_
    exact hQ
  · replace h5 := zb_n h5
    refine az_aloadn dX8_parts_8 rfl ?_
    refine az_iloadn dX8_parts_9 rfl ?_
    refine az_inv1 (N := mX8_isPost) dX8_parts_10 lkX8_66 okX8_isPost sh_391 rfl (Nat.le_of_ble_eq_true rfl) ?_
    refine s_X8_isPost ?_
    rw [hn]
    try dsimp only [az_ps]
    refine az_ifeq (t := 43) dX8_parts_13 (by decide) (fun h13 => ?_) (fun h13 => ?_)
    · replace h13 := zb_z h13
      rw [if_neg (fun h => h13 h.2.1)] at hQ
      refine az_iconst (v := -1) dX8_parts_43 (by decide) ?_
      refine az_iret dX8_parts_44 rfl ?_
      exact hQ
    · replace h13 := zb_n h13
      refine az_aloadn dX8_parts_16 rfl ?_
      refine az_iloadn dX8_parts_17 rfl ?_
      refine az_inv1 (N := mX8_isPost) dX8_parts_18 lkX8_66 okX8_isPost sh_391 rfl (Nat.le_of_ble_eq_true rfl) ?_
      refine s_X8_isPost ?_
      rw [hn]
      try dsimp only [az_ps]
      refine az_ifeq (t := 43) dX8_parts_21 (by decide) (fun h21 => ?_) (fun h21 => ?_)
      · replace h21 := zb_z h21
        rw [if_neg (fun h => h21 h.2.2.1)] at hQ
        refine az_iconst (v := -1) dX8_parts_43 (by decide) ?_
        refine az_iret dX8_parts_44 rfl ?_
        exact hQ
      · replace h21 := zb_n h21
        refine az_iloadn dX8_parts_24 rfl ?_
        refine az_iloadn dX8_parts_25 rfl ?_
        refine az_icmpeq (t := 43) dX8_parts_26 (by decide) (fun h26 => ?_) (fun h26 => ?_)
        · rw [if_neg (fun h => h.2.2.2 h26)] at hQ
          refine az_iconst (v := -1) dX8_parts_43 (by decide) ?_
          refine az_iret dX8_parts_44 rfl ?_
          exact hQ
        · rw [if_pos ⟨h5, h13, h21, h26⟩] at hQ
          obtain ⟨A, hA, rfl⟩ := zi_ex (by omega) h13
          obtain ⟨B, hB, rfl⟩ := zi_ex (by omega) h21
          rw [nI_clamp (by omega), nI_clamp (by omega)] at hQ
          refine az_aloadn dX8_parts_29 rfl ?_
          refine az_iloadn dX8_parts_30 rfl ?_
          refine az_iloadn dX8_parts_31 rfl ?_
          refine az_inv2 (N := mX8_parting) dX8_parts_32 lkX8_111 okX8_parting sh_391 rfl (Nat.le_of_ble_eq_true rfl) ?_
          refine s_X8_parting hn hN (by omega) (by omega) ?_
          try dsimp only [az_ps]
          refine az_iloadn dX8_parts_35 rfl ?_
          refine az_iand dX8_parts_36 ?_
          refine az_ins1 (N := mX8_many) dX8_parts_37 lsX8_102 okX8_many (Nat.le_of_ble_eq_true rfl) ?_
          refine s_X8_many ?_
          try dsimp only [az_ps]
          refine az_goto (t := 44) dX8_parts_40 (by decide) ?_
          refine az_iret dX8_parts_44 rfl ?_
          exact hQ
theorem s_X8_way {a b : Int32} (hn : mem 392 0 = nI N) (hN : N ≤ 16) (hQ : Q (some (.inl (if (0 ≤ a ∧ a < nI N) ∧ (0 ≤ b ∧ b < nI N) then mem 395 (16 * a.toNatClampNeg + b.toNatClampNeg) else -1))) mem) : az_Sp X (d + 2) mX8_way [.inr 391, .inl a, .inl b] mem Q := by
  refine az_body (by decide +kernel) (Nat.le_of_ble_eq_true rfl) ?_
  show az_Ev X _ mX8_way 0 [some (.inr 391), some (.inl a), some (.inl b)] [] mem Q
  refine az_aloadn dX8_way_0 rfl ?_
  refine az_iloadn dX8_way_1 rfl ?_
  refine az_inv1 (N := mX8_isPost) dX8_way_2 lkX8_66 okX8_isPost sh_391 rfl (Nat.le_of_ble_eq_true rfl) ?_
  refine s_X8_isPost ?_
  rw [hn]
  try dsimp only [az_ps]
  refine az_ifeq (t := 30) dX8_way_5 (by decide) (fun h5 => ?_) (fun h5 => ?_)
  · replace h5 := zb_z h5
    rw [if_neg (fun h => h5 h.1)] at hQ
    refine az_iconst (v := -1) dX8_way_30 (by decide) ?_
    refine az_iret dX8_way_31 rfl ?_
    exact hQ
  · replace h5 := zb_n h5
    refine az_aloadn dX8_way_8 rfl ?_
    refine az_iloadn dX8_way_9 rfl ?_
    refine az_inv1 (N := mX8_isPost) dX8_way_10 lkX8_66 okX8_isPost sh_391 rfl (Nat.le_of_ble_eq_true rfl) ?_
    refine s_X8_isPost ?_
    rw [hn]
    try dsimp only [az_ps]
    refine az_ifeq (t := 30) dX8_way_13 (by decide) (fun h13 => ?_) (fun h13 => ?_)
    · replace h13 := zb_z h13
      rw [if_neg (fun h => h13 h.2)] at hQ
      refine az_iconst (v := -1) dX8_way_30 (by decide) ?_
      refine az_iret dX8_way_31 rfl ?_
      exact hQ
    · replace h13 := zb_n h13
      rw [if_pos ⟨h5, h13⟩] at hQ
      obtain ⟨A, hA, rfl⟩ := zi_ex (by omega) h5
      obtain ⟨B, hB, rfl⟩ := zi_ex (by omega) h13
      rw [nI_clamp (by omega), nI_clamp (by omega)] at hQ
      refine az_aloadn dX8_way_16 rfl ?_
      refine az_getr dX8_way_17 flX8_20 sh_391 rfl ?_
      refine az_bipush (v := 16) dX8_way_20 (by decide) ?_
      refine az_iloadn dX8_way_22 rfl ?_
      refine az_imul dX8_way_23 ?_
      refine az_iloadn dX8_way_24 rfl ?_
      refine az_iadd dX8_way_25 ?_
      refine az_iald (16 * A + B) dX8_way_26 sh_395 (by omega) (by decide) (by simp only [az_lit, nI_add, pk_mul, Nat.add_assoc]) ?_
      refine az_goto (t := 31) dX8_way_27 (by decide) ?_
      refine az_iret dX8_way_31 rfl ?_
      exact hQ
theorem s_X8_answer {a b : Int32} (hn : mem 392 0 = nI N) (hN : N ≤ 16) (hQ : Q (some (.inl (if (0 ≤ a ∧ a < nI N) ∧ (0 ≤ b ∧ b < nI N) then mem 396 (16 * a.toNatClampNeg + b.toNatClampNeg) else -1))) mem) : az_Sp X (d + 2) mX8_answer [.inr 391, .inl a, .inl b] mem Q := by
  refine az_body (by decide +kernel) (Nat.le_of_ble_eq_true rfl) ?_
  show az_Ev X _ mX8_answer 0 [some (.inr 391), some (.inl a), some (.inl b)] [] mem Q
  refine az_aloadn dX8_answer_0 rfl ?_
  refine az_iloadn dX8_answer_1 rfl ?_
  refine az_inv1 (N := mX8_isPost) dX8_answer_2 lkX8_66 okX8_isPost sh_391 rfl (Nat.le_of_ble_eq_true rfl) ?_
  refine s_X8_isPost ?_
  rw [hn]
  try dsimp only [az_ps]
  refine az_ifeq (t := 25) dX8_answer_5 (by decide) (fun h5 => ?_) (fun h5 => ?_)
  · replace h5 := zb_z h5
    rw [if_neg (fun h => h5 h.1)] at hQ
    refine az_iconst (v := -1) dX8_answer_25 (by decide) ?_
    refine az_iret dX8_answer_26 rfl ?_
    exact hQ
  · replace h5 := zb_n h5
    refine az_aloadn dX8_answer_8 rfl ?_
    refine az_iloadn dX8_answer_9 rfl ?_
    refine az_inv1 (N := mX8_isPost) dX8_answer_10 lkX8_66 okX8_isPost sh_391 rfl (Nat.le_of_ble_eq_true rfl) ?_
    refine s_X8_isPost ?_
    rw [hn]
    try dsimp only [az_ps]
    refine az_ifeq (t := 25) dX8_answer_13 (by decide) (fun h13 => ?_) (fun h13 => ?_)
    · replace h13 := zb_z h13
      rw [if_neg (fun h => h13 h.2)] at hQ
      refine az_iconst (v := -1) dX8_answer_25 (by decide) ?_
      refine az_iret dX8_answer_26 rfl ?_
      exact hQ
    · replace h13 := zb_n h13
      rw [if_pos ⟨h5, h13⟩] at hQ
      obtain ⟨A, hA, rfl⟩ := zi_ex (by omega) h5
      obtain ⟨B, hB, rfl⟩ := zi_ex (by omega) h13
      rw [nI_clamp (by omega), nI_clamp (by omega)] at hQ
      refine az_aloadn dX8_answer_16 rfl ?_
      refine az_iloadn dX8_answer_17 rfl ?_
      refine az_iloadn dX8_answer_18 rfl ?_
      refine az_inv2 (N := mX8_answerOf) dX8_answer_19 lkX8_105 okX8_answerOf sh_391 rfl (Nat.le_of_ble_eq_true rfl) ?_
      refine s_X8_answerOf (by omega) (by omega) ?_
      try dsimp only [az_ps]
      refine az_goto (t := 26) dX8_answer_22 (by decide) ?_
      refine az_iret dX8_answer_26 rfl ?_
      exact hQ
theorem s_X8_against {a : Int32} (hn : mem 392 0 = nI N) (hN : N ≤ 16) (hQ : Q (some (.inl (if 0 ≤ a ∧ a < nI N then zm_mask (zw_ag (mem 392) (mem 396) a.toNatClampNeg) N else -1))) mem) : az_Sp X (d + 2) mX8_against [.inr 391, .inl a] mem Q := by
  refine az_body (by decide +kernel) (Nat.le_of_ble_eq_true rfl) ?_
  show az_Ev X _ mX8_against 0 [some (.inr 391), some (.inl a)] [] mem Q
  refine az_aloadn dX8_against_0 rfl ?_
  refine az_iloadn dX8_against_1 rfl ?_
  refine az_inv1 (N := mX8_isPost) dX8_against_2 lkX8_66 okX8_isPost sh_391 rfl (Nat.le_of_ble_eq_true rfl) ?_
  refine s_X8_isPost ?_
  rw [hn]
  try dsimp only [az_ps]
  refine az_ifeq (t := 16) dX8_against_5 (by decide) (fun h5 => ?_) (fun h5 => ?_)
  · replace h5 := zb_z h5
    rw [if_neg h5] at hQ
    refine az_iconst (v := -1) dX8_against_16 (by decide) ?_
    refine az_iret dX8_against_17 rfl ?_
    exact hQ
  · replace h5 := zb_n h5
    rw [if_pos h5] at hQ
    obtain ⟨A, hA, rfl⟩ := zi_ex (by omega) h5
    rw [nI_clamp (by omega)] at hQ
    refine az_aloadn dX8_against_8 rfl ?_
    refine az_iloadn dX8_against_9 rfl ?_
    refine az_inv1 (N := mX8_againstBits) dX8_against_10 lkX8_149 okX8_againstBits sh_391 rfl (Nat.le_of_ble_eq_true rfl) ?_
    refine s_X8_againstBits hn hN (by omega) ?_
    try dsimp only [az_ps]
    refine az_goto (t := 17) dX8_against_13 (by decide) ?_
    refine az_iret dX8_against_17 rfl ?_
    exact hQ
theorem s_X8_set (hQ : Q (some (.inl (mem 391 6))) mem) : az_Sp X d mX8_set [.inr 391] mem Q := by
  refine az_body (by decide +kernel) (Nat.le_of_ble_eq_true rfl) ?_
  show az_Ev X _ mX8_set 0 [some (.inr 391)] [] mem Q
  refine az_aloadn dX8_set_0 rfl ?_
  refine az_geti dX8_set_1 flX8_140 sh_391 rfl ?_
  refine az_iret dX8_set_4 rfl ?_
  exact hQ
theorem x_of1 {A i : Nat} {what c : Int32} (hn : mem 392 0 = nI N) (hN : N ≤ 16) (hA : A < 16) (hi : i < N) (ih : az_Ev X (d + 2) mX8_of 101 [some (.inr 391), some (.inl (nI A)), some (.inl what), some (.inl (c + if mem 395 (16 * A + i) < 1000000 then 1 else 0)), some (.inl (nI (i + 1)))] [] mem Q) : az_Ev X (d + 2) mX8_of 101 [some (.inr 391), some (.inl (nI A)), some (.inl what), some (.inl c), some (.inl (nI i))] [] mem Q := by
  refine az_iload dX8_of_101 rfl ?_
  refine az_aloadn dX8_of_103 rfl ?_
  refine az_inv0 (N := mX8_n) dX8_of_104 lkX8_62 okX8_n sh_391 rfl (Nat.le_of_ble_eq_true rfl) ?_
  refine t_X8_n hn ?_
  try dsimp only [az_ps]
  refine az_icmpge (t := 141) dX8_of_107 (by decide) (fun h107 => ?_) (fun h107 => ?_)
  · exact absurd h107 (nI_ge (by omega) (by omega))
  refine az_iloadn dX8_of_110 rfl ?_
  refine az_aloadn dX8_of_111 rfl ?_
  refine az_getr dX8_of_112 flX8_20 sh_391 rfl ?_
  refine az_bipush (v := 16) dX8_of_115 (by decide) ?_
  refine az_iloadn dX8_of_117 rfl ?_
  refine az_imul dX8_of_118 ?_
  refine az_iload dX8_of_119 rfl ?_
  refine az_iadd dX8_of_121 ?_
  refine az_iald (16 * A + i) dX8_of_122 sh_395 (by omega) (by decide) (by simp only [az_lit, nI_add, pk_mul, Nat.add_assoc]) ?_
  refine az_ldc dX8_of_123 kcX8_74 ?_
  refine az_icmpge (t := 132) dX8_of_125 (by decide) (fun h125 => ?_) (fun h125 => ?_)
  · rw [if_neg (Int32.not_lt.mpr h125)] at ih
    refine az_iconst (v := 0) dX8_of_132 (by decide) ?_
    refine az_iadd dX8_of_133 ?_
    refine az_istoren dX8_of_134 (by decide) ?_
    dsimp only [List.set]
    refine az_iinc (w := 1) dX8_of_135 rfl (by decide) (by decide) ?_
    dsimp only [List.set]
    refine az_goto (t := 101) dX8_of_138 (by decide) ?_
    rw [nI_1]; exact ih
  · rw [if_pos (Int32.not_le.mp h125)] at ih
    refine az_iconst (v := 1) dX8_of_128 (by decide) ?_
    refine az_goto (t := 133) dX8_of_129 (by decide) ?_
    refine az_iadd dX8_of_133 ?_
    refine az_istoren dX8_of_134 (by decide) ?_
    dsimp only [List.set]
    refine az_iinc (w := 1) dX8_of_135 rfl (by decide) (by decide) ?_
    dsimp only [List.set]
    refine az_goto (t := 101) dX8_of_138 (by decide) ?_
    rw [nI_1]; exact ih
theorem x_of2 {A : Nat} {what c : Int32} (hn : mem 392 0 = nI N) (hQ : Q (some (.inl c)) mem) : az_Ev X (d + 2) mX8_of 101 [some (.inr 391), some (.inl (nI A)), some (.inl what), some (.inl c), some (.inl (nI N))] [] mem Q := by
  refine az_iload dX8_of_101 rfl ?_
  refine az_aloadn dX8_of_103 rfl ?_
  refine az_inv0 (N := mX8_n) dX8_of_104 lkX8_62 okX8_n sh_391 rfl (Nat.le_of_ble_eq_true rfl) ?_
  refine t_X8_n hn ?_
  try dsimp only [az_ps]
  refine az_icmpge (t := 141) dX8_of_107 (by decide) (fun h107 => ?_) (fun h107 => ?_)
  rotate_left 1
  · exact absurd (Int32.le_refl _) h107
  refine az_iloadn dX8_of_141 rfl ?_
  refine az_iret dX8_of_142 rfl ?_
  exact hQ
theorem x_ab1 {i : Nat} {what c : Int32} (hn : mem 392 0 = nI N) (hN : N ≤ 16) (hi : i < N) (ih : az_Ev X (d + 2) mX8_about 61 [some (.inr 391), some (.inl what), some (.inl (c + zm_many (zm_mask (zm_bf (zm_len (mem 392)) i) N))), some (.inl (nI (i + 1)))] [] mem Q) : az_Ev X (d + 2) mX8_about 61 [some (.inr 391), some (.inl what), some (.inl c), some (.inl (nI i))] [] mem Q := by
  refine az_iloadn dX8_about_61 rfl ?_
  refine az_aloadn dX8_about_62 rfl ?_
  refine az_inv0 (N := mX8_n) dX8_about_63 lkX8_62 okX8_n sh_391 rfl (Nat.le_of_ble_eq_true rfl) ?_
  refine t_X8_n hn ?_
  try dsimp only [az_ps]
  refine az_icmpge (t := 86) dX8_about_66 (by decide) (fun h66 => ?_) (fun h66 => ?_)
  · exact absurd h66 (nI_ge (by omega) (by omega))
  refine az_iloadn dX8_about_69 rfl ?_
  refine az_aloadn dX8_about_70 rfl ?_
  refine az_iloadn dX8_about_71 rfl ?_
  refine az_inv1 (N := mX8_besideBits) dX8_about_72 lkX8_98 okX8_besideBits sh_391 rfl (Nat.le_of_ble_eq_true rfl) ?_
  refine s_X8_besideBits hn hN (by omega) ?_
  try dsimp only [az_ps]
  refine az_ins1 (N := mX8_many) dX8_about_75 lsX8_102 okX8_many (Nat.le_of_ble_eq_true rfl) ?_
  refine s_X8_many ?_
  try dsimp only [az_ps]
  refine az_iadd dX8_about_78 ?_
  refine az_istoren dX8_about_79 (by decide) ?_
  dsimp only [List.set]
  refine az_iinc (w := 1) dX8_about_80 rfl (by decide) (by decide) ?_
  dsimp only [List.set]
  refine az_goto (t := 61) dX8_about_83 (by decide) ?_
  rw [nI_1]; exact ih
theorem x_ab2 {what c : Int32} (hn : mem 392 0 = nI N) (hQ : Q (some (.inl (c / 2))) mem) : az_Ev X (d + 2) mX8_about 61 [some (.inr 391), some (.inl what), some (.inl c), some (.inl (nI N))] [] mem Q := by
  refine az_iloadn dX8_about_61 rfl ?_
  refine az_aloadn dX8_about_62 rfl ?_
  refine az_inv0 (N := mX8_n) dX8_about_63 lkX8_62 okX8_n sh_391 rfl (Nat.le_of_ble_eq_true rfl) ?_
  refine t_X8_n hn ?_
  try dsimp only [az_ps]
  refine az_icmpge (t := 86) dX8_about_66 (by decide) (fun h66 => ?_) (fun h66 => ?_)
  rotate_left 1
  · exact absurd (Int32.le_refl _) h66
  refine az_iloadn dX8_about_86 rfl ?_
  refine az_iconst (v := 2) dX8_about_87 (by decide) ?_
  refine az_idiv dX8_about_88 (by decide) ?_
  refine az_iret dX8_about_89 rfl ?_
  exact hQ
theorem s_X8_of {p what : Int32} (hn : mem 392 0 = nI N) (hN : N ≤ 16) (hQ : Q (some (.inl (zm_of (mem 392) (mem 395) N p what))) mem) : az_Sp X (d + 2) mX8_of [.inr 391, .inl p, .inl what] mem Q := by
  unfold zm_of at hQ
  refine az_body (by decide +kernel) (Nat.le_of_ble_eq_true rfl) ?_
  show az_Ev X _ mX8_of 0 [some (.inr 391), some (.inl p), some (.inl what), none, none] [] mem Q
  refine az_aloadn dX8_of_0 rfl ?_
  refine az_iloadn dX8_of_1 rfl ?_
  refine az_inv1 (N := mX8_isPost) dX8_of_2 lkX8_66 okX8_isPost sh_391 rfl (Nat.le_of_ble_eq_true rfl) ?_
  refine s_X8_isPost ?_
  rw [hn]
  try dsimp only [az_ps]
  refine az_ifne (t := 10) dX8_of_5 (by decide) (fun h5 => ?_) (fun h5 => ?_)
  · replace h5 := zb_n h5
    rw [if_pos h5] at hQ
    obtain ⟨A, hA, rfl⟩ := zi_ex (by omega) h5
    rw [nI_clamp (by omega)] at hQ
    refine az_iloadn dX8_of_10 rfl ?_
    by_cases hs11_0 : what = 0
    · refine az_tin (off := 37) (t := 48) dX8_of_11 (by rw [hs11_0]; decide) (by rw [hs11_0]; decide) (by rw [hs11_0]; decide) (by decide) ?_
      rw [if_pos hs11_0] at hQ
      refine az_aloadn dX8_of_48 rfl ?_
      refine az_iloadn dX8_of_49 rfl ?_
      refine az_inv1 (N := mX8_besideBits) dX8_of_50 lkX8_98 okX8_besideBits sh_391 rfl (Nat.le_of_ble_eq_true rfl) ?_
      refine s_X8_besideBits hn hN (by omega) ?_
      try dsimp only [az_ps]
      refine az_ins1 (N := mX8_many) dX8_of_53 lsX8_102 okX8_many (Nat.le_of_ble_eq_true rfl) ?_
      refine s_X8_many ?_
      try dsimp only [az_ps]
      refine az_iret dX8_of_56 rfl ?_
      exact hQ
    by_cases hs11_1 : what = 1
    · refine az_tin (off := 46) (t := 57) dX8_of_11 (by rw [hs11_1]; decide) (by rw [hs11_1]; decide) (by rw [hs11_1]; decide) (by decide) ?_
      rw [if_neg hs11_0, if_pos hs11_1] at hQ
      refine az_aloadn dX8_of_57 rfl ?_
      refine az_getr dX8_of_58 flX8_7 sh_391 rfl ?_
      refine az_sipush (v := 263) dX8_of_61 (by decide) ?_
      refine az_iloadn dX8_of_64 rfl ?_
      refine az_iadd dX8_of_65 ?_
      refine az_iald (263 + A) dX8_of_66 sh_392 (by omega) (by decide) (by simp only [az_lit, nI_add, pk_mul, Nat.add_assoc]) ?_
      refine az_iret dX8_of_67 rfl ?_
      exact hQ
    by_cases hs11_2 : what = 2
    · refine az_tin (off := 57) (t := 68) dX8_of_11 (by rw [hs11_2]; decide) (by rw [hs11_2]; decide) (by rw [hs11_2]; decide) (by decide) ?_
      rw [if_neg hs11_0, if_neg hs11_1, if_pos hs11_2] at hQ
      refine az_aloadn dX8_of_68 rfl ?_
      refine az_getr dX8_of_69 flX8_7 sh_391 rfl ?_
      refine az_sipush (v := 279) dX8_of_72 (by decide) ?_
      refine az_iloadn dX8_of_75 rfl ?_
      refine az_iadd dX8_of_76 ?_
      refine az_iald (279 + A) dX8_of_77 sh_392 (by omega) (by decide) (by simp only [az_lit, nI_add, pk_mul, Nat.add_assoc]) ?_
      refine az_iret dX8_of_78 rfl ?_
      exact hQ
    by_cases hs11_3 : what = 3
    · refine az_tin (off := 68) (t := 79) dX8_of_11 (by rw [hs11_3]; decide) (by rw [hs11_3]; decide) (by rw [hs11_3]; decide) (by decide) ?_
      rw [if_neg hs11_0, if_neg hs11_1, if_neg hs11_2, if_pos hs11_3] at hQ
      refine az_aloadn dX8_of_79 rfl ?_
      refine az_getr dX8_of_80 flX8_7 sh_391 rfl ?_
      refine az_sipush (v := 295) dX8_of_83 (by decide) ?_
      refine az_iloadn dX8_of_86 rfl ?_
      refine az_iadd dX8_of_87 ?_
      refine az_iald (295 + A) dX8_of_88 sh_392 (by omega) (by decide) (by simp only [az_lit, nI_add, pk_mul, Nat.add_assoc]) ?_
      refine az_iret dX8_of_89 rfl ?_
      exact hQ
    by_cases hs11_4 : what = 4
    · refine az_tin (off := 79) (t := 90) dX8_of_11 (by rw [hs11_4]; decide) (by rw [hs11_4]; decide) (by rw [hs11_4]; decide) (by decide) ?_
      rw [if_neg hs11_0, if_neg hs11_1, if_neg hs11_2, if_neg hs11_3, if_pos hs11_4] at hQ
      refine az_aloadn dX8_of_90 rfl ?_
      refine az_iloadn dX8_of_91 rfl ?_
      refine az_inv1 (N := mX8_besideBits) dX8_of_92 lkX8_98 okX8_besideBits sh_391 rfl (Nat.le_of_ble_eq_true rfl) ?_
      refine s_X8_besideBits hn hN (by omega) ?_
      try dsimp only [az_ps]
      refine az_iret dX8_of_95 rfl ?_
      exact hQ
    by_cases hs11_5 : what = 5
    · refine az_tin (off := 85) (t := 96) dX8_of_11 (by rw [hs11_5]; decide) (by rw [hs11_5]; decide) (by rw [hs11_5]; decide) (by decide) ?_
      rw [if_neg hs11_0, if_neg hs11_1, if_neg hs11_2, if_neg hs11_3, if_neg hs11_4, if_pos hs11_5] at hQ
      refine az_iconst (v := 0) dX8_of_96 (by decide) ?_
      refine az_istoren dX8_of_97 (by decide) ?_
      dsimp only [List.set]
      refine az_iconst (v := 0) dX8_of_98 (by decide) ?_
      refine az_istore dX8_of_99 (by decide) ?_
      dsimp only [List.set]
      refine az_up (fun i => az_Ev X (d + 2) mX8_of 101 [some (.inr 391), some (.inl (nI A)), some (.inl what), some (.inl (zm_reach (mem 395) i A)), some (.inl (nI i))] [] mem Q) N 0 (by omega) (fun i _ hi ih => ?_) ?_
      · unfold zm_reach at ih ⊢
        rw [zm_sum] at ih
        exact x_of1 hn hN (by omega) hi ih
      · exact x_of2 hn hQ
    refine az_tout (t := 143) dX8_of_11 (by have g0 := zi_ne (k := 0) (by decide) hs11_0; have g1 := zi_ne (k := 1) (by decide) hs11_1; have g2 := zi_ne (k := 2) (by decide) hs11_2; have g3 := zi_ne (k := 3) (by decide) hs11_3; have g4 := zi_ne (k := 4) (by decide) hs11_4; have g5 := zi_ne (k := 5) (by decide) hs11_5; omega) (by decide) ?_
    rw [if_neg hs11_0, if_neg hs11_1, if_neg hs11_2, if_neg hs11_3, if_neg hs11_4, if_neg hs11_5] at hQ
    refine az_iconst (v := -1) dX8_of_143 (by decide) ?_
    refine az_iret dX8_of_144 rfl ?_
    exact hQ
  · replace h5 := zb_z h5
    rw [if_neg h5] at hQ
    refine az_iconst (v := -1) dX8_of_8 (by decide) ?_
    refine az_iret dX8_of_9 rfl ?_
    exact hQ
theorem s_X8_about {what : Int32} (hn : mem 392 0 = nI N) (hN : N ≤ 16) (hQ : Q (some (.inl (zm_about (mem 392) N (mem 391 2) (mem 391 5) what))) mem) : az_Sp X (d + 2) mX8_about [.inr 391, .inl what] mem Q := by
  unfold zm_about at hQ
  refine az_body (by decide +kernel) (Nat.le_of_ble_eq_true rfl) ?_
  show az_Ev X _ mX8_about 0 [some (.inr 391), some (.inl what), none, none] [] mem Q
  refine az_iloadn dX8_about_0 rfl ?_
  by_cases hs1_0 : what = 0
  · refine az_tin (off := 51) (t := 52) dX8_about_1 (by rw [hs1_0]; decide) (by rw [hs1_0]; decide) (by rw [hs1_0]; decide) (by decide) ?_
    rw [if_pos hs1_0] at hQ
    refine az_aloadn dX8_about_52 rfl ?_
    refine az_inv0 (N := mX8_n) dX8_about_53 lkX8_62 okX8_n sh_391 rfl (Nat.le_of_ble_eq_true rfl) ?_
    refine t_X8_n hn ?_
    try dsimp only [az_ps]
    refine az_iret dX8_about_56 rfl ?_
    exact hQ
  by_cases hs1_1 : what = 1
  · refine az_tin (off := 56) (t := 57) dX8_about_1 (by rw [hs1_1]; decide) (by rw [hs1_1]; decide) (by rw [hs1_1]; decide) (by decide) ?_
    rw [if_neg hs1_0, if_pos hs1_1] at hQ
    refine az_iconst (v := 0) dX8_about_57 (by decide) ?_
    refine az_istoren dX8_about_58 (by decide) ?_
    dsimp only [List.set]
    refine az_iconst (v := 0) dX8_about_59 (by decide) ?_
    refine az_istoren dX8_about_60 (by decide) ?_
    dsimp only [List.set]
    refine az_up (fun i => az_Ev X (d + 2) mX8_about 61 [some (.inr 391), some (.inl what), some (.inl (zm_sum (fun p => zm_many (zm_mask (zm_bf (zm_len (mem 392)) p) N)) i)), some (.inl (nI i))] [] mem Q) N 0 (by omega) (fun i _ hi ih => ?_) ?_
    · rw [zm_sum] at ih
      exact x_ab1 hn hN hi ih
    · exact x_ab2 hn hQ
  by_cases hs1_2 : what = 2
  · refine az_tin (off := 89) (t := 90) dX8_about_1 (by rw [hs1_2]; decide) (by rw [hs1_2]; decide) (by rw [hs1_2]; decide) (by decide) ?_
    rw [if_neg hs1_0, if_neg hs1_1, if_pos hs1_2] at hQ
    refine az_aloadn dX8_about_90 rfl ?_
    refine az_getr dX8_about_91 flX8_7 sh_391 rfl ?_
    refine az_iconst (v := 1) dX8_about_94 (by decide) ?_
    refine az_iald (1) dX8_about_95 sh_392 (by omega) (by decide) (by simp only [az_lit, nI_add, pk_mul, Nat.add_assoc]) ?_
    refine az_iret dX8_about_96 rfl ?_
    exact hQ
  by_cases hs1_3 : what = 3
  · refine az_tin (off := 96) (t := 97) dX8_about_1 (by rw [hs1_3]; decide) (by rw [hs1_3]; decide) (by rw [hs1_3]; decide) (by decide) ?_
    rw [if_neg hs1_0, if_neg hs1_1, if_neg hs1_2, if_pos hs1_3] at hQ
    refine az_aloadn dX8_about_97 rfl ?_
    refine az_getr dX8_about_98 flX8_7 sh_391 rfl ?_
    refine az_iconst (v := 2) dX8_about_101 (by decide) ?_
    refine az_iald (2) dX8_about_102 sh_392 (by omega) (by decide) (by simp only [az_lit, nI_add, pk_mul, Nat.add_assoc]) ?_
    refine az_iret dX8_about_103 rfl ?_
    exact hQ
  by_cases hs1_4 : what = 4
  · refine az_tin (off := 103) (t := 104) dX8_about_1 (by rw [hs1_4]; decide) (by rw [hs1_4]; decide) (by rw [hs1_4]; decide) (by decide) ?_
    rw [if_neg hs1_0, if_neg hs1_1, if_neg hs1_2, if_neg hs1_3, if_pos hs1_4] at hQ
    refine az_aloadn dX8_about_104 rfl ?_
    refine az_inv0 (N := mX8_need) dX8_about_105 lkX8_95 okX8_need sh_391 rfl (Nat.le_of_ble_eq_true rfl) ?_
    refine s_X8_need ?_
    try dsimp only [az_ps]
    refine az_iret dX8_about_108 rfl ?_
    exact hQ
  by_cases hs1_5 : what = 5
  · refine az_tin (off := 108) (t := 109) dX8_about_1 (by rw [hs1_5]; decide) (by rw [hs1_5]; decide) (by rw [hs1_5]; decide) (by decide) ?_
    rw [if_neg hs1_0, if_neg hs1_1, if_neg hs1_2, if_neg hs1_3, if_neg hs1_4, if_pos hs1_5] at hQ
    refine az_aloadn dX8_about_109 rfl ?_
    refine az_getr dX8_about_110 flX8_7 sh_391 rfl ?_
    refine az_iconst (v := 5) dX8_about_113 (by decide) ?_
    refine az_iald (5) dX8_about_114 sh_392 (by omega) (by decide) (by simp only [az_lit, nI_add, pk_mul, Nat.add_assoc]) ?_
    refine az_iret dX8_about_115 rfl ?_
    exact hQ
  by_cases hs1_6 : what = 6
  · refine az_tin (off := 115) (t := 116) dX8_about_1 (by rw [hs1_6]; decide) (by rw [hs1_6]; decide) (by rw [hs1_6]; decide) (by decide) ?_
    rw [if_neg hs1_0, if_neg hs1_1, if_neg hs1_2, if_neg hs1_3, if_neg hs1_4, if_neg hs1_5, if_pos hs1_6] at hQ
    refine az_aloadn dX8_about_116 rfl ?_
    refine az_getr dX8_about_117 flX8_7 sh_391 rfl ?_
    refine az_bipush (v := 6) dX8_about_120 (by decide) ?_
    refine az_iald (6) dX8_about_122 sh_392 (by omega) (by decide) (by simp only [az_lit, nI_add, pk_mul, Nat.add_assoc]) ?_
    refine az_iret dX8_about_123 rfl ?_
    exact hQ
  by_cases hs1_7 : what = 7
  · refine az_tin (off := 123) (t := 124) dX8_about_1 (by rw [hs1_7]; decide) (by rw [hs1_7]; decide) (by rw [hs1_7]; decide) (by decide) ?_
    rw [if_neg hs1_0, if_neg hs1_1, if_neg hs1_2, if_neg hs1_3, if_neg hs1_4, if_neg hs1_5, if_neg hs1_6, if_pos hs1_7] at hQ
    refine az_aloadn dX8_about_124 rfl ?_
    refine az_geti dX8_about_125 flX8_59 sh_391 rfl ?_
    refine az_iret dX8_about_128 rfl ?_
    exact hQ
  by_cases hs1_8 : what = 8
  · refine az_tin (off := 128) (t := 129) dX8_about_1 (by rw [hs1_8]; decide) (by rw [hs1_8]; decide) (by rw [hs1_8]; decide) (by decide) ?_
    rw [if_neg hs1_0, if_neg hs1_1, if_neg hs1_2, if_neg hs1_3, if_neg hs1_4, if_neg hs1_5, if_neg hs1_6, if_neg hs1_7, if_pos hs1_8] at hQ
    refine az_aloadn dX8_about_129 rfl ?_
    refine az_geti dX8_about_130 flX8_89 sh_391 rfl ?_
    refine az_iret dX8_about_133 rfl ?_
    exact hQ
  refine az_tout (t := 134) dX8_about_1 (by have g0 := zi_ne (k := 0) (by decide) hs1_0; have g1 := zi_ne (k := 1) (by decide) hs1_1; have g2 := zi_ne (k := 2) (by decide) hs1_2; have g3 := zi_ne (k := 3) (by decide) hs1_3; have g4 := zi_ne (k := 4) (by decide) hs1_4; have g5 := zi_ne (k := 5) (by decide) hs1_5; have g6 := zi_ne (k := 6) (by decide) hs1_6; have g7 := zi_ne (k := 7) (by decide) hs1_7; have g8 := zi_ne (k := 8) (by decide) hs1_8; omega) (by decide) ?_
  rw [if_neg hs1_0, if_neg hs1_1, if_neg hs1_2, if_neg hs1_3, if_neg hs1_4, if_neg hs1_5, if_neg hs1_6, if_neg hs1_7, if_neg hs1_8] at hQ
  refine az_iconst (v := -1) dX8_about_134 (by decide) ?_
  refine az_iret dX8_about_135 rfl ?_
  exact hQ
theorem s_X8_show (hn : mem 392 0 = nI N) (hN : N ≤ 16) (hQ : ∀ m', (∀ k, k ≠ 399 → m' k = mem k) → (∀ i, i < (zp_list (mem 396) N).length → m' 399 i = nI ((zp_list (mem 396) N).getD i 0)) → Q (some (.inl (nI (zp_list (mem 396) N).length))) m') : az_Sp X (d + 3) mX8_show [.inr 391] mem Q := by
  have htri : zp_tri N ≤ 120 := zp_tri_le N (by omega)
  refine az_body (by decide +kernel) (Nat.le_of_ble_eq_true rfl) ?_
  show az_Ev X _ mX8_show 0 [some (.inr 391), none, none, none, none, none] [] mem Q
  refine az_iconst (v := 0) dX8_show_0 (by decide) ?_
  refine az_istoren dX8_show_1 (by decide) ?_
  dsimp only [List.set]
  refine az_iconst (v := 0) dX8_show_2 (by decide) ?_
  refine az_istoren dX8_show_3 (by decide) ?_
  dsimp only [List.set]
  refine az_iconst (v := 0) dX8_show_4 (by decide) ?_
  refine az_istoren dX8_show_5 (by decide) ?_
  dsimp only [List.set]
  skip
  unfold zp_list at hQ
  generalize hR : zp_pr (zm_P (mem 396) N) N N 0 (0, []) = R at hQ
  refine az_up (fun i => ∀ m' (u : Int32) (l : List Nat) L4 L5, (∀ k, k ≠ 399 → m' k = mem k) → zp_pr (zm_P (mem 396) N) N (N - i) i (u, l) = R → (∀ i, i < l.length → m' 399 i = nI (l.getD i 0)) → l.length + zp_tri (N - i) ≤ 120 → az_Ev X (d + 3) mX8_show 6 [some (.inr 391), some (.inl (nI l.length)), some (.inl u), some (.inl (nI i)), L4, L5] [] m' Q) N 0 (by omega) (fun i _ hi ih m' u l L4 L5 hf h1 h2 h3 => ?_) (fun m' u l L4 L5 hf h1 h2 h3 => ?_) mem 0 [] none none (fun _ _ => rfl) hR (fun i h => absurd h (by simp)) (by simpa using htri)
  · have hn' : m' 392 0 = nI N := by rw [hf 392 (by decide)]; exact hn
    rw [zs_sub hi, zp_pr] at h1
    rw [zs_sub hi, zp_tri] at h3
    refine az_iloadn dX8_show_6 rfl ?_
    refine az_aloadn dX8_show_7 rfl ?_
    refine az_inv0 (N := mX8_n) dX8_show_8 lkX8_62 okX8_n sh_391 rfl (Nat.le_of_ble_eq_true rfl) ?_
    refine t_X8_n hn' ?_
    try dsimp only [az_ps]
    refine az_icmpge (t := 85) dX8_show_11 (by decide) (fun h11 => ?_) (fun h11 => ?_)
    · exact absurd h11 (nI_ge (by omega) (by omega))
    refine az_iloadn dX8_show_14 rfl ?_
    refine az_iconst (v := 1) dX8_show_15 (by decide) ?_
    refine az_iadd dX8_show_16 ?_
    refine az_istore dX8_show_17 (by decide) ?_
    dsimp only [List.set]
    rw [nI_1]
    generalize hR2 : zp_in (zm_P (mem 396) N) i (N - (i + 1)) (i + 1) (u, l) = R2 at h1
    refine az_up (fun j => ∀ m' (u : Int32) (l : List Nat) L5, (∀ k, k ≠ 399 → m' k = mem k) → zp_in (zm_P (mem 396) N) i (N - j) j (u, l) = R2 → (∀ i, i < l.length → m' 399 i = nI (l.getD i 0)) → l.length + (N - j) + zp_tri (N - (i + 1)) ≤ 120 → az_Ev X (d + 3) mX8_show 19 [some (.inr 391), some (.inl (nI l.length)), some (.inl u), some (.inl (nI i)), some (.inl (nI j)), L5] [] m' Q) N (i + 1) (by omega) (fun j hj1 hj ih2 m' u l L5 hf h1 h2 h3 => ?_) (fun m' u l L5 hf h1' h2 h3 => ?_) m' u l L5 hf hR2 h2 (by omega)
    · have hn' : m' 392 0 = nI N := by rw [hf 392 (by decide)]; exact hn
      rw [zs_sub hj, zp_in] at h1
      rw [zm_P_at (by omega)] at h1
      refine az_iload dX8_show_19 rfl ?_
      refine az_aloadn dX8_show_21 rfl ?_
      refine az_inv0 (N := mX8_n) dX8_show_22 lkX8_62 okX8_n sh_391 rfl (Nat.le_of_ble_eq_true rfl) ?_
      refine t_X8_n hn' ?_
      try dsimp only [az_ps]
      refine az_icmpge (t := 79) dX8_show_25 (by decide) (fun h25 => ?_) (fun h25 => ?_)
      · exact absurd h25 (nI_ge (by omega) (by omega))
      refine az_aloadn dX8_show_28 rfl ?_
      refine az_iloadn dX8_show_29 rfl ?_
      refine az_iload dX8_show_30 rfl ?_
      refine az_inv2 (N := mX8_parting) dX8_show_32 lkX8_111 okX8_parting sh_391 rfl (Nat.le_of_ble_eq_true rfl) ?_
      refine s_X8_parting hn' hN (by omega) (by omega) ?_
      rw [hf 396 (by decide)]
      try dsimp only [az_ps]
      refine az_istore dX8_show_35 (by decide) ?_
      dsimp only [List.set]
      refine az_iload dX8_show_37 rfl ?_
      refine az_ifeq (t := 73) dX8_show_39 (by decide) (fun h39 => ?_) (fun h39 => ?_)
      · rw [if_pos (Or.inl h39)] at h1
        refine az_iinc (w := 1) dX8_show_73 rfl (by decide) (by decide) ?_
        dsimp only [List.set]
        refine az_goto (t := 19) dX8_show_76 (by decide) ?_
        rw [nI_1]
        first
        | (rw [nI_1, show nI (l.length + 1) = nI (l ++ [16 * i + j]).length by rw [List.length_append, List.length_singleton]]
           refine ih2 _ _ _ _ (fun k hk => by rw [az_w_ne _ hk]; exact hf k hk) h1 (fun q hq => ?_) (by rw [List.length_append]; simp only [List.length_cons, List.length_nil]; omega)
           rw [List.length_append] at hq
           simp only [List.length_cons, List.length_nil] at hq
           rw [az_w_eq]
           by_cases hql : q = l.length
           · rw [if_pos ⟨rfl, hql⟩, hql]
             simp only [az_lit, nI_add, pk_mul, List.getD_eq_getElem?_getD, List.getElem?_concat_length, Option.getD_some]
           · rw [if_neg (fun h => hql h.2), h2 q (by omega)]
             rw [List.getD_eq_getElem?_getD, List.getD_eq_getElem?_getD, List.getElem?_append_left (by omega)])
        | exact ih2 _ _ _ _ hf h1 h2 (by omega)
      · refine az_iload dX8_show_42 rfl ?_
        refine az_iloadn dX8_show_44 rfl ?_
        refine az_iand dX8_show_45 ?_
        refine az_ifeq (t := 52) dX8_show_46 (by decide) (fun h46 => ?_) (fun h46 => ?_)
        · rw [if_neg (fun h => h.elim h39 (fun q => q h46))] at h1
          refine az_iloadn dX8_show_52 rfl ?_
          refine az_iload dX8_show_53 rfl ?_
          refine az_ior dX8_show_55 ?_
          refine az_istoren dX8_show_56 (by decide) ?_
          dsimp only [List.set]
          refine az_aloadn dX8_show_57 rfl ?_
          refine az_getr dX8_show_58 flX8_32 sh_391 rfl ?_
          refine az_iloadn dX8_show_61 rfl ?_
          refine az_bipush (v := 16) dX8_show_62 (by decide) ?_
          refine az_iloadn dX8_show_64 rfl ?_
          refine az_imul dX8_show_65 ?_
          refine az_iload dX8_show_66 rfl ?_
          refine az_iadd dX8_show_68 ?_
          refine az_iast (l.length) dX8_show_69 sh_399 (by omega) (by decide) (by simp only [az_lit, nI_add, pk_mul, Nat.add_assoc]) ?_
          refine az_iinc (w := 1) dX8_show_70 rfl (by decide) (by decide) ?_
          dsimp only [List.set]
          refine az_iinc (w := 1) dX8_show_73 rfl (by decide) (by decide) ?_
          dsimp only [List.set]
          refine az_goto (t := 19) dX8_show_76 (by decide) ?_
          rw [nI_1]
          first
          | (rw [nI_1, show nI (l.length + 1) = nI (l ++ [16 * i + j]).length by rw [List.length_append, List.length_singleton]]
             refine ih2 _ _ _ _ (fun k hk => by rw [az_w_ne _ hk]; exact hf k hk) h1 (fun q hq => ?_) (by rw [List.length_append]; simp only [List.length_cons, List.length_nil]; omega)
             rw [List.length_append] at hq
             simp only [List.length_cons, List.length_nil] at hq
             rw [az_w_eq]
             by_cases hql : q = l.length
             · rw [if_pos ⟨rfl, hql⟩, hql]
               simp only [az_lit, nI_add, pk_mul, List.getD_eq_getElem?_getD, List.getElem?_concat_length, Option.getD_some]
             · rw [if_neg (fun h => hql h.2), h2 q (by omega)]
               rw [List.getD_eq_getElem?_getD, List.getD_eq_getElem?_getD, List.getElem?_append_left (by omega)])
          | exact ih2 _ _ _ _ hf h1 h2 (by omega)
        · rw [if_pos (Or.inr h46)] at h1
          refine az_goto (t := 73) dX8_show_49 (by decide) ?_
          refine az_iinc (w := 1) dX8_show_73 rfl (by decide) (by decide) ?_
          dsimp only [List.set]
          refine az_goto (t := 19) dX8_show_76 (by decide) ?_
          rw [nI_1]
          first
          | (rw [nI_1, show nI (l.length + 1) = nI (l ++ [16 * i + j]).length by rw [List.length_append, List.length_singleton]]
             refine ih2 _ _ _ _ (fun k hk => by rw [az_w_ne _ hk]; exact hf k hk) h1 (fun q hq => ?_) (by rw [List.length_append]; simp only [List.length_cons, List.length_nil]; omega)
             rw [List.length_append] at hq
             simp only [List.length_cons, List.length_nil] at hq
             rw [az_w_eq]
             by_cases hql : q = l.length
             · rw [if_pos ⟨rfl, hql⟩, hql]
               simp only [az_lit, nI_add, pk_mul, List.getD_eq_getElem?_getD, List.getElem?_concat_length, Option.getD_some]
             · rw [if_neg (fun h => hql h.2), h2 q (by omega)]
               rw [List.getD_eq_getElem?_getD, List.getD_eq_getElem?_getD, List.getElem?_append_left (by omega)])
          | exact ih2 _ _ _ _ hf h1 h2 (by omega)
    · have hn' : m' 392 0 = nI N := by rw [hf 392 (by decide)]; exact hn
      rw [Nat.sub_self, zp_in] at h1'
      refine az_iload dX8_show_19 rfl ?_
      refine az_aloadn dX8_show_21 rfl ?_
      refine az_inv0 (N := mX8_n) dX8_show_22 lkX8_62 okX8_n sh_391 rfl (Nat.le_of_ble_eq_true rfl) ?_
      refine t_X8_n hn' ?_
      try dsimp only [az_ps]
      refine az_icmpge (t := 79) dX8_show_25 (by decide) (fun h25 => ?_) (fun h25 => ?_)
      rotate_left 1
      · exact absurd (Int32.le_refl _) h25
      refine az_iinc (w := 1) dX8_show_79 rfl (by decide) (by decide) ?_
      dsimp only [List.set]
      refine az_goto (t := 6) dX8_show_82 (by decide) ?_
      rw [nI_1]; exact ih _ _ _ _ _ hf (by rw [h1']; exact h1) h2 (by omega)
  · have hn' : m' 392 0 = nI N := by rw [hf 392 (by decide)]; exact hn
    rw [Nat.sub_self, zp_pr] at h1
    rw [← h1] at hQ
    refine az_iloadn dX8_show_6 rfl ?_
    refine az_aloadn dX8_show_7 rfl ?_
    refine az_inv0 (N := mX8_n) dX8_show_8 lkX8_62 okX8_n sh_391 rfl (Nat.le_of_ble_eq_true rfl) ?_
    refine t_X8_n hn' ?_
    try dsimp only [az_ps]
    refine az_icmpge (t := 85) dX8_show_11 (by decide) (fun h11 => ?_) (fun h11 => ?_)
    rotate_left 1
    · exact absurd (Int32.le_refl _) h11
    refine az_iloadn dX8_show_85 rfl ?_
    refine az_iret dX8_show_86 rfl ?_
    exact hQ m' hf h2
theorem zp_in_len (P : Nat → Int32) (a : Nat) : ∀ (n b : Nat) (s : Int32 × List Nat), (zp_in P a n b s).2.length ≤ s.2.length + n
  | 0, _, s => Nat.le_refl _
  | n + 1, b, s => by
    rw [zp_in]
    refine Nat.le_trans (zp_in_len P a n (b + 1) _) ?_
    split
    · omega
    · simp only [List.length_append, List.length_cons, List.length_nil]; omega
theorem zp_pr_len (P : Nat → Int32) (N : Nat) : ∀ (n a : Nat) (s : Int32 × List Nat), a + n = N → (zp_pr P N n a s).2.length ≤ s.2.length + zp_tri n
  | 0, _, s, _ => Nat.le_refl _
  | n + 1, a, s, h => by
    rw [zp_pr]
    refine Nat.le_trans (zp_pr_len P N n (a + 1) _ (by omega)) ?_
    have := zp_in_len P a (N - (a + 1)) (a + 1) s
    rw [zp_tri]
    omega
theorem zp_list_len {an : Nat → Int32} {N : Nat} (hN : N ≤ 16) : (zp_list an N).length ≤ 120 := by
  have h1 := zp_pr_len (zm_P an N) N N 0 (0, []) (by omega)
  have h2 := zp_tri_le N (by omega)
  unfold zp_list
  simp only [List.length_nil] at h1
  omega
theorem s_X8_shown (hn : mem 392 0 = nI N) (hN : N ≤ 16) (hQ : ∀ m', (∀ k, k ≠ 399 → m' k = mem k) → Q (some (.inl (nI (zp_list (mem 396) N).length))) m') : az_Sp X (d + 4) mX8_shown [.inr 391] mem Q := by
  refine az_body (by decide +kernel) (Nat.le_of_ble_eq_true rfl) ?_
  show az_Ev X _ mX8_shown 0 [some (.inr 391)] [] mem Q
  refine az_aloadn dX8_shown_0 rfl ?_
  refine az_inv0 (N := mX8_show) dX8_shown_1 lkX8_143 okX8_show sh_391 rfl (Nat.le_of_ble_eq_true rfl) ?_
  refine s_X8_show hn hN (fun m' hf h1 => ?_)
  try dsimp only [az_ps]
  refine az_iret dX8_shown_4 rfl ?_
  exact hQ m' hf
theorem s_X8_pair {k : Int32} (hn : mem 392 0 = nI N) (hN : N ≤ 16) (hQ : ∀ m', (∀ k, k ≠ 399 → m' k = mem k) → Q (some (.inl (if 0 ≤ k ∧ k < nI (zp_list (mem 396) N).length then nI ((zp_list (mem 396) N).getD k.toNatClampNeg 0) else -1))) m') : az_Sp X (d + 4) mX8_pair [.inr 391, .inl k] mem Q := by
  have hlen := zp_list_len (an := mem 396) hN
  refine az_body (by decide +kernel) (Nat.le_of_ble_eq_true rfl) ?_
  show az_Ev X _ mX8_pair 0 [some (.inr 391), some (.inl k), none] [] mem Q
  refine az_aloadn dX8_pair_0 rfl ?_
  refine az_inv0 (N := mX8_show) dX8_pair_1 lkX8_143 okX8_show sh_391 rfl (Nat.le_of_ble_eq_true rfl) ?_
  refine s_X8_show hn hN (fun m' hf h1 => ?_)
  have hQ := hQ m' hf
  try dsimp only [az_ps]
  refine az_istoren dX8_pair_4 (by decide) ?_
  dsimp only [List.set]
  refine az_iloadn dX8_pair_5 rfl ?_
  refine az_iflt (t := 23) dX8_pair_6 (by decide) (fun h6 => ?_) (fun h6 => ?_)
  · rw [if_neg (fun h => absurd h6 (Int32.not_lt.mpr h.1))] at hQ
    refine az_iconst (v := -1) dX8_pair_23 (by decide) ?_
    refine az_iret dX8_pair_24 rfl ?_
    exact hQ
  · refine az_iloadn dX8_pair_9 rfl ?_
    refine az_iloadn dX8_pair_10 rfl ?_
    refine az_icmpge (t := 23) dX8_pair_11 (by decide) (fun h11 => ?_) (fun h11 => ?_)
    · rw [if_neg (fun h => absurd h11 (Int32.not_le.mpr h.2))] at hQ
      refine az_iconst (v := -1) dX8_pair_23 (by decide) ?_
      refine az_iret dX8_pair_24 rfl ?_
      exact hQ
    · rw [if_pos ⟨Int32.not_lt.mp h6, Int32.not_le.mp h11⟩] at hQ
      obtain ⟨K, hK, rfl⟩ := zi_ex (by omega) ⟨Int32.not_lt.mp h6, Int32.not_le.mp h11⟩
      rw [nI_clamp (by omega), ← h1 K hK] at hQ
      refine az_aloadn dX8_pair_14 rfl ?_
      refine az_getr dX8_pair_15 flX8_32 sh_391 rfl ?_
      refine az_iloadn dX8_pair_18 rfl ?_
      refine az_iald (K) dX8_pair_19 sh_399 (by omega) (by decide) (by simp only [az_lit, nI_add, pk_mul, Nat.add_assoc]) ?_
      refine az_goto (t := 24) dX8_pair_20 (by decide) ?_
      refine az_iret dX8_pair_24 rfl ?_
      exact hQ
end ME
end
