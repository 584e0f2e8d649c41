section
-- ===== PART A: goes FIRST, ahead of the names: the tables' words, and 'selects' of the private methods out of them =====
/-- a private method of a class that the tables say can be made, by its rows of tables_1 -/
def lw_okq (q : MethodName × Nat) : Prop := (q.1.cls ≠ "java/lang/invoke/MethodHandle" ∧ q.1.cls ≠ "java/lang/invoke/VarHandle") ∧ Cond.instantiable q.1.cls q.2 ∈ tables_1 ∧ Cond.privateMethod q.1 ∈ tables_1 ∧ Cond.instanceMethod q.1 ∈ tables_1
theorem lw_p0 : lw_okq (⟨"WayMarks", "beforeAct", "()V"⟩, 9) := ⟨⟨by decide +kernel, by decide +kernel⟩, List.mem_of_getElem? (i := 15) (by decide +kernel), List.mem_of_getElem? (i := 283) (by decide +kernel), List.mem_of_getElem? (i := 284) (by decide +kernel)⟩
theorem lw_p1 : lw_okq (⟨"WayMarks$Past", "keep", "(LWayMarks$Net;)V"⟩, 3) := ⟨⟨by decide +kernel, by decide +kernel⟩, List.mem_of_getElem? (i := 91) (by decide +kernel), List.mem_of_getElem? (i := 287) (by decide +kernel), List.mem_of_getElem? (i := 288) (by decide +kernel)⟩
theorem lw_p2 : lw_okq (⟨"WayMarks$Net", "become", "(LWayMarks$Net;)V"⟩, 12) := ⟨⟨by decide +kernel, by decide +kernel⟩, List.mem_of_getElem? (i := 23) (by decide +kernel), List.mem_of_getElem? (i := 291) (by decide +kernel), List.mem_of_getElem? (i := 292) (by decide +kernel)⟩
theorem lw_p3 : lw_okq (⟨"WayMarks$Net", "roadCanBe", "(III)Z"⟩, 12) := ⟨⟨by decide +kernel, by decide +kernel⟩, List.mem_of_getElem? (i := 23) (by decide +kernel), List.mem_of_getElem? (i := 305) (by decide +kernel), List.mem_of_getElem? (i := 306) (by decide +kernel)⟩
theorem lw_p4 : lw_okq (⟨"WayMarks$Net", "isPost", "(I)Z"⟩, 12) := ⟨⟨by decide +kernel, by decide +kernel⟩, List.mem_of_getElem? (i := 23) (by decide +kernel), List.mem_of_getElem? (i := 309) (by decide +kernel), List.mem_of_getElem? (i := 310) (by decide +kernel)⟩
theorem lw_p5 : lw_okq (⟨"WayMarks$Net", "hasRoad", "(II)Z"⟩, 12) := ⟨⟨by decide +kernel, by decide +kernel⟩, List.mem_of_getElem? (i := 23) (by decide +kernel), List.mem_of_getElem? (i := 313) (by decide +kernel), List.mem_of_getElem? (i := 314) (by decide +kernel)⟩
theorem lw_p6 : lw_okq (⟨"WayMarks$Net", "layRoad", "(III)V"⟩, 12) := ⟨⟨by decide +kernel, by decide +kernel⟩, List.mem_of_getElem? (i := 23) (by decide +kernel), List.mem_of_getElem? (i := 317) (by decide +kernel), List.mem_of_getElem? (i := 318) (by decide +kernel)⟩
theorem lw_p7 : lw_okq (⟨"WayMarks$Tape", "hasRoomFor", "(I)Z"⟩, 2) := ⟨⟨by decide +kernel, by decide +kernel⟩, List.mem_of_getElem? (i := 111) (by decide +kernel), List.mem_of_getElem? (i := 331) (by decide +kernel), List.mem_of_getElem? (i := 332) (by decide +kernel)⟩
theorem lw_p8 : lw_okq (⟨"WayMarks$Tape", "takeFour", "(I)V"⟩, 2) := ⟨⟨by decide +kernel, by decide +kernel⟩, List.mem_of_getElem? (i := 111) (by decide +kernel), List.mem_of_getElem? (i := 335) (by decide +kernel), List.mem_of_getElem? (i := 336) (by decide +kernel)⟩
theorem lw_p9 : lw_okq (⟨"WayMarks$Tape", "byteAt", "(I)I"⟩, 2) := ⟨⟨by decide +kernel, by decide +kernel⟩, List.mem_of_getElem? (i := 111) (by decide +kernel), List.mem_of_getElem? (i := 343) (by decide +kernel), List.mem_of_getElem? (i := 344) (by decide +kernel)⟩
theorem lw_p10 : lw_okq (⟨"WayMarks$Net", "need", "()I"⟩, 12) := ⟨⟨by decide +kernel, by decide +kernel⟩, List.mem_of_getElem? (i := 23) (by decide +kernel), List.mem_of_getElem? (i := 367) (by decide +kernel), List.mem_of_getElem? (i := 368) (by decide +kernel)⟩
theorem lw_p11 : lw_okq (⟨"WayMarks", "freshSight", "()LWayMarks$Sight;"⟩, 9) := ⟨⟨by decide +kernel, by decide +kernel⟩, List.mem_of_getElem? (i := 15) (by decide +kernel), List.mem_of_getElem? (i := 379) (by decide +kernel), List.mem_of_getElem? (i := 380) (by decide +kernel)⟩
theorem lw_p12 : lw_okq (⟨"WayMarks$Sight", "look", "(LWayMarks$Net;)V"⟩, 8) := ⟨⟨by decide +kernel, by decide +kernel⟩, List.mem_of_getElem? (i := 125) (by decide +kernel), List.mem_of_getElem? (i := 383) (by decide +kernel), List.mem_of_getElem? (i := 384) (by decide +kernel)⟩
theorem lw_p13 : lw_okq (⟨"WayMarks$Net", "besideBits", "(I)I"⟩, 12) := ⟨⟨by decide +kernel, by decide +kernel⟩, List.mem_of_getElem? (i := 23) (by decide +kernel), List.mem_of_getElem? (i := 387) (by decide +kernel), List.mem_of_getElem? (i := 388) (by decide +kernel)⟩
theorem lw_p14 : lw_okq (⟨"WayMarks$Sight", "findWays", "(LWayMarks$Net;)V"⟩, 8) := ⟨⟨by decide +kernel, by decide +kernel⟩, List.mem_of_getElem? (i := 125) (by decide +kernel), List.mem_of_getElem? (i := 391) (by decide +kernel), List.mem_of_getElem? (i := 392) (by decide +kernel)⟩
theorem lw_p15 : lw_okq (⟨"WayMarks$Sight", "shortenWays", "(II)V"⟩, 8) := ⟨⟨by decide +kernel, by decide +kernel⟩, List.mem_of_getElem? (i := 125) (by decide +kernel), List.mem_of_getElem? (i := 397) (by decide +kernel), List.mem_of_getElem? (i := 398) (by decide +kernel)⟩
def lw_privs_1 : List (MethodName × Nat) := [(⟨"WayMarks", "beforeAct", "()V"⟩, 9), (⟨"WayMarks$Past", "keep", "(LWayMarks$Net;)V"⟩, 3), (⟨"WayMarks$Net", "become", "(LWayMarks$Net;)V"⟩, 12), (⟨"WayMarks$Net", "roadCanBe", "(III)Z"⟩, 12), (⟨"WayMarks$Net", "isPost", "(I)Z"⟩, 12), (⟨"WayMarks$Net", "hasRoad", "(II)Z"⟩, 12), (⟨"WayMarks$Net", "layRoad", "(III)V"⟩, 12), (⟨"WayMarks$Tape", "hasRoomFor", "(I)Z"⟩, 2), (⟨"WayMarks$Tape", "takeFour", "(I)V"⟩, 2), (⟨"WayMarks$Tape", "byteAt", "(I)I"⟩, 2), (⟨"WayMarks$Net", "need", "()I"⟩, 12), (⟨"WayMarks", "freshSight", "()LWayMarks$Sight;"⟩, 9), (⟨"WayMarks$Sight", "look", "(LWayMarks$Net;)V"⟩, 8), (⟨"WayMarks$Net", "besideBits", "(I)I"⟩, 12), (⟨"WayMarks$Sight", "findWays", "(LWayMarks$Net;)V"⟩, 8), (⟨"WayMarks$Sight", "shortenWays", "(II)V"⟩, 8)]
theorem lw_r1 : ∀ q ∈ lw_privs_1, lw_okq q := List.forall_mem_cons.mpr ⟨lw_p0, List.forall_mem_cons.mpr ⟨lw_p1, List.forall_mem_cons.mpr ⟨lw_p2, List.forall_mem_cons.mpr ⟨lw_p3, List.forall_mem_cons.mpr ⟨lw_p4, List.forall_mem_cons.mpr ⟨lw_p5, List.forall_mem_cons.mpr ⟨lw_p6, List.forall_mem_cons.mpr ⟨lw_p7, List.forall_mem_cons.mpr ⟨lw_p8, List.forall_mem_cons.mpr ⟨lw_p9, List.forall_mem_cons.mpr ⟨lw_p10, List.forall_mem_cons.mpr ⟨lw_p11, List.forall_mem_cons.mpr ⟨lw_p12, List.forall_mem_cons.mpr ⟨lw_p13, List.forall_mem_cons.mpr ⟨lw_p14, List.forall_mem_cons.mpr ⟨lw_p15, fun _ h => absurd h List.not_mem_nil⟩⟩⟩⟩⟩⟩⟩⟩⟩⟩⟩⟩⟩⟩⟩⟩
theorem lw_p16 : lw_okq (⟨"WayMarks$Sight", "answerOf", "(LWayMarks$Net;II)I"⟩, 8) := ⟨⟨by decide +kernel, by decide +kernel⟩, List.mem_of_getElem? (i := 125) (by decide +kernel), List.mem_of_getElem? (i := 401) (by decide +kernel), List.mem_of_getElem? (i := 402) (by decide +kernel)⟩
theorem lw_p17 : lw_okq (⟨"WayMarks$Sight", "groupPosts", "(I)V"⟩, 8) := ⟨⟨by decide +kernel, by decide +kernel⟩, List.mem_of_getElem? (i := 125) (by decide +kernel), List.mem_of_getElem? (i := 405) (by decide +kernel), List.mem_of_getElem? (i := 406) (by decide +kernel)⟩
theorem lw_p18 : lw_okq (⟨"WayMarks$Sight", "sameAnswer", "(II)I"⟩, 8) := ⟨⟨by decide +kernel, by decide +kernel⟩, List.mem_of_getElem? (i := 125) (by decide +kernel), List.mem_of_getElem? (i := 409) (by decide +kernel), List.mem_of_getElem? (i := 410) (by decide +kernel)⟩
theorem lw_p19 : lw_okq (⟨"WayMarks$Sight", "findParters", "()V"⟩, 8) := ⟨⟨by decide +kernel, by decide +kernel⟩, List.mem_of_getElem? (i := 125) (by decide +kernel), List.mem_of_getElem? (i := 413) (by decide +kernel), List.mem_of_getElem? (i := 414) (by decide +kernel)⟩
theorem lw_p20 : lw_okq (⟨"WayMarks$Sight", "findYes", "(I)V"⟩, 8) := ⟨⟨by decide +kernel, by decide +kernel⟩, List.mem_of_getElem? (i := 125) (by decide +kernel), List.mem_of_getElem? (i := 417) (by decide +kernel), List.mem_of_getElem? (i := 418) (by decide +kernel)⟩
theorem lw_p21 : lw_okq (⟨"WayMarks$Sight", "countReachedFrom", "(I)I"⟩, 8) := ⟨⟨by decide +kernel, by decide +kernel⟩, List.mem_of_getElem? (i := 125) (by decide +kernel), List.mem_of_getElem? (i := 432) (by decide +kernel), List.mem_of_getElem? (i := 433) (by decide +kernel)⟩
theorem lw_p22 : lw_okq (⟨"WayMarks$Net", "isSet", "(I)Z"⟩, 12) := ⟨⟨by decide +kernel, by decide +kernel⟩, List.mem_of_getElem? (i := 23) (by decide +kernel), List.mem_of_getElem? (i := 444) (by decide +kernel), List.mem_of_getElem? (i := 445) (by decide +kernel)⟩
theorem lw_p23 : lw_okq (⟨"WayMarks$Sight", "firstPairLacking", "(II)I"⟩, 8) := ⟨⟨by decide +kernel, by decide +kernel⟩, List.mem_of_getElem? (i := 125) (by decide +kernel), List.mem_of_getElem? (i := 456) (by decide +kernel), List.mem_of_getElem? (i := 457) (by decide +kernel)⟩
theorem lw_p24 : lw_okq (⟨"WayMarks$Sight", "pairLacks", "(IIII)Z"⟩, 8) := ⟨⟨by decide +kernel, by decide +kernel⟩, List.mem_of_getElem? (i := 125) (by decide +kernel), List.mem_of_getElem? (i := 460) (by decide +kernel), List.mem_of_getElem? (i := 461) (by decide +kernel)⟩
theorem lw_p25 : lw_okq (⟨"WayMarks$Sight", "firstPostLacking", "(II)I"⟩, 8) := ⟨⟨by decide +kernel, by decide +kernel⟩, List.mem_of_getElem? (i := 125) (by decide +kernel), List.mem_of_getElem? (i := 465) (by decide +kernel), List.mem_of_getElem? (i := 466) (by decide +kernel)⟩
theorem lw_p26 : lw_okq (⟨"WayMarks$Sight", "twinPair", "(I)I"⟩, 8) := ⟨⟨by decide +kernel, by decide +kernel⟩, List.mem_of_getElem? (i := 125) (by decide +kernel), List.mem_of_getElem? (i := 473) (by decide +kernel), List.mem_of_getElem? (i := 474) (by decide +kernel)⟩
theorem lw_p27 : lw_okq (⟨"WayMarks$Sight", "areTwins", "(II)Z"⟩, 8) := ⟨⟨by decide +kernel, by decide +kernel⟩, List.mem_of_getElem? (i := 125) (by decide +kernel), List.mem_of_getElem? (i := 477) (by decide +kernel), List.mem_of_getElem? (i := 478) (by decide +kernel)⟩
theorem lw_p28 : lw_okq (⟨"WayMarks$Choice", "search", "(LWayMarks$Net;LWayMarks$Sight;Z)V"⟩, 10) := ⟨⟨by decide +kernel, by decide +kernel⟩, List.mem_of_getElem? (i := 167) (by decide +kernel), List.mem_of_getElem? (i := 487) (by decide +kernel), List.mem_of_getElem? (i := 488) (by decide +kernel)⟩
theorem lw_p29 : lw_okq (⟨"WayMarks$Choice", "gatherDemands", "(LWayMarks$Net;LWayMarks$Sight;)V"⟩, 10) := ⟨⟨by decide +kernel, by decide +kernel⟩, List.mem_of_getElem? (i := 167) (by decide +kernel), List.mem_of_getElem? (i := 493) (by decide +kernel), List.mem_of_getElem? (i := 494) (by decide +kernel)⟩
theorem lw_p30 : lw_okq (⟨"WayMarks$Choice", "demand", "(I)V"⟩, 10) := ⟨⟨by decide +kernel, by decide +kernel⟩, List.mem_of_getElem? (i := 167) (by decide +kernel), List.mem_of_getElem? (i := 498) (by decide +kernel), List.mem_of_getElem? (i := 499) (by decide +kernel)⟩
theorem lw_p31 : lw_okq (⟨"WayMarks$Choice", "decide", "(IIII)V"⟩, 10) := ⟨⟨by decide +kernel, by decide +kernel⟩, List.mem_of_getElem? (i := 167) (by decide +kernel), List.mem_of_getElem? (i := 503) (by decide +kernel), List.mem_of_getElem? (i := 504) (by decide +kernel)⟩
def lw_privs_2 : List (MethodName × Nat) := [(⟨"WayMarks$Sight", "answerOf", "(LWayMarks$Net;II)I"⟩, 8), (⟨"WayMarks$Sight", "groupPosts", "(I)V"⟩, 8), (⟨"WayMarks$Sight", "sameAnswer", "(II)I"⟩, 8), (⟨"WayMarks$Sight", "findParters", "()V"⟩, 8), (⟨"WayMarks$Sight", "findYes", "(I)V"⟩, 8), (⟨"WayMarks$Sight", "countReachedFrom", "(I)I"⟩, 8), (⟨"WayMarks$Net", "isSet", "(I)Z"⟩, 12), (⟨"WayMarks$Sight", "firstPairLacking", "(II)I"⟩, 8), (⟨"WayMarks$Sight", "pairLacks", "(IIII)Z"⟩, 8), (⟨"WayMarks$Sight", "firstPostLacking", "(II)I"⟩, 8), (⟨"WayMarks$Sight", "twinPair", "(I)I"⟩, 8), (⟨"WayMarks$Sight", "areTwins", "(II)Z"⟩, 8), (⟨"WayMarks$Choice", "search", "(LWayMarks$Net;LWayMarks$Sight;Z)V"⟩, 10), (⟨"WayMarks$Choice", "gatherDemands", "(LWayMarks$Net;LWayMarks$Sight;)V"⟩, 10), (⟨"WayMarks$Choice", "demand", "(I)V"⟩, 10), (⟨"WayMarks$Choice", "decide", "(IIII)V"⟩, 10)]
theorem lw_r2 : ∀ q ∈ lw_privs_2, lw_okq q := List.forall_mem_cons.mpr ⟨lw_p16, List.forall_mem_cons.mpr ⟨lw_p17, List.forall_mem_cons.mpr ⟨lw_p18, List.forall_mem_cons.mpr ⟨lw_p19, List.forall_mem_cons.mpr ⟨lw_p20, List.forall_mem_cons.mpr ⟨lw_p21, List.forall_mem_cons.mpr ⟨lw_p22, List.forall_mem_cons.mpr ⟨lw_p23, List.forall_mem_cons.mpr ⟨lw_p24, List.forall_mem_cons.mpr ⟨lw_p25, List.forall_mem_cons.mpr ⟨lw_p26, List.forall_mem_cons.mpr ⟨lw_p27, List.forall_mem_cons.mpr ⟨lw_p28, List.forall_mem_cons.mpr ⟨lw_p29, List.forall_mem_cons.mpr ⟨lw_p30, List.forall_mem_cons.mpr ⟨lw_p31, fun _ h => absurd h List.not_mem_nil⟩⟩⟩⟩⟩⟩⟩⟩⟩⟩⟩⟩⟩⟩⟩⟩
theorem lw_p32 : lw_okq (⟨"WayMarks$Choice", "canBeMet", "(II)Z"⟩, 10) := ⟨⟨by decide +kernel, by decide +kernel⟩, List.mem_of_getElem? (i := 167) (by decide +kernel), List.mem_of_getElem? (i := 507) (by decide +kernel), List.mem_of_getElem? (i := 508) (by decide +kernel)⟩
theorem lw_p33 : lw_okq (⟨"WayMarks$Choice", "takeIfBest", "(II)V"⟩, 10) := ⟨⟨by decide +kernel, by decide +kernel⟩, List.mem_of_getElem? (i := 167) (by decide +kernel), List.mem_of_getElem? (i := 512) (by decide +kernel), List.mem_of_getElem? (i := 513) (by decide +kernel)⟩
theorem lw_p34 : lw_okq (⟨"WayMarks", "tellChoice", "()I"⟩, 9) := ⟨⟨by decide +kernel, by decide +kernel⟩, List.mem_of_getElem? (i := 15) (by decide +kernel), List.mem_of_getElem? (i := 520) (by decide +kernel), List.mem_of_getElem? (i := 521) (by decide +kernel)⟩
theorem lw_p35 : lw_okq (⟨"WayMarks$Sight", "countApartPairs", "()I"⟩, 8) := ⟨⟨by decide +kernel, by decide +kernel⟩, List.mem_of_getElem? (i := 125) (by decide +kernel), List.mem_of_getElem? (i := 540) (by decide +kernel), List.mem_of_getElem? (i := 541) (by decide +kernel)⟩
theorem lw_p36 : lw_okq (⟨"WayMarks$Sight", "goThroughApartPairs", "(IZ)I"⟩, 8) := ⟨⟨by decide +kernel, by decide +kernel⟩, List.mem_of_getElem? (i := 125) (by decide +kernel), List.mem_of_getElem? (i := 544) (by decide +kernel), List.mem_of_getElem? (i := 545) (by decide +kernel)⟩
theorem lw_p37 : lw_okq (⟨"WayMarks$Sight", "apartPair", "(I)I"⟩, 8) := ⟨⟨by decide +kernel, by decide +kernel⟩, List.mem_of_getElem? (i := 125) (by decide +kernel), List.mem_of_getElem? (i := 552) (by decide +kernel), List.mem_of_getElem? (i := 553) (by decide +kernel)⟩
theorem lw_p38 : lw_okq (⟨"WayMarks$Sight", "greedySet", "(I)I"⟩, 8) := ⟨⟨by decide +kernel, by decide +kernel⟩, List.mem_of_getElem? (i := 125) (by decide +kernel), List.mem_of_getElem? (i := 560) (by decide +kernel), List.mem_of_getElem? (i := 561) (by decide +kernel)⟩
theorem lw_p39 : lw_okq (⟨"WayMarks$Sight", "markPartingMost", "(II)I"⟩, 8) := ⟨⟨by decide +kernel, by decide +kernel⟩, List.mem_of_getElem? (i := 125) (by decide +kernel), List.mem_of_getElem? (i := 564) (by decide +kernel), List.mem_of_getElem? (i := 565) (by decide +kernel)⟩
theorem lw_p40 : lw_okq (⟨"WayMarks$Sight", "countLackingPartedBy", "(III)I"⟩, 8) := ⟨⟨by decide +kernel, by decide +kernel⟩, List.mem_of_getElem? (i := 125) (by decide +kernel), List.mem_of_getElem? (i := 568) (by decide +kernel), List.mem_of_getElem? (i := 569) (by decide +kernel)⟩
theorem lw_p41 : lw_okq (⟨"WayMarks$Sight", "countPairsLacking", "(II)I"⟩, 8) := ⟨⟨by decide +kernel, by decide +kernel⟩, List.mem_of_getElem? (i := 125) (by decide +kernel), List.mem_of_getElem? (i := 572) (by decide +kernel), List.mem_of_getElem? (i := 573) (by decide +kernel)⟩
theorem lw_p42 : lw_okq (⟨"WayMarks$Net", "hasWord", "(I)Z"⟩, 12) := ⟨⟨by decide +kernel, by decide +kernel⟩, List.mem_of_getElem? (i := 23) (by decide +kernel), List.mem_of_getElem? (i := 580) (by decide +kernel), List.mem_of_getElem? (i := 581) (by decide +kernel)⟩
theorem lw_p43 : lw_okq (⟨"WayMarks", "fitsWords", "(I)Z"⟩, 9) := ⟨⟨by decide +kernel, by decide +kernel⟩, List.mem_of_getElem? (i := 15) (by decide +kernel), List.mem_of_getElem? (i := 592) (by decide +kernel), List.mem_of_getElem? (i := 593) (by decide +kernel)⟩
theorem lw_p44 : lw_okq (⟨"WayMarks", "wordsAgainst", "(I)I"⟩, 9) := ⟨⟨by decide +kernel, by decide +kernel⟩, List.mem_of_getElem? (i := 15) (by decide +kernel), List.mem_of_getElem? (i := 596) (by decide +kernel), List.mem_of_getElem? (i := 597) (by decide +kernel)⟩
theorem lw_p45 : lw_okq (⟨"WayMarks", "canBeAsked", "(I)Z"⟩, 9) := ⟨⟨by decide +kernel, by decide +kernel⟩, List.mem_of_getElem? (i := 15) (by decide +kernel), List.mem_of_getElem? (i := 612) (by decide +kernel), List.mem_of_getElem? (i := 613) (by decide +kernel)⟩
theorem lw_p46 : lw_okq (⟨"WayMarks$Asking", "prepare", "(ILWayMarks$Net;LWayMarks$Sight;Z)V"⟩, 8) := ⟨⟨by decide +kernel, by decide +kernel⟩, List.mem_of_getElem? (i := 207) (by decide +kernel), List.mem_of_getElem? (i := 616) (by decide +kernel), List.mem_of_getElem? (i := 617) (by decide +kernel)⟩
theorem lw_p47 : lw_okq (⟨"WayMarks$Asking", "findPlaces", "(ILWayMarks$Net;LWayMarks$Sight;)V"⟩, 8) := ⟨⟨by decide +kernel, by decide +kernel⟩, List.mem_of_getElem? (i := 207) (by decide +kernel), List.mem_of_getElem? (i := 620) (by decide +kernel), List.mem_of_getElem? (i := 621) (by decide +kernel)⟩
def lw_privs_3 : List (MethodName × Nat) := [(⟨"WayMarks$Choice", "canBeMet", "(II)Z"⟩, 10), (⟨"WayMarks$Choice", "takeIfBest", "(II)V"⟩, 10), (⟨"WayMarks", "tellChoice", "()I"⟩, 9), (⟨"WayMarks$Sight", "countApartPairs", "()I"⟩, 8), (⟨"WayMarks$Sight", "goThroughApartPairs", "(IZ)I"⟩, 8), (⟨"WayMarks$Sight", "apartPair", "(I)I"⟩, 8), (⟨"WayMarks$Sight", "greedySet", "(I)I"⟩, 8), (⟨"WayMarks$Sight", "markPartingMost", "(II)I"⟩, 8), (⟨"WayMarks$Sight", "countLackingPartedBy", "(III)I"⟩, 8), (⟨"WayMarks$Sight", "countPairsLacking", "(II)I"⟩, 8), (⟨"WayMarks$Net", "hasWord", "(I)Z"⟩, 12), (⟨"WayMarks", "fitsWords", "(I)Z"⟩, 9), (⟨"WayMarks", "wordsAgainst", "(I)I"⟩, 9), (⟨"WayMarks", "canBeAsked", "(I)Z"⟩, 9), (⟨"WayMarks$Asking", "prepare", "(ILWayMarks$Net;LWayMarks$Sight;Z)V"⟩, 8), (⟨"WayMarks$Asking", "findPlaces", "(ILWayMarks$Net;LWayMarks$Sight;)V"⟩, 8)]
theorem lw_r3 : ∀ q ∈ lw_privs_3, lw_okq q := List.forall_mem_cons.mpr ⟨lw_p32, List.forall_mem_cons.mpr ⟨lw_p33, List.forall_mem_cons.mpr ⟨lw_p34, List.forall_mem_cons.mpr ⟨lw_p35, List.forall_mem_cons.mpr ⟨lw_p36, List.forall_mem_cons.mpr ⟨lw_p37, List.forall_mem_cons.mpr ⟨lw_p38, List.forall_mem_cons.mpr ⟨lw_p39, List.forall_mem_cons.mpr ⟨lw_p40, List.forall_mem_cons.mpr ⟨lw_p41, List.forall_mem_cons.mpr ⟨lw_p42, List.forall_mem_cons.mpr ⟨lw_p43, List.forall_mem_cons.mpr ⟨lw_p44, List.forall_mem_cons.mpr ⟨lw_p45, List.forall_mem_cons.mpr ⟨lw_p46, List.forall_mem_cons.mpr ⟨lw_p47, fun _ h => absurd h List.not_mem_nil⟩⟩⟩⟩⟩⟩⟩⟩⟩⟩⟩⟩⟩⟩⟩⟩
theorem lw_p48 : lw_okq (⟨"WayMarks$Asking", "placeOf", "(ILWayMarks$Sight;)I"⟩, 8) := ⟨⟨by decide +kernel, by decide +kernel⟩, List.mem_of_getElem? (i := 207) (by decide +kernel), List.mem_of_getElem? (i := 624) (by decide +kernel), List.mem_of_getElem? (i := 625) (by decide +kernel)⟩
theorem lw_p49 : lw_okq (⟨"WayMarks$Asking", "groupPlaces", "(ILWayMarks$Sight;)V"⟩, 8) := ⟨⟨by decide +kernel, by decide +kernel⟩, List.mem_of_getElem? (i := 207) (by decide +kernel), List.mem_of_getElem? (i := 629) (by decide +kernel), List.mem_of_getElem? (i := 630) (by decide +kernel)⟩
theorem lw_p50 : lw_okq (⟨"WayMarks$Asking", "leastCost", "()I"⟩, 8) := ⟨⟨by decide +kernel, by decide +kernel⟩, List.mem_of_getElem? (i := 207) (by decide +kernel), List.mem_of_getElem? (i := 633) (by decide +kernel), List.mem_of_getElem? (i := 634) (by decide +kernel)⟩
theorem lw_p51 : lw_okq (⟨"WayMarks$Asking", "costOf", "(II)I"⟩, 8) := ⟨⟨by decide +kernel, by decide +kernel⟩, List.mem_of_getElem? (i := 207) (by decide +kernel), List.mem_of_getElem? (i := 637) (by decide +kernel), List.mem_of_getElem? (i := 638) (by decide +kernel)⟩
theorem lw_p52 : lw_okq (⟨"WayMarks$Asking", "costOfAsking", "(III)I"⟩, 8) := ⟨⟨by decide +kernel, by decide +kernel⟩, List.mem_of_getElem? (i := 207) (by decide +kernel), List.mem_of_getElem? (i := 642) (by decide +kernel), List.mem_of_getElem? (i := 643) (by decide +kernel)⟩
theorem lw_p53 : lw_okq (⟨"WayMarks$Asking", "chanceOf", "(I)I"⟩, 8) := ⟨⟨by decide +kernel, by decide +kernel⟩, List.mem_of_getElem? (i := 207) (by decide +kernel), List.mem_of_getElem? (i := 647) (by decide +kernel), List.mem_of_getElem? (i := 648) (by decide +kernel)⟩
theorem lw_p54 : lw_okq (⟨"WayMarks$Asking", "firstMark", "()I"⟩, 8) := ⟨⟨by decide +kernel, by decide +kernel⟩, List.mem_of_getElem? (i := 207) (by decide +kernel), List.mem_of_getElem? (i := 656) (by decide +kernel), List.mem_of_getElem? (i := 657) (by decide +kernel)⟩
theorem lw_p55 : lw_okq (⟨"WayMarks$Seeking", "fewestRounds", "(ILWayMarks$Sight;)I"⟩, 2) := ⟨⟨by decide +kernel, by decide +kernel⟩, List.mem_of_getElem? (i := 238) (by decide +kernel), List.mem_of_getElem? (i := 668) (by decide +kernel), List.mem_of_getElem? (i := 669) (by decide +kernel)⟩
theorem lw_p56 : lw_okq (⟨"WayMarks$Seeking", "prepare", "(ILWayMarks$Sight;)V"⟩, 2) := ⟨⟨by decide +kernel, by decide +kernel⟩, List.mem_of_getElem? (i := 238) (by decide +kernel), List.mem_of_getElem? (i := 673) (by decide +kernel), List.mem_of_getElem? (i := 674) (by decide +kernel)⟩
theorem lw_p57 : lw_okq (⟨"WayMarks$Seeking", "findInRound", "(IILWayMarks$Sight;)Z"⟩, 2) := ⟨⟨by decide +kernel, by decide +kernel⟩, List.mem_of_getElem? (i := 238) (by decide +kernel), List.mem_of_getElem? (i := 678) (by decide +kernel), List.mem_of_getElem? (i := 679) (by decide +kernel)⟩
theorem lw_p58 : lw_okq (⟨"WayMarks$Seeking", "someMarkFinds", "(IILWayMarks$Sight;)Z"⟩, 2) := ⟨⟨by decide +kernel, by decide +kernel⟩, List.mem_of_getElem? (i := 238) (by decide +kernel), List.mem_of_getElem? (i := 682) (by decide +kernel), List.mem_of_getElem? (i := 683) (by decide +kernel)⟩
theorem lw_p59 : lw_okq (⟨"WayMarks$Seeking", "markFinds", "(IIILWayMarks$Sight;)Z"⟩, 2) := ⟨⟨by decide +kernel, by decide +kernel⟩, List.mem_of_getElem? (i := 238) (by decide +kernel), List.mem_of_getElem? (i := 686) (by decide +kernel), List.mem_of_getElem? (i := 687) (by decide +kernel)⟩
theorem lw_p60 : lw_okq (⟨"WayMarks$Net", "countRoads", "()I"⟩, 12) := ⟨⟨by decide +kernel, by decide +kernel⟩, List.mem_of_getElem? (i := 23) (by decide +kernel), List.mem_of_getElem? (i := 694) (by decide +kernel), List.mem_of_getElem? (i := 695) (by decide +kernel)⟩
theorem lw_p61 : lw_okq (⟨"WayMarks$Sight", "leavesLessKnots", "()I"⟩, 8) := ⟨⟨by decide +kernel, by decide +kernel⟩, List.mem_of_getElem? (i := 125) (by decide +kernel), List.mem_of_getElem? (i := 700) (by decide +kernel), List.mem_of_getElem? (i := 701) (by decide +kernel)⟩
theorem lw_p62 : lw_okq (⟨"WayMarks$Sight", "countBeside", "(I)I"⟩, 8) := ⟨⟨by decide +kernel, by decide +kernel⟩, List.mem_of_getElem? (i := 125) (by decide +kernel), List.mem_of_getElem? (i := 704) (by decide +kernel), List.mem_of_getElem? (i := 705) (by decide +kernel)⟩
theorem lw_p63 : lw_okq (⟨"WayMarks$Sight", "knotOfLeaf", "(I)I"⟩, 8) := ⟨⟨by decide +kernel, by decide +kernel⟩, List.mem_of_getElem? (i := 125) (by decide +kernel), List.mem_of_getElem? (i := 708) (by decide +kernel), List.mem_of_getElem? (i := 709) (by decide +kernel)⟩
def lw_privs_4 : List (MethodName × Nat) := [(⟨"WayMarks$Asking", "placeOf", "(ILWayMarks$Sight;)I"⟩, 8), (⟨"WayMarks$Asking", "groupPlaces", "(ILWayMarks$Sight;)V"⟩, 8), (⟨"WayMarks$Asking", "leastCost", "()I"⟩, 8), (⟨"WayMarks$Asking", "costOf", "(II)I"⟩, 8), (⟨"WayMarks$Asking", "costOfAsking", "(III)I"⟩, 8), (⟨"WayMarks$Asking", "chanceOf", "(I)I"⟩, 8), (⟨"WayMarks$Asking", "firstMark", "()I"⟩, 8), (⟨"WayMarks$Seeking", "fewestRounds", "(ILWayMarks$Sight;)I"⟩, 2), (⟨"WayMarks$Seeking", "prepare", "(ILWayMarks$Sight;)V"⟩, 2), (⟨"WayMarks$Seeking", "findInRound", "(IILWayMarks$Sight;)Z"⟩, 2), (⟨"WayMarks$Seeking", "someMarkFinds", "(IILWayMarks$Sight;)Z"⟩, 2), (⟨"WayMarks$Seeking", "markFinds", "(IIILWayMarks$Sight;)Z"⟩, 2), (⟨"WayMarks$Net", "countRoads", "()I"⟩, 12), (⟨"WayMarks$Sight", "leavesLessKnots", "()I"⟩, 8), (⟨"WayMarks$Sight", "countBeside", "(I)I"⟩, 8), (⟨"WayMarks$Sight", "knotOfLeaf", "(I)I"⟩, 8)]
theorem lw_r4 : ∀ q ∈ lw_privs_4, lw_okq q := List.forall_mem_cons.mpr ⟨lw_p48, List.forall_mem_cons.mpr ⟨lw_p49, List.forall_mem_cons.mpr ⟨lw_p50, List.forall_mem_cons.mpr ⟨lw_p51, List.forall_mem_cons.mpr ⟨lw_p52, List.forall_mem_cons.mpr ⟨lw_p53, List.forall_mem_cons.mpr ⟨lw_p54, List.forall_mem_cons.mpr ⟨lw_p55, List.forall_mem_cons.mpr ⟨lw_p56, List.forall_mem_cons.mpr ⟨lw_p57, List.forall_mem_cons.mpr ⟨lw_p58, List.forall_mem_cons.mpr ⟨lw_p59, List.forall_mem_cons.mpr ⟨lw_p60, List.forall_mem_cons.mpr ⟨lw_p61, List.forall_mem_cons.mpr ⟨lw_p62, List.forall_mem_cons.mpr ⟨lw_p63, fun _ h => absurd h List.not_mem_nil⟩⟩⟩⟩⟩⟩⟩⟩⟩⟩⟩⟩⟩⟩⟩⟩
theorem lw_p64 : lw_okq (⟨"WayMarks$Past", "goBack", "(LWayMarks$Net;I)V"⟩, 3) := ⟨⟨by decide +kernel, by decide +kernel⟩, List.mem_of_getElem? (i := 91) (by decide +kernel), List.mem_of_getElem? (i := 717) (by decide +kernel), List.mem_of_getElem? (i := 718) (by decide +kernel)⟩
theorem lw_p65 : lw_okq (⟨"WayMarksModel", "first", "(I)V"⟩, 16) := ⟨⟨by decide +kernel, by decide +kernel⟩, List.mem_of_getElem? (i := 728) (by decide +kernel), List.mem_of_getElem? (i := 736) (by decide +kernel), List.mem_of_getElem? (i := 737) (by decide +kernel)⟩
theorem lw_p66 : lw_okq (⟨"WayMarksModel", "walk", "()V"⟩, 16) := ⟨⟨by decide +kernel, by decide +kernel⟩, List.mem_of_getElem? (i := 728) (by decide +kernel), List.mem_of_getElem? (i := 740) (by decide +kernel), List.mem_of_getElem? (i := 741) (by decide +kernel)⟩
theorem lw_p67 : lw_okq (⟨"WayMarksModel", "length", "(II)I"⟩, 16) := ⟨⟨by decide +kernel, by decide +kernel⟩, List.mem_of_getElem? (i := 728) (by decide +kernel), List.mem_of_getElem? (i := 744) (by decide +kernel), List.mem_of_getElem? (i := 745) (by decide +kernel)⟩
theorem lw_p68 : lw_okq (⟨"WayMarksModel", "n", "()I"⟩, 16) := ⟨⟨by decide +kernel, by decide +kernel⟩, List.mem_of_getElem? (i := 728) (by decide +kernel), List.mem_of_getElem? (i := 749) (by decide +kernel), List.mem_of_getElem? (i := 750) (by decide +kernel)⟩
theorem lw_p69 : lw_okq (⟨"WayMarksModel", "says", "(II)I"⟩, 16) := ⟨⟨by decide +kernel, by decide +kernel⟩, List.mem_of_getElem? (i := 728) (by decide +kernel), List.mem_of_getElem? (i := 753) (by decide +kernel), List.mem_of_getElem? (i := 754) (by decide +kernel)⟩
theorem lw_p70 : lw_okq (⟨"WayMarksModel", "act", "()V"⟩, 16) := ⟨⟨by decide +kernel, by decide +kernel⟩, List.mem_of_getElem? (i := 728) (by decide +kernel), List.mem_of_getElem? (i := 814) (by decide +kernel), List.mem_of_getElem? (i := 815) (by decide +kernel)⟩
theorem lw_p71 : lw_okq (⟨"WayMarksModel", "isRoad", "(III)Z"⟩, 16) := ⟨⟨by decide +kernel, by decide +kernel⟩, List.mem_of_getElem? (i := 728) (by decide +kernel), List.mem_of_getElem? (i := 822) (by decide +kernel), List.mem_of_getElem? (i := 823) (by decide +kernel)⟩
theorem lw_p72 : lw_okq (⟨"WayMarksModel", "isPost", "(I)Z"⟩, 16) := ⟨⟨by decide +kernel, by decide +kernel⟩, List.mem_of_getElem? (i := 728) (by decide +kernel), List.mem_of_getElem? (i := 826) (by decide +kernel), List.mem_of_getElem? (i := 827) (by decide +kernel)⟩
theorem lw_p73 : lw_okq (⟨"WayMarksModel", "lay", "(III)V"⟩, 16) := ⟨⟨by decide +kernel, by decide +kernel⟩, List.mem_of_getElem? (i := 728) (by decide +kernel), List.mem_of_getElem? (i := 830) (by decide +kernel), List.mem_of_getElem? (i := 831) (by decide +kernel)⟩
theorem lw_p74 : lw_okq (⟨"WayMarksModel", "four", "(I)V"⟩, 16) := ⟨⟨by decide +kernel, by decide +kernel⟩, List.mem_of_getElem? (i := 728) (by decide +kernel), List.mem_of_getElem? (i := 842) (by decide +kernel), List.mem_of_getElem? (i := 843) (by decide +kernel)⟩
theorem lw_p75 : lw_okq (⟨"WayMarksModel", "need", "()I"⟩, 16) := ⟨⟨by decide +kernel, by decide +kernel⟩, List.mem_of_getElem? (i := 728) (by decide +kernel), List.mem_of_getElem? (i := 870) (by decide +kernel), List.mem_of_getElem? (i := 871) (by decide +kernel)⟩
theorem lw_p76 : lw_okq (⟨"WayMarksModel", "besideBits", "(I)I"⟩, 16) := ⟨⟨by decide +kernel, by decide +kernel⟩, List.mem_of_getElem? (i := 728) (by decide +kernel), List.mem_of_getElem? (i := 886) (by decide +kernel), List.mem_of_getElem? (i := 887) (by decide +kernel)⟩
theorem lw_p77 : lw_okq (⟨"WayMarksModel", "answerOf", "(II)I"⟩, 16) := ⟨⟨by decide +kernel, by decide +kernel⟩, List.mem_of_getElem? (i := 728) (by decide +kernel), List.mem_of_getElem? (i := 897) (by decide +kernel), List.mem_of_getElem? (i := 898) (by decide +kernel)⟩
theorem lw_p78 : lw_okq (⟨"WayMarksModel", "isSet", "(I)Z"⟩, 16) := ⟨⟨by decide +kernel, by decide +kernel⟩, List.mem_of_getElem? (i := 728) (by decide +kernel), List.mem_of_getElem? (i := 905) (by decide +kernel), List.mem_of_getElem? (i := 906) (by decide +kernel)⟩
theorem lw_p79 : lw_okq (⟨"WayMarksModel", "parting", "(II)I"⟩, 16) := ⟨⟨by decide +kernel, by decide +kernel⟩, List.mem_of_getElem? (i := 728) (by decide +kernel), List.mem_of_getElem? (i := 909) (by decide +kernel), List.mem_of_getElem? (i := 910) (by decide +kernel)⟩
def lw_privs_5 : List (MethodName × Nat) := [(⟨"WayMarks$Past", "goBack", "(LWayMarks$Net;I)V"⟩, 3), (⟨"WayMarksModel", "first", "(I)V"⟩, 16), (⟨"WayMarksModel", "walk", "()V"⟩, 16), (⟨"WayMarksModel", "length", "(II)I"⟩, 16), (⟨"WayMarksModel", "n", "()I"⟩, 16), (⟨"WayMarksModel", "says", "(II)I"⟩, 16), (⟨"WayMarksModel", "act", "()V"⟩, 16), (⟨"WayMarksModel", "isRoad", "(III)Z"⟩, 16), (⟨"WayMarksModel", "isPost", "(I)Z"⟩, 16), (⟨"WayMarksModel", "lay", "(III)V"⟩, 16), (⟨"WayMarksModel", "four", "(I)V"⟩, 16), (⟨"WayMarksModel", "need", "()I"⟩, 16), (⟨"WayMarksModel", "besideBits", "(I)I"⟩, 16), (⟨"WayMarksModel", "answerOf", "(II)I"⟩, 16), (⟨"WayMarksModel", "isSet", "(I)Z"⟩, 16), (⟨"WayMarksModel", "parting", "(II)I"⟩, 16)]
theorem lw_r5 : ∀ q ∈ lw_privs_5, lw_okq q := List.forall_mem_cons.mpr ⟨lw_p64, List.forall_mem_cons.mpr ⟨lw_p65, List.forall_mem_cons.mpr ⟨lw_p66, List.forall_mem_cons.mpr ⟨lw_p67, List.forall_mem_cons.mpr ⟨lw_p68, List.forall_mem_cons.mpr ⟨lw_p69, List.forall_mem_cons.mpr ⟨lw_p70, List.forall_mem_cons.mpr ⟨lw_p71, List.forall_mem_cons.mpr ⟨lw_p72, List.forall_mem_cons.mpr ⟨lw_p73, List.forall_mem_cons.mpr ⟨lw_p74, List.forall_mem_cons.mpr ⟨lw_p75, List.forall_mem_cons.mpr ⟨lw_p76, List.forall_mem_cons.mpr ⟨lw_p77, List.forall_mem_cons.mpr ⟨lw_p78, List.forall_mem_cons.mpr ⟨lw_p79, fun _ h => absurd h List.not_mem_nil⟩⟩⟩⟩⟩⟩⟩⟩⟩⟩⟩⟩⟩⟩⟩⟩
theorem lw_p80 : lw_okq (⟨"WayMarksModel", "isParting", "(III)Z"⟩, 16) := ⟨⟨by decide +kernel, by decide +kernel⟩, List.mem_of_getElem? (i := 728) (by decide +kernel), List.mem_of_getElem? (i := 913) (by decide +kernel), List.mem_of_getElem? (i := 914) (by decide +kernel)⟩
theorem lw_p81 : lw_okq (⟨"WayMarksModel", "gather", "()V"⟩, 16) := ⟨⟨by decide +kernel, by decide +kernel⟩, List.mem_of_getElem? (i := 728) (by decide +kernel), List.mem_of_getElem? (i := 921) (by decide +kernel), List.mem_of_getElem? (i := 922) (by decide +kernel)⟩
theorem lw_p82 : lw_okq (⟨"WayMarksModel", "yes", "(I)I"⟩, 16) := ⟨⟨by decide +kernel, by decide +kernel⟩, List.mem_of_getElem? (i := 728) (by decide +kernel), List.mem_of_getElem? (i := 925) (by decide +kernel), List.mem_of_getElem? (i := 926) (by decide +kernel)⟩
theorem lw_p83 : lw_okq (⟨"WayMarksModel", "isYes", "(II)Z"⟩, 16) := ⟨⟨by decide +kernel, by decide +kernel⟩, List.mem_of_getElem? (i := 728) (by decide +kernel), List.mem_of_getElem? (i := 929) (by decide +kernel), List.mem_of_getElem? (i := 930) (by decide +kernel)⟩
theorem lw_p84 : lw_okq (⟨"WayMarksModel", "clashOf", "(I)I"⟩, 16) := ⟨⟨by decide +kernel, by decide +kernel⟩, List.mem_of_getElem? (i := 728) (by decide +kernel), List.mem_of_getElem? (i := 933) (by decide +kernel), List.mem_of_getElem? (i := 934) (by decide +kernel)⟩
theorem lw_p85 : lw_okq (⟨"WayMarksModel", "areTwins", "(II)Z"⟩, 16) := ⟨⟨by decide +kernel, by decide +kernel⟩, List.mem_of_getElem? (i := 728) (by decide +kernel), List.mem_of_getElem? (i := 941) (by decide +kernel), List.mem_of_getElem? (i := 942) (by decide +kernel)⟩
theorem lw_p86 : lw_okq (⟨"WayMarksModel", "best", "(Z)I"⟩, 16) := ⟨⟨by decide +kernel, by decide +kernel⟩, List.mem_of_getElem? (i := 728) (by decide +kernel), List.mem_of_getElem? (i := 949) (by decide +kernel), List.mem_of_getElem? (i := 950) (by decide +kernel)⟩
theorem lw_p87 : lw_okq (⟨"WayMarksModel", "price", "(I)I"⟩, 16) := ⟨⟨by decide +kernel, by decide +kernel⟩, List.mem_of_getElem? (i := 728) (by decide +kernel), List.mem_of_getElem? (i := 953) (by decide +kernel), List.mem_of_getElem? (i := 954) (by decide +kernel)⟩
theorem lw_p88 : lw_okq (⟨"WayMarksModel", "show", "()I"⟩, 16) := ⟨⟨by decide +kernel, by decide +kernel⟩, List.mem_of_getElem? (i := 728) (by decide +kernel), List.mem_of_getElem? (i := 973) (by decide +kernel), List.mem_of_getElem? (i := 974) (by decide +kernel)⟩
theorem lw_p89 : lw_okq (⟨"WayMarksModel", "lacks", "(II)Z"⟩, 16) := ⟨⟨by decide +kernel, by decide +kernel⟩, List.mem_of_getElem? (i := 728) (by decide +kernel), List.mem_of_getElem? (i := 985) (by decide +kernel), List.mem_of_getElem? (i := 986) (by decide +kernel)⟩
theorem lw_p90 : lw_okq (⟨"WayMarksModel", "isFit", "(I)Z"⟩, 16) := ⟨⟨by decide +kernel, by decide +kernel⟩, List.mem_of_getElem? (i := 728) (by decide +kernel), List.mem_of_getElem? (i := 1001) (by decide +kernel), List.mem_of_getElem? (i := 1002) (by decide +kernel)⟩
theorem lw_p91 : lw_okq (⟨"WayMarksModel", "againstBits", "(I)I"⟩, 16) := ⟨⟨by decide +kernel, by decide +kernel⟩, List.mem_of_getElem? (i := 728) (by decide +kernel), List.mem_of_getElem? (i := 1005) (by decide +kernel), List.mem_of_getElem? (i := 1006) (by decide +kernel)⟩
theorem lw_p92 : lw_okq (⟨"WayMarksModel", "isAsked", "(I)Z"⟩, 16) := ⟨⟨by decide +kernel, by decide +kernel⟩, List.mem_of_getElem? (i := 728) (by decide +kernel), List.mem_of_getElem? (i := 1021) (by decide +kernel), List.mem_of_getElem? (i := 1022) (by decide +kernel)⟩
theorem lw_p93 : lw_okq (⟨"WayMarksModel", "fill", "(I)V"⟩, 16) := ⟨⟨by decide +kernel, by decide +kernel⟩, List.mem_of_getElem? (i := 728) (by decide +kernel), List.mem_of_getElem? (i := 1025) (by decide +kernel), List.mem_of_getElem? (i := 1026) (by decide +kernel)⟩
theorem lw_p94 : lw_okq (⟨"WayMarksModel", "fillOne", "(I)V"⟩, 16) := ⟨⟨by decide +kernel, by decide +kernel⟩, List.mem_of_getElem? (i := 728) (by decide +kernel), List.mem_of_getElem? (i := 1029) (by decide +kernel), List.mem_of_getElem? (i := 1030) (by decide +kernel)⟩
theorem lw_p95 : lw_okq (⟨"WayMarksModel", "isDone", "(I)Z"⟩, 16) := ⟨⟨by decide +kernel, by decide +kernel⟩, List.mem_of_getElem? (i := 728) (by decide +kernel), List.mem_of_getElem? (i := 1033) (by decide +kernel), List.mem_of_getElem? (i := 1034) (by decide +kernel)⟩
def lw_privs_6 : List (MethodName × Nat) := [(⟨"WayMarksModel", "isParting", "(III)Z"⟩, 16), (⟨"WayMarksModel", "gather", "()V"⟩, 16), (⟨"WayMarksModel", "yes", "(I)I"⟩, 16), (⟨"WayMarksModel", "isYes", "(II)Z"⟩, 16), (⟨"WayMarksModel", "clashOf", "(I)I"⟩, 16), (⟨"WayMarksModel", "areTwins", "(II)Z"⟩, 16), (⟨"WayMarksModel", "best", "(Z)I"⟩, 16), (⟨"WayMarksModel", "price", "(I)I"⟩, 16), (⟨"WayMarksModel", "show", "()I"⟩, 16), (⟨"WayMarksModel", "lacks", "(II)Z"⟩, 16), (⟨"WayMarksModel", "isFit", "(I)Z"⟩, 16), (⟨"WayMarksModel", "againstBits", "(I)I"⟩, 16), (⟨"WayMarksModel", "isAsked", "(I)Z"⟩, 16), (⟨"WayMarksModel", "fill", "(I)V"⟩, 16), (⟨"WayMarksModel", "fillOne", "(I)V"⟩, 16), (⟨"WayMarksModel", "isDone", "(I)Z"⟩, 16)]
theorem lw_r6 : ∀ q ∈ lw_privs_6, lw_okq q := List.forall_mem_cons.mpr ⟨lw_p80, List.forall_mem_cons.mpr ⟨lw_p81, List.forall_mem_cons.mpr ⟨lw_p82, List.forall_mem_cons.mpr ⟨lw_p83, List.forall_mem_cons.mpr ⟨lw_p84, List.forall_mem_cons.mpr ⟨lw_p85, List.forall_mem_cons.mpr ⟨lw_p86, List.forall_mem_cons.mpr ⟨lw_p87, List.forall_mem_cons.mpr ⟨lw_p88, List.forall_mem_cons.mpr ⟨lw_p89, List.forall_mem_cons.mpr ⟨lw_p90, List.forall_mem_cons.mpr ⟨lw_p91, List.forall_mem_cons.mpr ⟨lw_p92, List.forall_mem_cons.mpr ⟨lw_p93, List.forall_mem_cons.mpr ⟨lw_p94, List.forall_mem_cons.mpr ⟨lw_p95, fun _ h => absurd h List.not_mem_nil⟩⟩⟩⟩⟩⟩⟩⟩⟩⟩⟩⟩⟩⟩⟩⟩
theorem lw_p96 : lw_okq (⟨"WayMarksModel", "staying", "(III)I"⟩, 16) := ⟨⟨by decide +kernel, by decide +kernel⟩, List.mem_of_getElem? (i := 728) (by decide +kernel), List.mem_of_getElem? (i := 1038) (by decide +kernel), List.mem_of_getElem? (i := 1039) (by decide +kernel)⟩
theorem lw_p97 : lw_okq (⟨"WayMarksModel", "isFoundIn", "(II)Z"⟩, 16) := ⟨⟨by decide +kernel, by decide +kernel⟩, List.mem_of_getElem? (i := 728) (by decide +kernel), List.mem_of_getElem? (i := 1054) (by decide +kernel), List.mem_of_getElem? (i := 1055) (by decide +kernel)⟩
theorem lw_p98 : lw_okq (⟨"WayMarksModel", "moved", "(I)I"⟩, 16) := ⟨⟨by decide +kernel, by decide +kernel⟩, List.mem_of_getElem? (i := 728) (by decide +kernel), List.mem_of_getElem? (i := 1058) (by decide +kernel), List.mem_of_getElem? (i := 1059) (by decide +kernel)⟩
theorem lw_p99 : lw_okq (⟨"WayMarksModel", "isLed", "(I)Z"⟩, 16) := ⟨⟨by decide +kernel, by decide +kernel⟩, List.mem_of_getElem? (i := 728) (by decide +kernel), List.mem_of_getElem? (i := 1067) (by decide +kernel), List.mem_of_getElem? (i := 1068) (by decide +kernel)⟩
def lw_privs_7 : List (MethodName × Nat) := [(⟨"WayMarksModel", "staying", "(III)I"⟩, 16), (⟨"WayMarksModel", "isFoundIn", "(II)Z"⟩, 16), (⟨"WayMarksModel", "moved", "(I)I"⟩, 16), (⟨"WayMarksModel", "isLed", "(I)Z"⟩, 16)]
theorem lw_r7 : ∀ q ∈ lw_privs_7, lw_okq q := List.forall_mem_cons.mpr ⟨lw_p96, List.forall_mem_cons.mpr ⟨lw_p97, List.forall_mem_cons.mpr ⟨lw_p98, List.forall_mem_cons.mpr ⟨lw_p99, fun _ h => absurd h List.not_mem_nil⟩⟩⟩⟩
def lw_privs : List (MethodName × Nat) := lw_privs_1 ++ (lw_privs_2 ++ (lw_privs_3 ++ (lw_privs_4 ++ (lw_privs_5 ++ (lw_privs_6 ++ (lw_privs_7))))))
def lw_tbl : List Cond := k2_sels lw_privs ++ tables_1
theorem lw_privs_ok : ∀ q ∈ lw_privs, lw_okq q := by
  show ∀ q ∈ lw_privs_1 ++ (lw_privs_2 ++ (lw_privs_3 ++ (lw_privs_4 ++ (lw_privs_5 ++ (lw_privs_6 ++ (lw_privs_7)))))), lw_okq q
  exact List.forall_mem_append.mpr ⟨lw_r1, List.forall_mem_append.mpr ⟨lw_r2, List.forall_mem_append.mpr ⟨lw_r3, List.forall_mem_append.mpr ⟨lw_r4, List.forall_mem_append.mpr ⟨lw_r5, List.forall_mem_append.mpr ⟨lw_r6, lw_r7⟩⟩⟩⟩⟩⟩
end
section
def RX0 : String := "WayMarks$Asking"
def TX0 : u_T := fun k => match k with
  | 0 => ("WayMarks$Asking", "costs", "[I", true)
  | 1 => ("WayMarks$Asking", "heads", "[I", true)
  | 2 => ("WayMarks$Asking", "chances", "[I", true)
  | 3 => ("WayMarks$Asking", "places", "I", false)
  | 4 => ("WayMarks$Asking", "marks", "I", false)
  | 5 => ("WayMarks$Asking", "summing", "Z", false)
  | 6 => ("WayMarks$Asking", "groups", "[I", true)
  | _ => ("WayMarks$Asking", "groupCounts", "[I", true)
def tyX0 : Nat → FieldType := fun k => match k with
  | 0 => .array .int
  | 1 => .array .int
  | 2 => .array .int
  | 3 => .int
  | 4 => .int
  | 5 => .boolean
  | 6 => .array .int
  | _ => .array .int
abbrev wsX00 : List Cond := u_ws RX0 TX0 8
theorem nmX0 : ∀ a, a < 8 → ∀ b, b < 8 → a ≠ b → (TX0 a).2.1 ≠ (TX0 b).2.1 := by decide +kernel
theorem tyX0_ok : ∀ k, k < 8 → parseFieldDescriptor (TX0 k).2.2.1 = some (tyX0 k) := by decide +kernel
abbrev cX0_init : ByteArray := prog_2_method_1_code
def yX0_init : MethodName := ⟨RX0, "<init>", "()V"⟩
abbrev cX0_prepare : ByteArray := prog_2_method_2_code
def yX0_prepare : MethodName := ⟨RX0, "prepare", "(ILWayMarks$Net;LWayMarks$Sight;Z)V"⟩
abbrev cX0_findPlaces : ByteArray := prog_2_method_3_code
def yX0_findPlaces : MethodName := ⟨RX0, "findPlaces", "(ILWayMarks$Net;LWayMarks$Sight;)V"⟩
abbrev cX0_placeOf : ByteArray := prog_2_method_4_code
def yX0_placeOf : MethodName := ⟨RX0, "placeOf", "(ILWayMarks$Sight;)I"⟩
abbrev cX0_groupPlaces : ByteArray := prog_2_method_5_code
def yX0_groupPlaces : MethodName := ⟨RX0, "groupPlaces", "(ILWayMarks$Sight;)V"⟩
abbrev cX0_leastCost : ByteArray := prog_2_method_6_code
def yX0_leastCost : MethodName := ⟨RX0, "leastCost", "()I"⟩
abbrev cX0_firstMark : ByteArray := prog_2_method_7_code
def yX0_firstMark : MethodName := ⟨RX0, "firstMark", "()I"⟩
abbrev cX0_costOf : ByteArray := prog_2_method_8_code
def yX0_costOf : MethodName := ⟨RX0, "costOf", "(II)I"⟩
abbrev cX0_costOfAsking : ByteArray := prog_2_method_9_code
def yX0_costOfAsking : MethodName := ⟨RX0, "costOfAsking", "(III)I"⟩
abbrev cX0_chanceOf : ByteArray := prog_2_method_10_code
def yX0_chanceOf : MethodName := ⟨RX0, "chanceOf", "(I)I"⟩
def RX1 : String := "WayMarks$Choice"
def TX1 : u_T := fun k => match k with
  | 0 => ("WayMarks$Choice", "demands", "[I", true)
  | 1 => ("WayMarks$Choice", "demandCount", "I", false)
  | 2 => ("WayMarks$Choice", "need", "I", false)
  | 3 => ("WayMarks$Choice", "costs", "[I", true)
  | 4 => ("WayMarks$Choice", "leastCost", "I", false)
  | 5 => ("WayMarks$Choice", "tightest", "I", false)
  | 6 => ("WayMarks$Choice", "stillNeeded", "I", false)
  | 7 => ("WayMarks$Choice", "bestSum", "I", false)
  | 8 => ("WayMarks$Choice", "bestSet", "I", false)
  | _ => ("WayMarks$Choice", "bestCount", "I", false)
def tyX1 : Nat → FieldType := fun k => match k with
  | 0 => .array .int
  | 1 => .int
  | 2 => .int
  | 3 => .array .int
  | 4 => .int
  | 5 => .int
  | 6 => .int
  | 7 => .int
  | 8 => .int
  | _ => .int
abbrev wsX10 : List Cond := u_ws RX1 TX1 10
theorem nmX1 : ∀ a, a < 10 → ∀ b, b < 10 → a ≠ b → (TX1 a).2.1 ≠ (TX1 b).2.1 := by decide +kernel
theorem tyX1_ok : ∀ k, k < 10 → parseFieldDescriptor (TX1 k).2.2.1 = some (tyX1 k) := by decide +kernel
abbrev cX1_init : ByteArray := prog_3_method_1_code
def yX1_init : MethodName := ⟨RX1, "<init>", "()V"⟩
abbrev cX1_search : ByteArray := prog_3_method_2_code
def yX1_search : MethodName := ⟨RX1, "search", "(LWayMarks$Net;LWayMarks$Sight;Z)V"⟩
abbrev cX1_gatherDemands : ByteArray := prog_3_method_3_code
def yX1_gatherDemands : MethodName := ⟨RX1, "gatherDemands", "(LWayMarks$Net;LWayMarks$Sight;)V"⟩
abbrev cX1_demand : ByteArray := prog_3_method_4_code
def yX1_demand : MethodName := ⟨RX1, "demand", "(I)V"⟩
abbrev cX1_decide : ByteArray := prog_3_method_5_code
def yX1_decide : MethodName := ⟨RX1, "decide", "(IIII)V"⟩
abbrev cX1_canBeMet : ByteArray := prog_3_method_6_code
def yX1_canBeMet : MethodName := ⟨RX1, "canBeMet", "(II)Z"⟩
abbrev cX1_takeIfBest : ByteArray := prog_3_method_7_code
def yX1_takeIfBest : MethodName := ⟨RX1, "takeIfBest", "(II)V"⟩
def RX2 : String := "WayMarks$Net"
def TX2 : u_T := fun k => match k with
  | 0 => ("WayMarks$Net", "posts", "I", false)
  | 1 => ("WayMarks$Net", "kind", "I", false)
  | 2 => ("WayMarks$Net", "within", "I", false)
  | 3 => ("WayMarks$Net", "faults", "I", false)
  | 4 => ("WayMarks$Net", "lying", "Z", false)
  | 5 => ("WayMarks$Net", "yesWanted", "Z", false)
  | 6 => ("WayMarks$Net", "worded", "I", false)
  | 7 => ("WayMarks$Net", "lengths", "[I", true)
  | 8 => ("WayMarks$Net", "reaches", "[I", true)
  | 9 => ("WayMarks$Net", "prices", "[I", true)
  | 10 => ("WayMarks$Net", "chances", "[I", true)
  | _ => ("WayMarks$Net", "words", "[I", true)
def tyX2 : Nat → FieldType := fun k => match k with
  | 0 => .int
  | 1 => .int
  | 2 => .int
  | 3 => .int
  | 4 => .boolean
  | 5 => .boolean
  | 6 => .int
  | 7 => .array .int
  | 8 => .array .int
  | 9 => .array .int
  | 10 => .array .int
  | _ => .array .int
abbrev wsX20 : List Cond := u_ws RX2 TX2 12
theorem nmX2 : ∀ a, a < 12 → ∀ b, b < 12 → a ≠ b → (TX2 a).2.1 ≠ (TX2 b).2.1 := by decide +kernel
theorem tyX2_ok : ∀ k, k < 12 → parseFieldDescriptor (TX2 k).2.2.1 = some (tyX2 k) := by decide +kernel
abbrev cX2_init : ByteArray := prog_4_method_1_code
def yX2_init : MethodName := ⟨RX2, "<init>", "()V"⟩
abbrev cX2_become : ByteArray := prog_4_method_2_code
def yX2_become : MethodName := ⟨RX2, "become", "(LWayMarks$Net;)V"⟩
abbrev cX2_isPost : ByteArray := prog_4_method_3_code
def yX2_isPost : MethodName := ⟨RX2, "isPost", "(I)Z"⟩
abbrev cX2_isSet : ByteArray := prog_4_method_4_code
def yX2_isSet : MethodName := ⟨RX2, "isSet", "(I)Z"⟩
abbrev cX2_hasRoad : ByteArray := prog_4_method_5_code
def yX2_hasRoad : MethodName := ⟨RX2, "hasRoad", "(II)Z"⟩
abbrev cX2_hasWord : ByteArray := prog_4_method_6_code
def yX2_hasWord : MethodName := ⟨RX2, "hasWord", "(I)Z"⟩
abbrev cX2_roadCanBe : ByteArray := prog_4_method_7_code
def yX2_roadCanBe : MethodName := ⟨RX2, "roadCanBe", "(III)Z"⟩
abbrev cX2_layRoad : ByteArray := prog_4_method_8_code
def yX2_layRoad : MethodName := ⟨RX2, "layRoad", "(III)V"⟩
abbrev cX2_besideBits : ByteArray := prog_4_method_9_code
def yX2_besideBits : MethodName := ⟨RX2, "besideBits", "(I)I"⟩
abbrev cX2_countRoads : ByteArray := prog_4_method_10_code
def yX2_countRoads : MethodName := ⟨RX2, "countRoads", "()I"⟩
abbrev cX2_need : ByteArray := prog_4_method_11_code
def yX2_need : MethodName := ⟨RX2, "need", "()I"⟩
def RX3 : String := "WayMarks$Past"
def TX3 : u_T := fun k => match k with
  | 0 => ("WayMarks$Past", "kept", "[LWayMarks$Net;", true)
  | 1 => ("WayMarks$Past", "top", "I", false)
  | _ => ("WayMarks$Past", "count", "I", false)
def tyX3 : Nat → FieldType := fun k => match k with
  | 0 => .array (.object "WayMarks$Net")
  | 1 => .int
  | _ => .int
abbrev wsX30 : List Cond := u_ws RX3 TX3 3
theorem nmX3 : ∀ a, a < 3 → ∀ b, b < 3 → a ≠ b → (TX3 a).2.1 ≠ (TX3 b).2.1 := by decide +kernel
theorem tyX3_ok : ∀ k, k < 3 → parseFieldDescriptor (TX3 k).2.2.1 = some (tyX3 k) := by decide +kernel
abbrev cX3_init : ByteArray := prog_5_method_1_code
def yX3_init : MethodName := ⟨RX3, "<init>", "()V"⟩
abbrev cX3_keep : ByteArray := prog_5_method_2_code
def yX3_keep : MethodName := ⟨RX3, "keep", "(LWayMarks$Net;)V"⟩
abbrev cX3_goBack : ByteArray := prog_5_method_3_code
def yX3_goBack : MethodName := ⟨RX3, "goBack", "(LWayMarks$Net;I)V"⟩
def RX4 : String := "WayMarks$Seeking"
def TX4 : u_T := fun k => match k with
  | 0 => ("WayMarks$Seeking", "rounds", "[I", true)
  | _ => ("WayMarks$Seeking", "spreads", "[I", true)
def tyX4 : Nat → FieldType := fun k => match k with
  | 0 => .array .int
  | _ => .array .int
abbrev wsX40 : List Cond := u_ws RX4 TX4 2
theorem nmX4 : ∀ a, a < 2 → ∀ b, b < 2 → a ≠ b → (TX4 a).2.1 ≠ (TX4 b).2.1 := by decide +kernel
theorem tyX4_ok : ∀ k, k < 2 → parseFieldDescriptor (TX4 k).2.2.1 = some (tyX4 k) := by decide +kernel
abbrev cX4_init : ByteArray := prog_6_method_1_code
def yX4_init : MethodName := ⟨RX4, "<init>", "()V"⟩
abbrev cX4_fewestRounds : ByteArray := prog_6_method_2_code
def yX4_fewestRounds : MethodName := ⟨RX4, "fewestRounds", "(ILWayMarks$Sight;)I"⟩
abbrev cX4_prepare : ByteArray := prog_6_method_3_code
def yX4_prepare : MethodName := ⟨RX4, "prepare", "(ILWayMarks$Sight;)V"⟩
abbrev cX4_findInRound : ByteArray := prog_6_method_4_code
def yX4_findInRound : MethodName := ⟨RX4, "findInRound", "(IILWayMarks$Sight;)Z"⟩
abbrev cX4_someMarkFinds : ByteArray := prog_6_method_5_code
def yX4_someMarkFinds : MethodName := ⟨RX4, "someMarkFinds", "(IILWayMarks$Sight;)Z"⟩
abbrev cX4_markFinds : ByteArray := prog_6_method_6_code
def yX4_markFinds : MethodName := ⟨RX4, "markFinds", "(IIILWayMarks$Sight;)Z"⟩
def RX5 : String := "WayMarks$Sight"
def TX5 : u_T := fun k => match k with
  | 0 => ("WayMarks$Sight", "posts", "I", false)
  | 1 => ("WayMarks$Sight", "beside", "[I", true)
  | 2 => ("WayMarks$Sight", "ways", "[I", true)
  | 3 => ("WayMarks$Sight", "answers", "[I", true)
  | 4 => ("WayMarks$Sight", "parters", "[I", true)
  | 5 => ("WayMarks$Sight", "yes", "[I", true)
  | 6 => ("WayMarks$Sight", "groups", "[I", true)
  | _ => ("WayMarks$Sight", "groupCounts", "[I", true)
def tyX5 : Nat → FieldType := fun k => match k with
  | 0 => .int
  | 1 => .array .int
  | 2 => .array .int
  | 3 => .array .int
  | 4 => .array .int
  | 5 => .array .int
  | 6 => .array .int
  | _ => .array .int
abbrev wsX50 : List Cond := u_ws RX5 TX5 8
theorem nmX5 : ∀ a, a < 8 → ∀ b, b < 8 → a ≠ b → (TX5 a).2.1 ≠ (TX5 b).2.1 := by decide +kernel
theorem tyX5_ok : ∀ k, k < 8 → parseFieldDescriptor (TX5 k).2.2.1 = some (tyX5 k) := by decide +kernel
abbrev cX5_init : ByteArray := prog_7_method_1_code
def yX5_init : MethodName := ⟨RX5, "<init>", "()V"⟩
abbrev cX5_look : ByteArray := prog_7_method_2_code
def yX5_look : MethodName := ⟨RX5, "look", "(LWayMarks$Net;)V"⟩
abbrev cX5_findWays : ByteArray := prog_7_method_3_code
def yX5_findWays : MethodName := ⟨RX5, "findWays", "(LWayMarks$Net;)V"⟩
abbrev cX5_shortenWays : ByteArray := prog_7_method_4_code
def yX5_shortenWays : MethodName := ⟨RX5, "shortenWays", "(II)V"⟩
abbrev cX5_answerOf : ByteArray := prog_7_method_5_code
def yX5_answerOf : MethodName := ⟨RX5, "answerOf", "(LWayMarks$Net;II)I"⟩
abbrev cX5_groupPosts : ByteArray := prog_7_method_6_code
def yX5_groupPosts : MethodName := ⟨RX5, "groupPosts", "(I)V"⟩
abbrev cX5_sameAnswer : ByteArray := prog_7_method_7_code
def yX5_sameAnswer : MethodName := ⟨RX5, "sameAnswer", "(II)I"⟩
abbrev cX5_findParters : ByteArray := prog_7_method_8_code
def yX5_findParters : MethodName := ⟨RX5, "findParters", "()V"⟩
abbrev cX5_findYes : ByteArray := prog_7_method_9_code
def yX5_findYes : MethodName := ⟨RX5, "findYes", "(I)V"⟩
abbrev cX5_countBeside : ByteArray := prog_7_method_10_code
def yX5_countBeside : MethodName := ⟨RX5, "countBeside", "(I)I"⟩
abbrev cX5_countReachedFrom : ByteArray := prog_7_method_11_code
def yX5_countReachedFrom : MethodName := ⟨RX5, "countReachedFrom", "(I)I"⟩
abbrev cX5_leavesLessKnots : ByteArray := prog_7_method_12_code
def yX5_leavesLessKnots : MethodName := ⟨RX5, "leavesLessKnots", "()I"⟩
abbrev cX5_knotOfLeaf : ByteArray := prog_7_method_13_code
def yX5_knotOfLeaf : MethodName := ⟨RX5, "knotOfLeaf", "(I)I"⟩
abbrev cX5_areTwins : ByteArray := prog_7_method_14_code
def yX5_areTwins : MethodName := ⟨RX5, "areTwins", "(II)Z"⟩
abbrev cX5_twinPair : ByteArray := prog_7_method_15_code
def yX5_twinPair : MethodName := ⟨RX5, "twinPair", "(I)I"⟩
abbrev cX5_pairLacks : ByteArray := prog_7_method_16_code
def yX5_pairLacks : MethodName := ⟨RX5, "pairLacks", "(IIII)Z"⟩
abbrev cX5_firstPairLacking : ByteArray := prog_7_method_17_code
def yX5_firstPairLacking : MethodName := ⟨RX5, "firstPairLacking", "(II)I"⟩
abbrev cX5_countPairsLacking : ByteArray := prog_7_method_18_code
def yX5_countPairsLacking : MethodName := ⟨RX5, "countPairsLacking", "(II)I"⟩
abbrev cX5_firstPostLacking : ByteArray := prog_7_method_19_code
def yX5_firstPostLacking : MethodName := ⟨RX5, "firstPostLacking", "(II)I"⟩
abbrev cX5_countApartPairs : ByteArray := prog_7_method_20_code
def yX5_countApartPairs : MethodName := ⟨RX5, "countApartPairs", "()I"⟩
abbrev cX5_apartPair : ByteArray := prog_7_method_21_code
def yX5_apartPair : MethodName := ⟨RX5, "apartPair", "(I)I"⟩
abbrev cX5_goThroughApartPairs : ByteArray := prog_7_method_22_code
def yX5_goThroughApartPairs : MethodName := ⟨RX5, "goThroughApartPairs", "(IZ)I"⟩
abbrev cX5_greedySet : ByteArray := prog_7_method_23_code
def yX5_greedySet : MethodName := ⟨RX5, "greedySet", "(I)I"⟩
abbrev cX5_markPartingMost : ByteArray := prog_7_method_24_code
def yX5_markPartingMost : MethodName := ⟨RX5, "markPartingMost", "(II)I"⟩
abbrev cX5_countLackingPartedBy : ByteArray := prog_7_method_25_code
def yX5_countLackingPartedBy : MethodName := ⟨RX5, "countLackingPartedBy", "(III)I"⟩
def RX6 : String := "WayMarks$Tape"
def TX6 : u_T := fun k => match k with
  | 0 => ("WayMarks$Tape", "bytes", "[I", true)
  | _ => ("WayMarks$Tape", "count", "I", false)
def tyX6 : Nat → FieldType := fun k => match k with
  | 0 => .array .int
  | _ => .int
abbrev wsX60 : List Cond := u_ws RX6 TX6 2
theorem nmX6 : ∀ a, a < 2 → ∀ b, b < 2 → a ≠ b → (TX6 a).2.1 ≠ (TX6 b).2.1 := by decide +kernel
theorem tyX6_ok : ∀ k, k < 2 → parseFieldDescriptor (TX6 k).2.2.1 = some (tyX6 k) := by decide +kernel
abbrev cX6_init : ByteArray := prog_8_method_1_code
def yX6_init : MethodName := ⟨RX6, "<init>", "()V"⟩
abbrev cX6_hasRoomFor : ByteArray := prog_8_method_2_code
def yX6_hasRoomFor : MethodName := ⟨RX6, "hasRoomFor", "(I)Z"⟩
abbrev cX6_takeFour : ByteArray := prog_8_method_3_code
def yX6_takeFour : MethodName := ⟨RX6, "takeFour", "(I)V"⟩
abbrev cX6_byteAt : ByteArray := prog_8_method_4_code
def yX6_byteAt : MethodName := ⟨RX6, "byteAt", "(I)I"⟩
def RX7 : String := "WayMarks"
def TX7 : u_T := fun k => match k with
  | 0 => ("WayMarks", "net", "LWayMarks$Net;", true)
  | 1 => ("WayMarks", "past", "LWayMarks$Past;", true)
  | 2 => ("WayMarks", "tape", "LWayMarks$Tape;", true)
  | 3 => ("WayMarks", "sight", "LWayMarks$Sight;", true)
  | 4 => ("WayMarks", "choice", "LWayMarks$Choice;", true)
  | 5 => ("WayMarks", "asking", "LWayMarks$Asking;", true)
  | 6 => ("WayMarks", "seeking", "LWayMarks$Seeking;", true)
  | 7 => ("WayMarks", "stale", "Z", false)
  | _ => ("WayMarks", "latestSet", "I", false)
def tyX7 : Nat → FieldType := fun k => match k with
  | 0 => .object "WayMarks$Net"
  | 1 => .object "WayMarks$Past"
  | 2 => .object "WayMarks$Tape"
  | 3 => .object "WayMarks$Sight"
  | 4 => .object "WayMarks$Choice"
  | 5 => .object "WayMarks$Asking"
  | 6 => .object "WayMarks$Seeking"
  | 7 => .boolean
  | _ => .int
abbrev wsX70 : List Cond := u_ws RX7 TX7 9
theorem nmX7 : ∀ a, a < 9 → ∀ b, b < 9 → a ≠ b → (TX7 a).2.1 ≠ (TX7 b).2.1 := by decide +kernel
theorem tyX7_ok : ∀ k, k < 9 → parseFieldDescriptor (TX7 k).2.2.1 = some (tyX7 k) := by decide +kernel
abbrev cX7_init : ByteArray := prog_1_method_1_code
def yX7_init : MethodName := ⟨RX7, "<init>", "()V"⟩
abbrev cX7_post : ByteArray := prog_1_method_2_code
def yX7_post : MethodName := ⟨RX7, "post", "()I"⟩
abbrev cX7_road : ByteArray := prog_1_method_3_code
def yX7_road : MethodName := ⟨RX7, "road", "(III)Z"⟩
abbrev cX7_cut : ByteArray := prog_1_method_4_code
def yX7_cut : MethodName := ⟨RX7, "cut", "(II)Z"⟩
abbrev cX7_feed : ByteArray := prog_1_method_5_code
def yX7_feed : MethodName := ⟨RX7, "feed", "(IIIII)I"⟩
abbrev cX7_roads : ByteArray := prog_1_method_6_code
def yX7_roads : MethodName := ⟨RX7, "roads", "(I)I"⟩
abbrev cX7_reach : ByteArray := prog_1_method_7_code
def yX7_reach : MethodName := ⟨RX7, "reach", "(II)Z"⟩
abbrev cX7_price : ByteArray := prog_1_method_8_code
def yX7_price : MethodName := ⟨RX7, "price", "(II)Z"⟩
abbrev cX7_chance : ByteArray := prog_1_method_9_code
def yX7_chance : MethodName := ⟨RX7, "chance", "(II)Z"⟩
abbrev cX7_rule : ByteArray := prog_1_method_10_code
def yX7_rule : MethodName := ⟨RX7, "rule", "(II)Z"⟩
abbrev cX7_may : ByteArray := prog_1_method_11_code
def yX7_may : MethodName := ⟨RX7, "may", "(IZ)I"⟩
abbrev cX7_want : ByteArray := prog_1_method_12_code
def yX7_want : MethodName := ⟨RX7, "want", "(Z)V"⟩
abbrev cX7_way : ByteArray := prog_1_method_13_code
def yX7_way : MethodName := ⟨RX7, "way", "(II)I"⟩
abbrev cX7_of : ByteArray := prog_1_method_14_code
def yX7_of : MethodName := ⟨RX7, "of", "(II)I"⟩
abbrev cX7_answer : ByteArray := prog_1_method_15_code
def yX7_answer : MethodName := ⟨RX7, "answer", "(II)I"⟩
abbrev cX7_parts : ByteArray := prog_1_method_16_code
def yX7_parts : MethodName := ⟨RX7, "parts", "(III)I"⟩
abbrev cX7_clash : ByteArray := prog_1_method_17_code
def yX7_clash : MethodName := ⟨RX7, "clash", "(I)I"⟩
abbrev cX7_twins : ByteArray := prog_1_method_18_code
def yX7_twins : MethodName := ⟨RX7, "twins", "(I)I"⟩
abbrev cX7_least : ByteArray := prog_1_method_19_code
def yX7_least : MethodName := ⟨RX7, "least", "()I"⟩
abbrev cX7_every : ByteArray := prog_1_method_20_code
def yX7_every : MethodName := ⟨RX7, "every", "()I"⟩
abbrev cX7_cheapest : ByteArray := prog_1_method_21_code
def yX7_cheapest : MethodName := ⟨RX7, "cheapest", "()I"⟩
abbrev cX7_set : ByteArray := prog_1_method_22_code
def yX7_set : MethodName := ⟨RX7, "set", "()I"⟩
abbrev cX7_shown : ByteArray := prog_1_method_23_code
def yX7_shown : MethodName := ⟨RX7, "shown", "()I"⟩
abbrev cX7_pair : ByteArray := prog_1_method_24_code
def yX7_pair : MethodName := ⟨RX7, "pair", "(I)I"⟩
abbrev cX7_greedy : ByteArray := prog_1_method_25_code
def yX7_greedy : MethodName := ⟨RX7, "greedy", "()I"⟩
abbrev cX7_word : ByteArray := prog_1_method_26_code
def yX7_word : MethodName := ⟨RX7, "word", "(II)I"⟩
abbrev cX7_clear : ByteArray := prog_1_method_27_code
def yX7_clear : MethodName := ⟨RX7, "clear", "()I"⟩
abbrev cX7_fits : ByteArray := prog_1_method_28_code
def yX7_fits : MethodName := ⟨RX7, "fits", "()I"⟩
abbrev cX7_where : ByteArray := prog_1_method_29_code
def yX7_where : MethodName := ⟨RX7, "where", "(I)I"⟩
abbrev cX7_against : ByteArray := prog_1_method_30_code
def yX7_against : MethodName := ⟨RX7, "against", "(I)I"⟩
abbrev cX7_worst : ByteArray := prog_1_method_31_code
def yX7_worst : MethodName := ⟨RX7, "worst", "(I)I"⟩
abbrev cX7_next : ByteArray := prog_1_method_32_code
def yX7_next : MethodName := ⟨RX7, "next", "(I)I"⟩
abbrev cX7_mean : ByteArray := prog_1_method_33_code
def yX7_mean : MethodName := ⟨RX7, "mean", "(I)I"⟩
abbrev cX7_seek : ByteArray := prog_1_method_34_code
def yX7_seek : MethodName := ⟨RX7, "seek", "(I)I"⟩
abbrev cX7_tree : ByteArray := prog_1_method_35_code
def yX7_tree : MethodName := ⟨RX7, "tree", "()I"⟩
abbrev cX7_undo : ByteArray := prog_1_method_36_code
def yX7_undo : MethodName := ⟨RX7, "undo", "(I)I"⟩
abbrev cX7_about : ByteArray := prog_1_method_37_code
def yX7_about : MethodName := ⟨RX7, "about", "(I)I"⟩
abbrev cX7_beforeAct : ByteArray := prog_1_method_38_code
def yX7_beforeAct : MethodName := ⟨RX7, "beforeAct", "()V"⟩
abbrev cX7_freshSight : ByteArray := prog_1_method_39_code
def yX7_freshSight : MethodName := ⟨RX7, "freshSight", "()LWayMarks$Sight;"⟩
abbrev cX7_tellChoice : ByteArray := prog_1_method_40_code
def yX7_tellChoice : MethodName := ⟨RX7, "tellChoice", "()I"⟩
abbrev cX7_wordsAgainst : ByteArray := prog_1_method_41_code
def yX7_wordsAgainst : MethodName := ⟨RX7, "wordsAgainst", "(I)I"⟩
abbrev cX7_fitsWords : ByteArray := prog_1_method_42_code
def yX7_fitsWords : MethodName := ⟨RX7, "fitsWords", "(I)Z"⟩
abbrev cX7_canBeAsked : ByteArray := prog_1_method_43_code
def yX7_canBeAsked : MethodName := ⟨RX7, "canBeAsked", "(I)Z"⟩
def RX8 : String := "WayMarksModel"
def TX8 : u_T := fun k => match k with
  | 0 => ("WayMarksModel", "st", "[I", true)
  | 1 => ("WayMarksModel", "kept", "[I", true)
  | 2 => ("WayMarksModel", "undoable", "I", false)
  | 3 => ("WayMarksModel", "newest", "I", false)
  | 4 => ("WayMarksModel", "tape", "[I", true)
  | 5 => ("WayMarksModel", "taped", "I", false)
  | 6 => ("WayMarksModel", "setTold", "I", false)
  | 7 => ("WayMarksModel", "ways", "[I", true)
  | 8 => ("WayMarksModel", "answers", "[I", true)
  | 9 => ("WayMarksModel", "partBy", "[I", true)
  | 10 => ("WayMarksModel", "yesBy", "[I", true)
  | 11 => ("WayMarksModel", "shown", "[I", true)
  | 12 => ("WayMarksModel", "worst", "[I", true)
  | 13 => ("WayMarksModel", "mean", "[I", true)
  | 14 => ("WayMarksModel", "next", "[I", true)
  | _ => ("WayMarksModel", "roundsOf", "[I", true)
def tyX8 : Nat → FieldType := fun k => match k with
  | 0 => .array .int
  | 1 => .array .int
  | 2 => .int
  | 3 => .int
  | 4 => .array .int
  | 5 => .int
  | 6 => .int
  | 7 => .array .int
  | 8 => .array .int
  | 9 => .array .int
  | 10 => .array .int
  | 11 => .array .int
  | 12 => .array .int
  | 13 => .array .int
  | 14 => .array .int
  | _ => .array .int
abbrev wsX80 : List Cond := u_ws RX8 TX8 16
theorem nmX8 : ∀ a, a < 16 → ∀ b, b < 16 → a ≠ b → (TX8 a).2.1 ≠ (TX8 b).2.1 := by decide +kernel
theorem tyX8_ok : ∀ k, k < 16 → parseFieldDescriptor (TX8 k).2.2.1 = some (tyX8 k) := by decide +kernel
abbrev cX8_init : ByteArray := prog_10_method_1_code
def yX8_init : MethodName := ⟨RX8, "<init>", "()V"⟩
abbrev cX8_first : ByteArray := prog_10_method_2_code
def yX8_first : MethodName := ⟨RX8, "first", "(I)V"⟩
abbrev cX8_act : ByteArray := prog_10_method_3_code
def yX8_act : MethodName := ⟨RX8, "act", "()V"⟩
abbrev cX8_undo : ByteArray := prog_10_method_4_code
def yX8_undo : MethodName := ⟨RX8, "undo", "(I)I"⟩
abbrev cX8_n : ByteArray := prog_10_method_5_code
def yX8_n : MethodName := ⟨RX8, "n", "()I"⟩
abbrev cX8_isPost : ByteArray := prog_10_method_6_code
def yX8_isPost : MethodName := ⟨RX8, "isPost", "(I)Z"⟩
abbrev cX8_isSet : ByteArray := prog_10_method_7_code
def yX8_isSet : MethodName := ⟨RX8, "isSet", "(I)Z"⟩
abbrev cX8_length : ByteArray := prog_10_method_8_code
def yX8_length : MethodName := ⟨RX8, "length", "(II)I"⟩
abbrev cX8_isRoad : ByteArray := prog_10_method_9_code
def yX8_isRoad : MethodName := ⟨RX8, "isRoad", "(III)Z"⟩
abbrev cX8_lay : ByteArray := prog_10_method_10_code
def yX8_lay : MethodName := ⟨RX8, "lay", "(III)V"⟩
abbrev cX8_walk : ByteArray := prog_10_method_11_code
def yX8_walk : MethodName := ⟨RX8, "walk", "()V"⟩
abbrev cX8_says : ByteArray := prog_10_method_12_code
def yX8_says : MethodName := ⟨RX8, "says", "(II)I"⟩
abbrev cX8_answerOf : ByteArray := prog_10_method_13_code
def yX8_answerOf : MethodName := ⟨RX8, "answerOf", "(II)I"⟩
abbrev cX8_post : ByteArray := prog_10_method_14_code
def yX8_post : MethodName := ⟨RX8, "post", "()I"⟩
abbrev cX8_road : ByteArray := prog_10_method_15_code
def yX8_road : MethodName := ⟨RX8, "road", "(III)Z"⟩
abbrev cX8_cut : ByteArray := prog_10_method_16_code
def yX8_cut : MethodName := ⟨RX8, "cut", "(II)Z"⟩
abbrev cX8_feed : ByteArray := prog_10_method_17_code
def yX8_feed : MethodName := ⟨RX8, "feed", "(IIIII)I"⟩
abbrev cX8_four : ByteArray := prog_10_method_18_code
def yX8_four : MethodName := ⟨RX8, "four", "(I)V"⟩
abbrev cX8_roads : ByteArray := prog_10_method_19_code
def yX8_roads : MethodName := ⟨RX8, "roads", "(I)I"⟩
abbrev cX8_reach : ByteArray := prog_10_method_20_code
def yX8_reach : MethodName := ⟨RX8, "reach", "(II)Z"⟩
abbrev cX8_price : ByteArray := prog_10_method_21_code
def yX8_price : MethodName := ⟨RX8, "price", "(II)Z"⟩
abbrev cX8_chance : ByteArray := prog_10_method_22_code
def yX8_chance : MethodName := ⟨RX8, "chance", "(II)Z"⟩
abbrev cX8_rule : ByteArray := prog_10_method_23_code
def yX8_rule : MethodName := ⟨RX8, "rule", "(II)Z"⟩
abbrev cX8_need : ByteArray := prog_10_method_24_code
def yX8_need : MethodName := ⟨RX8, "need", "()I"⟩
abbrev cX8_may : ByteArray := prog_10_method_25_code
def yX8_may : MethodName := ⟨RX8, "may", "(IZ)I"⟩
abbrev cX8_want : ByteArray := prog_10_method_26_code
def yX8_want : MethodName := ⟨RX8, "want", "(Z)V"⟩
abbrev cX8_way : ByteArray := prog_10_method_27_code
def yX8_way : MethodName := ⟨RX8, "way", "(II)I"⟩
abbrev cX8_besideBits : ByteArray := prog_10_method_28_code
def yX8_besideBits : MethodName := ⟨RX8, "besideBits", "(I)I"⟩
abbrev cX8_many : ByteArray := prog_10_method_29_code
def yX8_many : MethodName := ⟨RX8, "many", "(I)I"⟩
abbrev cX8_of : ByteArray := prog_10_method_30_code
def yX8_of : MethodName := ⟨RX8, "of", "(II)I"⟩
abbrev cX8_answer : ByteArray := prog_10_method_31_code
def yX8_answer : MethodName := ⟨RX8, "answer", "(II)I"⟩
abbrev cX8_isParting : ByteArray := prog_10_method_32_code
def yX8_isParting : MethodName := ⟨RX8, "isParting", "(III)Z"⟩
abbrev cX8_parting : ByteArray := prog_10_method_33_code
def yX8_parting : MethodName := ⟨RX8, "parting", "(II)I"⟩
abbrev cX8_areTwins : ByteArray := prog_10_method_34_code
def yX8_areTwins : MethodName := ⟨RX8, "areTwins", "(II)Z"⟩
abbrev cX8_isYes : ByteArray := prog_10_method_35_code
def yX8_isYes : MethodName := ⟨RX8, "isYes", "(II)Z"⟩
abbrev cX8_yes : ByteArray := prog_10_method_36_code
def yX8_yes : MethodName := ⟨RX8, "yes", "(I)I"⟩
abbrev cX8_parts : ByteArray := prog_10_method_37_code
def yX8_parts : MethodName := ⟨RX8, "parts", "(III)I"⟩
abbrev cX8_gather : ByteArray := prog_10_method_38_code
def yX8_gather : MethodName := ⟨RX8, "gather", "()V"⟩
abbrev cX8_clashOf : ByteArray := prog_10_method_39_code
def yX8_clashOf : MethodName := ⟨RX8, "clashOf", "(I)I"⟩
abbrev cX8_clash : ByteArray := prog_10_method_40_code
def yX8_clash : MethodName := ⟨RX8, "clash", "(I)I"⟩
abbrev cX8_twins : ByteArray := prog_10_method_41_code
def yX8_twins : MethodName := ⟨RX8, "twins", "(I)I"⟩
abbrev cX8_best : ByteArray := prog_10_method_42_code
def yX8_best : MethodName := ⟨RX8, "best", "(Z)I"⟩
abbrev cX8_price_ : ByteArray := prog_10_method_43_code
def yX8_price_ : MethodName := ⟨RX8, "price", "(I)I"⟩
abbrev cX8_least : ByteArray := prog_10_method_44_code
def yX8_least : MethodName := ⟨RX8, "least", "()I"⟩
abbrev cX8_every : ByteArray := prog_10_method_45_code
def yX8_every : MethodName := ⟨RX8, "every", "()I"⟩
abbrev cX8_cheapest : ByteArray := prog_10_method_46_code
def yX8_cheapest : MethodName := ⟨RX8, "cheapest", "()I"⟩
abbrev cX8_set : ByteArray := prog_10_method_47_code
def yX8_set : MethodName := ⟨RX8, "set", "()I"⟩
abbrev cX8_show : ByteArray := prog_10_method_48_code
def yX8_show : MethodName := ⟨RX8, "show", "()I"⟩
abbrev cX8_shown : ByteArray := prog_10_method_49_code
def yX8_shown : MethodName := ⟨RX8, "shown", "()I"⟩
abbrev cX8_pair : ByteArray := prog_10_method_50_code
def yX8_pair : MethodName := ⟨RX8, "pair", "(I)I"⟩
abbrev cX8_lacks : ByteArray := prog_10_method_51_code
def yX8_lacks : MethodName := ⟨RX8, "lacks", "(II)Z"⟩
abbrev cX8_greedy : ByteArray := prog_10_method_52_code
def yX8_greedy : MethodName := ⟨RX8, "greedy", "()I"⟩
abbrev cX8_word : ByteArray := prog_10_method_53_code
def yX8_word : MethodName := ⟨RX8, "word", "(II)I"⟩
abbrev cX8_clear : ByteArray := prog_10_method_54_code
def yX8_clear : MethodName := ⟨RX8, "clear", "()I"⟩
abbrev cX8_againstBits : ByteArray := prog_10_method_55_code
def yX8_againstBits : MethodName := ⟨RX8, "againstBits", "(I)I"⟩
abbrev cX8_isFit : ByteArray := prog_10_method_56_code
def yX8_isFit : MethodName := ⟨RX8, "isFit", "(I)Z"⟩
abbrev cX8_fits : ByteArray := prog_10_method_57_code
def yX8_fits : MethodName := ⟨RX8, "fits", "()I"⟩
abbrev cX8_where : ByteArray := prog_10_method_58_code
def yX8_where : MethodName := ⟨RX8, "where", "(I)I"⟩
abbrev cX8_against : ByteArray := prog_10_method_59_code
def yX8_against : MethodName := ⟨RX8, "against", "(I)I"⟩
abbrev cX8_isDone : ByteArray := prog_10_method_60_code
def yX8_isDone : MethodName := ⟨RX8, "isDone", "(I)Z"⟩
abbrev cX8_staying : ByteArray := prog_10_method_61_code
def yX8_staying : MethodName := ⟨RX8, "staying", "(III)I"⟩
abbrev cX8_isAsked : ByteArray := prog_10_method_62_code
def yX8_isAsked : MethodName := ⟨RX8, "isAsked", "(I)Z"⟩
abbrev cX8_fill : ByteArray := prog_10_method_63_code
def yX8_fill : MethodName := ⟨RX8, "fill", "(I)V"⟩
abbrev cX8_fillOne : ByteArray := prog_10_method_64_code
def yX8_fillOne : MethodName := ⟨RX8, "fillOne", "(I)V"⟩
abbrev cX8_worst : ByteArray := prog_10_method_65_code
def yX8_worst : MethodName := ⟨RX8, "worst", "(I)I"⟩
abbrev cX8_next : ByteArray := prog_10_method_66_code
def yX8_next : MethodName := ⟨RX8, "next", "(I)I"⟩
abbrev cX8_mean : ByteArray := prog_10_method_67_code
def yX8_mean : MethodName := ⟨RX8, "mean", "(I)I"⟩
abbrev cX8_moved : ByteArray := prog_10_method_68_code
def yX8_moved : MethodName := ⟨RX8, "moved", "(I)I"⟩
abbrev cX8_seek : ByteArray := prog_10_method_69_code
def yX8_seek : MethodName := ⟨RX8, "seek", "(I)I"⟩
abbrev cX8_isFoundIn : ByteArray := prog_10_method_70_code
def yX8_isFoundIn : MethodName := ⟨RX8, "isFoundIn", "(II)Z"⟩
abbrev cX8_tree : ByteArray := prog_10_method_71_code
def yX8_tree : MethodName := ⟨RX8, "tree", "()I"⟩
abbrev cX8_isLed : ByteArray := prog_10_method_72_code
def yX8_isLed : MethodName := ⟨RX8, "isLed", "(I)Z"⟩
abbrev cX8_only : ByteArray := prog_10_method_73_code
def yX8_only : MethodName := ⟨RX8, "only", "(I)I"⟩
abbrev cX8_about : ByteArray := prog_10_method_74_code
def yX8_about : MethodName := ⟨RX8, "about", "(I)I"⟩
def RJ6 : String := "java/lang/Integer"
abbrev cJ6_numberOfTrailingZeros_0f7a4 : ByteArray := prog_11_method_48_code
def yJ6_numberOfTrailingZeros_0f7a4 : MethodName := ⟨RJ6, "numberOfTrailingZeros", "(I)I"⟩
abbrev cJ6_bitCount_0f7a4 : ByteArray := prog_11_method_49_code
def yJ6_bitCount_0f7a4 : MethodName := ⟨RJ6, "bitCount", "(I)I"⟩
def RJ9 : String := "java/lang/Math"
abbrev cJ9_floorMod_7cf53 : ByteArray := prog_12_method_50_code
def yJ9_floorMod_7cf53 : MethodName := ⟨RJ9, "floorMod", "(II)I"⟩
abbrev cJ9_max_7cf53 : ByteArray := prog_12_method_65_code
def yJ9_max_7cf53 : MethodName := ⟨RJ9, "max", "(II)I"⟩
abbrev cJ9_min_7cf53 : ByteArray := prog_12_method_69_code
def yJ9_min_7cf53 : MethodName := ⟨RJ9, "min", "(II)I"⟩
def RJ10 : String := "java/lang/System"
def RJ7 : String := "java/util/Arrays"
abbrev cJ7_fill_53178 : ByteArray := prog_14_method_103_code
def yJ7_fill_53178 : MethodName := ⟨RJ7, "fill", "([II)V"⟩
def RL : String := "WayMarksLaw"
abbrev cL_law : ByteArray := code
def yL_law : MethodName := ⟨RL, "law", "([I)Z"⟩
end
section
/-! THE ABSTRACT LAYER. The system's cells are az_K blocks with fixed shapes (az_sh); a memory gives each block its ints (an array's elements, an object's int fields); references never change behind the constructors. az_Ev: from pc, locals L, operand stack st and memory mem the method M comes to its end with Q of answer and memory. az_Sp: M's contract for these arguments and this memory. -/
abbrev az_V : Type := Int32 ⊕ Nat
abbrev az_M : Type := Nat → Nat → Int32
abbrev az_S : Type := Nat ⊕ ((Nat × List (Option Nat)) ⊕ List Nat)
abbrev az_X : Type := Launch × va_G × (ClassId × ClassId) × (Nat → Nat)
abbrev az_Me : Type := MethodName × ByteArray × Nat × Option FieldType
def az_cl : List vw_C := [(RX0, TX0, 8), (RX1, TX1, 10), (RX2, TX2, 12), (RX3, TX3, 3), (RX4, TX4, 2), (RX5, TX5, 8), (RX6, TX6, 2), (RX7, TX7, 9), (RX8, TX8, 16)]
def az_tb : List Cond := lw_tbl.filter goodWord
theorem az_in {w : Cond} (i : Nat) (h : lw_tbl[i]? = some w) (hg : goodWord w = true) : w ∈ az_tb := List.mem_filter.mpr ⟨List.mem_of_getElem? h, hg⟩
def az_isN (w : Cond) : Bool := match w with
  | .fieldLinkNest .. => true
  | .methodLinkNest .. => true
  | _ => false
def az_tn : List Cond := lw_tbl.filter az_isN
theorem az_inN {w : Cond} (i : Nat) (h : lw_tbl[i]? = some w) (hg : az_isN w = true) : w ∈ az_tn := List.mem_filter.mpr ⟨List.mem_of_getElem? h, hg⟩
/-- the links between nest mates hold (they stay while the tables get warm) -/
def az_nw (U : State) : Prop := ∀ w ∈ az_tn, va_Nw w U
theorem az_nw_warm {s U : State} (hW : s.WarmedH U.vm) (h : az_nw s) : az_nw U := by
  intro w hw
  have h1 := h w hw
  have h2 := (List.mem_filter.mp hw).2
  cases w <;> first | exact va_Nw.warmF hW h1 | exact va_Nw.warmM hW h1 | exact absurd h2 (by simp [az_isN])
theorem az_nw_same {s U : State} (hv : s.vm = U.vm) (h : az_nw s) : az_nw U := by
  intro w hw
  have h1 := h w hw
  have h2 := (List.mem_filter.mp hw).2
  cases w <;> first | exact va_Nw.same rfl hv h1 | exact absurd h2 (by simp [az_isN])
theorem az_nw_use {s : State} {args : Array Value} {w : Cond} (h : az_nw s) (hw : w ∈ az_tn) : w.before args s = true := by
  have h1 := h w hw
  have h2 := (List.mem_filter.mp hw).2
  cases w <;> first | exact va_Nw.use rfl h1 | exact absurd h2 (by simp [az_isN])
def az_K : Nat := 404
def az_net (b : Nat) : List (Option Nat) := [none, none, none, none, none, none, none, some (b + 1), some (b + 2), some (b + 3), some (b + 4), some (b + 5)]
def az_arr (j : Nat) : Nat := if j = 1 then 256 else 16
def az_past : List Nat := (List.range 60).map (fun i => 9 + 6 * i)
def az_t0 : List az_S := [.inr (.inl (7, [some 1, some 7, some 369, some 371, some 379, some 382, some 388, none, none])), .inr (.inl (2, az_net 1)), .inl 256, .inl 16, .inl 16, .inl 16, .inl 16, .inr (.inl (3, [some 8, none, none])), .inr (.inr az_past)]
def az_t1 : List az_S := [.inr (.inl (6, [some 370, none])), .inl 400, .inr (.inl (5, [none, some 372, some 373, some 374, some 375, some 376, some 377, some 378])), .inl 16, .inl 256, .inl 256, .inl 256, .inl 16, .inl 256, .inl 16, .inr (.inl (1, [some 380, none, none, some 381, none, none, none, none, none, none])), .inl 256, .inl 16, .inr (.inl (0, [some 383, some 384, some 385, none, none, none, some 386, some 387])), .inl 4096, .inl 12, .inl 12, .inl 256, .inl 16, .inr (.inl (4, [some 389, some 390])), .inl 1024, .inl 1024, .inr (.inl (8, [some 392, some 393, none, none, some 394, none, none, some 395, some 396, some 397, some 398, some 399, some 400, some 401, some 402, some 403])), .inl 600, .inl 36000, .inl 400, .inl 256, .inl 256, .inl 256, .inl 16, .inl 120, .inl 65536, .inl 65536, .inl 65536, .inl 1024]
def az_sh (k : Nat) : az_S :=
  if k < 9 then az_t0.getD k (.inl 0) else if k < 369 then (if (k - 9) % 6 = 0 then .inr (.inl (2, az_net k)) else .inl (az_arr ((k - 9) % 6))) else az_t1.getD (k - 369) (.inl 0)
def az_Ob (k ci : Nat) (fs : List (Option Nat)) : Prop := k < az_K ∧ az_sh k = .inr (.inl (ci, fs))
def az_Ar (k n : Nat) : Prop := k < az_K ∧ az_sh k = .inl n
def az_cv (X : az_X) (v : az_V) : Value := match v with
  | .inl x => .int x
  | .inr k => .ref (X.2.2.2 k)
def az_ft (o : Option Nat) (f : Nat → Int32) (j : Nat) : az_V := match o with
  | none => .inl (f j)
  | some b => .inr b
def az_fl (X : az_X) (fs : List (Option Nat)) (f : Nat → Int32) : List Value := (List.range fs.length).map (fun j => az_cv X (az_ft (fs.getD j none) f j))
def az_ce (X : az_X) (k : Nat) (f : Nat → Int32) : va_E := match az_sh k with
  | .inl n => .inl (X.2.2.1.1, n, .inl f)
  | .inr (.inl o) => .inr (o.1, az_fl X o.2 f)
  | .inr (.inr bs) => .inl (X.2.2.1.2, bs.length, .inr (.inr (.inr (.inr (fun i => (bs[i]?).map X.2.2.2)))))
def az_wl (X : az_X) (mem : az_M) : va_W := (List.range az_K).map (fun k => (X.2.2.2 k, az_ce X k (mem k)))
def az_st (mem : az_M) (k : Nat) (f : Nat → Int32) : az_M := fun a => if a = k then f else mem a
def az_w (mem : az_M) (k j : Nat) (v : Int32) : az_M := az_st mem k (upd (mem k) j v)
theorem az_wl_at {X : az_X} {mem : az_M} {k : Nat} (hk : k < az_K) : (az_wl X mem)[k]? = some (X.2.2.2 k, az_ce X k (mem k)) := by
  simp [az_wl, hk]
theorem az_wl_set {X : az_X} {mem : az_M} {k : Nat} {f : Nat → Int32} (hk : k < az_K) : (az_wl X mem).set k (X.2.2.2 k, az_ce X k f) = az_wl X (az_st mem k f) := by
  apply List.ext_getElem?
  intro i
  have hlen : (az_wl X mem).length = az_K := by simp [az_wl]
  by_cases h : i = k
  · subst h
    rw [List.getElem?_set_self (by rw [hlen]; exact hk), az_wl_at hk]
    simp [az_st]
  · rw [List.getElem?_set_ne (Ne.symm h)]
    by_cases hi : i < az_K
    · rw [az_wl_at hi, az_wl_at hi]; simp [az_st, h]
    · rw [List.getElem?_eq_none (by rw [hlen]; omega), List.getElem?_eq_none (by simp [az_wl]; omega)]
theorem az_w_eq (mem : az_M) (k j : Nat) (v : Int32) (a b : Nat) : az_w mem k j v a b = if a = k ∧ b = j then v else mem a b := by
  unfold az_w az_st upd
  by_cases h : a = k
  · subst h; by_cases h2 : b = j <;> simp [h2]
  · simp [h]
theorem az_st_eq (mem : az_M) (k : Nat) (f : Nat → Int32) (a : Nat) : az_st mem k f a = if a = k then f else mem a := rfl
theorem az_fl_at {X : az_X} {fs : List (Option Nat)} {f : Nat → Int32} {j : Nat} {o : Option Nat} (h : fs[j]? = some o) : (az_fl X fs f)[j]? = some (az_cv X (az_ft o f j)) := by
  obtain ⟨hl, he⟩ := List.getElem?_eq_some_iff.mp h
  simp [az_fl, hl, he]
theorem az_fl_set {X : az_X} {fs : List (Option Nat)} {f : Nat → Int32} {j : Nat} {v : Int32} (h : fs[j]? = some none) : (az_fl X fs f).set j (.int v) = az_fl X fs (upd f j v) := by
  have hl := (List.getElem?_eq_some_iff.mp h).1
  apply List.ext_getElem?
  intro i
  have hlen : (az_fl X fs f).length = fs.length := by simp [az_fl]
  by_cases hi : i = j
  · subst hi
    rw [List.getElem?_set_self (by rw [hlen]; exact hl), az_fl_at h]
    simp [az_ft, az_cv, upd]
  · rw [List.getElem?_set_ne (Ne.symm hi)]
    by_cases h2 : i < fs.length
    · have h3 : fs[i]? = some fs[i] := List.getElem?_eq_getElem h2
      rw [az_fl_at h3, az_fl_at h3]
      cases hc : fs[i] with
      | none => simp [az_ft, upd, hi]
      | some b => simp [az_ft]
    · rw [List.getElem?_eq_none (by rw [hlen]; omega), List.getElem?_eq_none (by simp [az_fl]; omega)]
theorem az_ce_ob {X : az_X} {k ci : Nat} {fs : List (Option Nat)} (h : az_Ob k ci fs) (f : Nat → Int32) : az_ce X k f = .inr (ci, az_fl X fs f) := by
  unfold az_ce; rw [h.2]
theorem az_ce_ar {X : az_X} {k n : Nat} (h : az_Ar k n) (f : Nat → Int32) : az_ce X k f = .inl (X.2.2.1.1, n, .inl f) := by
  unfold az_ce; rw [h.2]
def az_ty (X : az_X) : List (ClassId × FieldType) := [(X.2.2.1.1, .int), (X.2.2.1.2, .object "WayMarks$Net")]
def az_A (X : az_X) : Nat → Prop := fun q => ∃ k, k < az_K ∧ q = X.2.2.2 k
def az_Wd (X : az_X) (mem : az_M) (H : Heap) : Prop := va_P X.2.1 az_cl (az_wl X mem) H ∧ va_D (az_A X) (az_wl X mem)
def az_Q (X : az_X) (Q : Option az_V → az_M → Prop) : Array Value → State → Outcome → State → Prop := fun _ st oc t => (∃ (r : Option az_V) (mem : az_M), oc = .returned (r.map (az_cv X)) ∧ Q r mem ∧ az_Wd X mem t.heap ∧ va_K X.2.1 az_cl (az_ty X) t) ∧ va_F (az_A X) st t
def az_rm (d : Nat) : Room := { frames := d, cells := 0, slots := 0, locals := 64 * d }
def az_ws (M : az_Me) : List Cond := .code M.1 M.2.1 M.2.2.1 M.2.2.2 :: az_tb
def az_Sp (X : az_X) (d : Nat) (M : az_Me) (args : List az_V) (mem : az_M) (Q : Option az_V → az_M → Prop) : Prop := Met X.1 M.1 (az_ws M) (az_rm d) (va_Pc (args.map (az_cv X)) (fun U => az_Wd X mem U.heap ∧ va_K X.2.1 az_cl (az_ty X) U ∧ az_nw U)) (az_Q X Q) 0 0 (az_A X)
def az_LR (X : az_X) (ls : Array Slot) (n : Nat) (L : List (Option az_V)) : Prop := ls.size = n ∧ lv_wf ls ∧ ∀ (i : Nat) (v : az_V), L[i]? = some (some v) → ls[i]? = some (.val (az_cv X v))
def az_Ev (X : az_X) (d : Nat) (M : az_Me) (pc : Nat) (L : List (Option az_V)) (st : List az_V) (mem : az_M) (Q : Option az_V → az_M → Prop) : Prop :=
  ∀ (p : Program) (e : Env) (s : State) (m : MethodId) (args : Array Value) (below : List Frame) (meth : Method) (c : Code) (H : Heap) (locs : List Loc) (ls : Array Slot),
    p.tables.exec = Jvm.exec → c.code = M.2.1 → c.maxLocals = M.2.2.1 → s.vm.findClass M.1.cls = some m.cls → meth.sig.returnType = M.2.2.2 → meth.locks = false → (∀ w ∈ az_tb, w.before args s = true) → az_nw s → va_K X.2.1 az_cl (az_ty X) s → az_Wd X mem H → va_S (az_A X) s.heap H locs → az_LR X ls M.2.2.1 L →
    W p X.1 e (az_rm d) s m args below meth c H locs 0 0 (MQ below (az_Q X Q) args s 0 0 (az_A X)) (F0 m pc ls (st.map (az_cv X)))
def az_pr (X : az_X) (L : List (Option az_V)) : List (Nat × Value) := (List.range L.length).filterMap (fun i => (L.getD i none).map (fun v => (i, az_cv X v)))
theorem az_pr_mem {X : az_X} {L : List (Option az_V)} {q : Nat × Value} : q ∈ az_pr X L ↔ ∃ v, L[q.1]? = some (some v) ∧ q.2 = az_cv X v := by
  obtain ⟨i, w⟩ := q
  simp only [az_pr, List.mem_filterMap, List.mem_range, Option.map_eq_some_iff, List.getD_eq_getElem?_getD]
  constructor
  · rintro ⟨j, hj, v, hv, he⟩
    cases he
    refine ⟨v, ?_, rfl⟩
    rw [List.getElem?_eq_getElem hj] at hv ⊢
    simpa using hv
  · rintro ⟨v, hv, rfl⟩
    have hl := (List.getElem?_eq_some_iff.mp hv).1
    exact ⟨i, hl, v, by rw [hv]; rfl, rfl⟩
theorem az_LR_has {X : az_X} {ls : Array Slot} {n : Nat} {L : List (Option az_V)} (h : az_LR X ls n L) : lv_has ls n (az_pr X L) := by
  refine ⟨h.1, h.2.1, fun q hq => ?_⟩
  obtain ⟨v, h1, h2⟩ := az_pr_mem.mp hq
  rw [h2]
  exact h.2.2 _ _ h1
theorem az_cat (X : az_X) (v : az_V) : (az_cv X v).category = 1 := by cases v <;> rfl
theorem az_LR_set {X : az_X} {ls : Array Slot} {n i : Nat} {L : List (Option az_V)} {v : az_V} (h : lv_has ls n ((i, az_cv X v) :: (az_pr X L).filter (fun q => !(q.1 == i) && !(q.1 + 1 == i && q.2.category == 2)))) : az_LR X ls n (L.set i (some v)) := by
  refine ⟨h.1, h.2.1, fun j w hw => ?_⟩
  by_cases hj : j = i
  · subst hj
    have hl : j < L.length := by
      have := (List.getElem?_eq_some_iff.mp hw).1
      simpa using this
    rw [List.getElem?_set_self hl] at hw
    cases hw
    exact h.2.2 (j, az_cv X v) List.mem_cons_self
  · rw [List.getElem?_set_ne (Ne.symm hj)] at hw
    refine h.2.2 (j, az_cv X w) (List.mem_cons_of_mem _ (List.mem_filter.mpr ⟨az_pr_mem.mpr ⟨w, hw, rfl⟩, ?_⟩))
    simp [hj, az_cat]
abbrev az_ps (r : Option az_V) (rest : List az_V) : List az_V := match r with
  | none => rest
  | some v => v :: rest
section AZ1
variable {X : az_X} {d : Nat} {M : az_Me} {pc : Nat} {L : List (Option az_V)} {st : List az_V} {mem : az_M} {Q : Option az_V → az_M → Prop}
/-- another shape of the same state -/
theorem az_Ev.eq {pc2 : Nat} {L2 : List (Option az_V)} {st2 : List az_V} {mem2 : az_M} (h : az_Ev X d M pc2 L2 st2 mem2 Q) (h1 : pc2 = pc) (h2 : L2 = L) (h3 : st2 = st) (h4 : mem2 = mem) : az_Ev X d M pc L st mem Q := by
  subst h1; subst h2; subst h3; subst h4; exact h
theorem az_iload {i : Nat} {v : Int32} (hd : decode M.2.1 pc = .ok (.iload i, 2)) (hl : L[i]? = some (some (.inl v))) (k : az_Ev X d M (pc + 2) L (.inl v :: st) mem Q) : az_Ev X d M pc L st mem Q := by
  intro p e s m args below meth c H locs ls hx hb hml hown hr hlk hts hnw hK hW hS hL
  exact lv_iload hx hb hd (hL.2.2 _ _ hl) (k p e s m args below meth c H locs ls hx hb hml hown hr hlk hts hnw hK hW hS hL)
theorem az_iloadn {i : Fin 4} {v : Int32} (hd : decode M.2.1 pc = .ok (.iload_n i, 1)) (hl : L[i.val]? = some (some (.inl v))) (k : az_Ev X d M (pc + 1) L (.inl v :: st) mem Q) : az_Ev X d M pc L st mem Q := by
  intro p e s m args below meth c H locs ls hx hb hml hown hr hlk hts hnw hK hW hS hL
  exact lv_iload_n hx hb hd rfl (hL.2.2 _ _ hl) (k p e s m args below meth c H locs ls hx hb hml hown hr hlk hts hnw hK hW hS hL)
theorem az_aload {i : Nat} {b : Nat} (hd : decode M.2.1 pc = .ok (.aload i, 2)) (hl : L[i]? = some (some (.inr b))) (k : az_Ev X d M (pc + 2) L (.inr b :: st) mem Q) : az_Ev X d M pc L st mem Q := by
  intro p e s m args below meth c H locs ls hx hb hml hown hr hlk hts hnw hK hW hS hL
  exact lv_aload hx hb hd (hL.2.2 _ _ hl) (k p e s m args below meth c H locs ls hx hb hml hown hr hlk hts hnw hK hW hS hL)
theorem az_aloadn {i : Fin 4} {b : Nat} (hd : decode M.2.1 pc = .ok (.aload_n i, 1)) (hl : L[i.val]? = some (some (.inr b))) (k : az_Ev X d M (pc + 1) L (.inr b :: st) mem Q) : az_Ev X d M pc L st mem Q := by
  intro p e s m args below meth c H locs ls hx hb hml hown hr hlk hts hnw hK hW hS hL
  exact lv_aload_n hx hb hd rfl (hL.2.2 _ _ hl) (k p e s m args below meth c H locs ls hx hb hml hown hr hlk hts hnw hK hW hS hL)
theorem az_istore {i : Nat} {v : Int32} (hd : decode M.2.1 pc = .ok (.istore i, 2)) (hi : i < M.2.2.1) (k : az_Ev X d M (pc + 2) (L.set i (some (.inl v))) st mem Q) : az_Ev X d M pc L (.inl v :: st) mem Q := by
  intro p e s m args below meth c H locs ls hx hb hml hown hr hlk hts hnw hK hW hS hL
  exact lv_istore hx hb hd (az_LR_has hL) hi rfl (fun ls' h' => k p e s m args below meth c H locs ls' hx hb hml hown hr hlk hts hnw hK hW hS (az_LR_set (v := .inl v) h'))
theorem az_istoren {i : Fin 4} {v : Int32} (hd : decode M.2.1 pc = .ok (.istore_n i, 1)) (hi : i.val < M.2.2.1) (k : az_Ev X d M (pc + 1) (L.set i.val (some (.inl v))) st mem Q) : az_Ev X d M pc L (.inl v :: st) mem Q := by
  intro p e s m args below meth c H locs ls hx hb hml hown hr hlk hts hnw hK hW hS hL
  exact lv_istore_n hx hb hd rfl (az_LR_has hL) hi rfl (fun ls' h' => k p e s m args below meth c H locs ls' hx hb hml hown hr hlk hts hnw hK hW hS (az_LR_set (v := .inl v) h'))
theorem az_astore {i : Nat} {b : Nat} (hd : decode M.2.1 pc = .ok (.astore i, 2)) (hi : i < M.2.2.1) (k : az_Ev X d M (pc + 2) (L.set i (some (.inr b))) st mem Q) : az_Ev X d M pc L (.inr b :: st) mem Q := by
  intro p e s m args below meth c H locs ls hx hb hml hown hr hlk hts hnw hK hW hS hL
  exact lv_astore hx hb hd (az_LR_has hL) hi rfl (fun ls' h' => k p e s m args below meth c H locs ls' hx hb hml hown hr hlk hts hnw hK hW hS (az_LR_set (v := .inr b) h'))
theorem az_astoren {i : Fin 4} {b : Nat} (hd : decode M.2.1 pc = .ok (.astore_n i, 1)) (hi : i.val < M.2.2.1) (k : az_Ev X d M (pc + 1) (L.set i.val (some (.inr b))) st mem Q) : az_Ev X d M pc L (.inr b :: st) mem Q := by
  intro p e s m args below meth c H locs ls hx hb hml hown hr hlk hts hnw hK hW hS hL
  exact lv_astore_n hx hb hd rfl (az_LR_has hL) hi rfl (fun ls' h' => k p e s m args below meth c H locs ls' hx hb hml hown hr hlk hts hnw hK hW hS (az_LR_set (v := .inr b) h'))
theorem az_iinc {i : Nat} {n : Int} {v w : Int32} (hd : decode M.2.1 pc = .ok (.iinc i n, 3)) (hl : L[i]? = some (some (.inl v))) (hw : Int32.ofInt n = w) (hi : i < M.2.2.1) (k : az_Ev X d M (pc + 3) (L.set i (some (.inl (v + w)))) st mem Q) : az_Ev X d M pc L st mem Q := by
  intro p e s m args below meth c H locs ls hx hb hml hown hr hlk hts hnw hK hW hS hL
  obtain ⟨j, hj⟩ := List.getElem?_of_mem (az_pr_mem (X := X) (L := L) (q := (i, .int v)) |>.mpr ⟨.inl v, hl, rfl⟩)
  subst hw
  exact lv_iinc hx hb hd (az_LR_has hL) hj rfl hi rfl (fun ls' h' => k p e s m args below meth c H locs ls' hx hb hml hown hr hlk hts hnw hK hW hS (az_LR_set (v := .inl (v + Int32.ofInt n)) h'))
theorem az_iconst {n : Int} {v : Int32} (hd : decode M.2.1 pc = .ok (.iconst n, 1)) (hv : Int32.ofInt n = v) (k : az_Ev X d M (pc + 1) L (.inl v :: st) mem Q) : az_Ev X d M pc L st mem Q := by
  intro p e s m args below meth c H locs ls hx hb hml hown hr hlk hts hnw hK hW hS hL
  exact lv_iconst hx hb hd hv (k p e s m args below meth c H locs ls hx hb hml hown hr hlk hts hnw hK hW hS hL)
theorem az_bipush {n : Int} {v : Int32} (hd : decode M.2.1 pc = .ok (.bipush n, 2)) (hv : (Int8.ofInt n).toInt32 = v) (k : az_Ev X d M (pc + 2) L (.inl v :: st) mem Q) : az_Ev X d M pc L st mem Q := by
  intro p e s m args below meth c H locs ls hx hb hml hown hr hlk hts hnw hK hW hS hL
  exact lv_bipush hx hb hd hv (k p e s m args below meth c H locs ls hx hb hml hown hr hlk hts hnw hK hW hS hL)
theorem az_sipush {n : Int} {v : Int32} (hd : decode M.2.1 pc = .ok (.sipush n, 3)) (hv : (Int16.ofInt n).toInt32 = v) (k : az_Ev X d M (pc + 3) L (.inl v :: st) mem Q) : az_Ev X d M pc L st mem Q := by
  intro p e s m args below meth c H locs ls hx hb hml hown hr hlk hts hnw hK hW hS hL
  exact lv_sipush hx hb hd hv (k p e s m args below meth c H locs ls hx hb hml hown hr hlk hts hnw hK hW hS hL)
theorem az_ldc {n : Nat} {v : Int32} (hd : decode M.2.1 pc = .ok (.ldc n, 2)) (hc : Cond.constant M.1.cls n v ∈ az_tb) (k : az_Ev X d M (pc + 2) L (.inl v :: st) mem Q) : az_Ev X d M pc L st mem Q := by
  intro p e s m args below meth c H locs ls hx hb hml hown hr hlk hts hnw hK hW hS hL
  exact lv_ldc hx hb hown (hts _ hc) hd (k p e s m args below meth c H locs ls hx hb hml hown hr hlk hts hnw hK hW hS hL)
theorem az_ldcw {n : Nat} {v : Int32} (hd : decode M.2.1 pc = .ok (.ldc_w n, 3)) (hc : Cond.constant M.1.cls n v ∈ az_tb) (k : az_Ev X d M (pc + 3) L (.inl v :: st) mem Q) : az_Ev X d M pc L st mem Q := by
  intro p e s m args below meth c H locs ls hx hb hml hown hr hlk hts hnw hK hW hS hL
  exact lv_ldcw hx hb hown (hts _ hc) hd (k p e s m args below meth c H locs ls hx hb hml hown hr hlk hts hnw hK hW hS hL)
theorem az_iadd {x y : Int32} (hd : decode M.2.1 pc = .ok (.iadd, 1)) (k : az_Ev X d M (pc + 1) L (.inl (x + y) :: st) mem Q) : az_Ev X d M pc L (.inl y :: .inl x :: st) mem Q := by
  intro p e s m args below meth c H locs ls hx hb hml hown hr hlk hts hnw hK hW hS hL
  exact lv_iadd hx hb hd (k p e s m args below meth c H locs ls hx hb hml hown hr hlk hts hnw hK hW hS hL)
theorem az_isub {x y : Int32} (hd : decode M.2.1 pc = .ok (.isub, 1)) (k : az_Ev X d M (pc + 1) L (.inl (x - y) :: st) mem Q) : az_Ev X d M pc L (.inl y :: .inl x :: st) mem Q := by
  intro p e s m args below meth c H locs ls hx hb hml hown hr hlk hts hnw hK hW hS hL
  exact lv_isub hx hb hd (k p e s m args below meth c H locs ls hx hb hml hown hr hlk hts hnw hK hW hS hL)
theorem az_imul {x y : Int32} (hd : decode M.2.1 pc = .ok (.imul, 1)) (k : az_Ev X d M (pc + 1) L (.inl (x * y) :: st) mem Q) : az_Ev X d M pc L (.inl y :: .inl x :: st) mem Q := by
  intro p e s m args below meth c H locs ls hx hb hml hown hr hlk hts hnw hK hW hS hL
  exact lv_imul hx hb hd (k p e s m args below meth c H locs ls hx hb hml hown hr hlk hts hnw hK hW hS hL)
theorem az_iand {x y : Int32} (hd : decode M.2.1 pc = .ok (.iand, 1)) (k : az_Ev X d M (pc + 1) L (.inl (x &&& y) :: st) mem Q) : az_Ev X d M pc L (.inl y :: .inl x :: st) mem Q := by
  intro p e s m args below meth c H locs ls hx hb hml hown hr hlk hts hnw hK hW hS hL
  exact lv_iand hx hb hd (k p e s m args below meth c H locs ls hx hb hml hown hr hlk hts hnw hK hW hS hL)
theorem az_ior {x y : Int32} (hd : decode M.2.1 pc = .ok (.ior, 1)) (k : az_Ev X d M (pc + 1) L (.inl (x ||| y) :: st) mem Q) : az_Ev X d M pc L (.inl y :: .inl x :: st) mem Q := by
  intro p e s m args below meth c H locs ls hx hb hml hown hr hlk hts hnw hK hW hS hL
  exact lv_ior hx hb hd (k p e s m args below meth c H locs ls hx hb hml hown hr hlk hts hnw hK hW hS hL)
theorem az_ixor {x y : Int32} (hd : decode M.2.1 pc = .ok (.ixor, 1)) (k : az_Ev X d M (pc + 1) L (.inl (x ^^^ y) :: st) mem Q) : az_Ev X d M pc L (.inl y :: .inl x :: st) mem Q := by
  intro p e s m args below meth c H locs ls hx hb hml hown hr hlk hts hnw hK hW hS hL
  exact lv_ixor hx hb hd (k p e s m args below meth c H locs ls hx hb hml hown hr hlk hts hnw hK hW hS hL)
theorem az_ishl {x y : Int32} (hd : decode M.2.1 pc = .ok (.ishl, 1)) (k : az_Ev X d M (pc + 1) L (.inl (x <<< (y &&& 31)) :: st) mem Q) : az_Ev X d M pc L (.inl y :: .inl x :: st) mem Q := by
  intro p e s m args below meth c H locs ls hx hb hml hown hr hlk hts hnw hK hW hS hL
  exact lv_ishl hx hb hd (k p e s m args below meth c H locs ls hx hb hml hown hr hlk hts hnw hK hW hS hL)
theorem az_ishr {x y : Int32} (hd : decode M.2.1 pc = .ok (.ishr, 1)) (k : az_Ev X d M (pc + 1) L (.inl (x >>> (y &&& 31)) :: st) mem Q) : az_Ev X d M pc L (.inl y :: .inl x :: st) mem Q := by
  intro p e s m args below meth c H locs ls hx hb hml hown hr hlk hts hnw hK hW hS hL
  exact lv_ishr hx hb hd (k p e s m args below meth c H locs ls hx hb hml hown hr hlk hts hnw hK hW hS hL)
theorem az_idiv {x y : Int32} (hd : decode M.2.1 pc = .ok (.idiv, 1)) (hy : ¬ y = 0) (k : az_Ev X d M (pc + 1) L (.inl (x / y) :: st) mem Q) : az_Ev X d M pc L (.inl y :: .inl x :: st) mem Q := by
  intro p e s m args below meth c H locs ls hx hb hml hown hr hlk hts hnw hK hW hS hL
  exact lv_idiv hx hb hd hy (k p e s m args below meth c H locs ls hx hb hml hown hr hlk hts hnw hK hW hS hL)
theorem az_irem {x y : Int32} (hd : decode M.2.1 pc = .ok (.irem, 1)) (hy : ¬ y = 0) (k : az_Ev X d M (pc + 1) L (.inl (x - x / y * y) :: st) mem Q) : az_Ev X d M pc L (.inl y :: .inl x :: st) mem Q := by
  intro p e s m args below meth c H locs ls hx hb hml hown hr hlk hts hnw hK hW hS hL
  exact lv_irem hx hb hd hy (k p e s m args below meth c H locs ls hx hb hml hown hr hlk hts hnw hK hW hS hL)
theorem az_iushr {x y : Int32} (hd : decode M.2.1 pc = .ok (.iushr, 1)) (k : az_Ev X d M (pc + 1) L (.inl ((x.toUInt32 >>> (y.toUInt32 &&& Int32.toUInt32 31)).toInt32) :: st) mem Q) : az_Ev X d M pc L (.inl y :: .inl x :: st) mem Q := by
  intro p e s m args below meth c H locs ls hx hb hml hown hr hlk hts hnw hK hW hS hL
  exact lv_iushr hx hb hd rfl (k p e s m args below meth c H locs ls hx hb hml hown hr hlk hts hnw hK hW hS hL)
theorem az_dup {v : az_V} (hd : decode M.2.1 pc = .ok (.dup, 1)) (k : az_Ev X d M (pc + 1) L (v :: v :: st) mem Q) : az_Ev X d M pc L (v :: st) mem Q := by
  intro p e s m args below meth c H locs ls hx hb hml hown hr hlk hts hnw hK hW hS hL
  exact lv_dup hx hb hd (az_cat X v) (k p e s m args below meth c H locs ls hx hb hml hown hr hlk hts hnw hK hW hS hL)
theorem az_dup2 {v w : az_V} (hd : decode M.2.1 pc = .ok (.dup2, 1)) (k : az_Ev X d M (pc + 1) L (v :: w :: v :: w :: st) mem Q) : az_Ev X d M pc L (v :: w :: st) mem Q := by
  intro p e s m args below meth c H locs ls hx hb hml hown hr hlk hts hnw hK hW hS hL
  exact lv_dup2_11 hx hb hd (az_cat X v) (az_cat X w) (k p e s m args below meth c H locs ls hx hb hml hown hr hlk hts hnw hK hW hS hL)
theorem az_goto {off : Int} {t : Nat} (hd : decode M.2.1 pc = .ok (.goto off, 3)) (ht : (pc : Int) + off = (t : Int)) (k : az_Ev X d M t L st mem Q) : az_Ev X d M pc L st mem Q := by
  intro p e s m args below meth c H locs ls hx hb hml hown hr hlk hts hnw hK hW hS hL
  exact lv_goto hx hb hd ht (k p e s m args below meth c H locs ls hx hb hml hown hr hlk hts hnw hK hW hS hL)
theorem az_icmpeq {x y : Int32} {off : Int} {t : Nat} (hd : decode M.2.1 pc = .ok (.if_icmp .eq off, 3)) (ht : (pc : Int) + off = (t : Int)) (kt : x = y → az_Ev X d M t L st mem Q) (kf : ¬ x = y → az_Ev X d M (pc + 3) L st mem Q) : az_Ev X d M pc L (.inl y :: .inl x :: st) mem Q := by
  intro p e s m args below meth c H locs ls hx hb hml hown hr hlk hts hnw hK hW hS hL
  exact lv_icmp_eq hx hb hd ht (fun h => kt h p e s m args below meth c H locs ls hx hb hml hown hr hlk hts hnw hK hW hS hL) (fun h => kf h p e s m args below meth c H locs ls hx hb hml hown hr hlk hts hnw hK hW hS hL)
theorem az_icmpne {x y : Int32} {off : Int} {t : Nat} (hd : decode M.2.1 pc = .ok (.if_icmp .ne off, 3)) (ht : (pc : Int) + off = (t : Int)) (kt : ¬ x = y → az_Ev X d M t L st mem Q) (kf : x = y → az_Ev X d M (pc + 3) L st mem Q) : az_Ev X d M pc L (.inl y :: .inl x :: st) mem Q := by
  intro p e s m args below meth c H locs ls hx hb hml hown hr hlk hts hnw hK hW hS hL
  exact lv_icmp_ne hx hb hd ht (fun h => kt h p e s m args below meth c H locs ls hx hb hml hown hr hlk hts hnw hK hW hS hL) (fun h => kf h p e s m args below meth c H locs ls hx hb hml hown hr hlk hts hnw hK hW hS hL)
theorem az_icmplt {x y : Int32} {off : Int} {t : Nat} (hd : decode M.2.1 pc = .ok (.if_icmp .lt off, 3)) (ht : (pc : Int) + off = (t : Int)) (kt : x < y → az_Ev X d M t L st mem Q) (kf : ¬ x < y → az_Ev X d M (pc + 3) L st mem Q) : az_Ev X d M pc L (.inl y :: .inl x :: st) mem Q := by
  intro p e s m args below meth c H locs ls hx hb hml hown hr hlk hts hnw hK hW hS hL
  exact lv_icmp_lt hx hb hd ht (fun h => kt h p e s m args below meth c H locs ls hx hb hml hown hr hlk hts hnw hK hW hS hL) (fun h => kf h p e s m args below meth c H locs ls hx hb hml hown hr hlk hts hnw hK hW hS hL)
theorem az_icmpge {x y : Int32} {off : Int} {t : Nat} (hd : decode M.2.1 pc = .ok (.if_icmp .ge off, 3)) (ht : (pc : Int) + off = (t : Int)) (kt : y ≤ x → az_Ev X d M t L st mem Q) (kf : ¬ y ≤ x → az_Ev X d M (pc + 3) L st mem Q) : az_Ev X d M pc L (.inl y :: .inl x :: st) mem Q := by
  intro p e s m args below meth c H locs ls hx hb hml hown hr hlk hts hnw hK hW hS hL
  exact lv_icmp_ge hx hb hd ht (fun h => kt h p e s m args below meth c H locs ls hx hb hml hown hr hlk hts hnw hK hW hS hL) (fun h => kf h p e s m args below meth c H locs ls hx hb hml hown hr hlk hts hnw hK hW hS hL)
theorem az_icmpgt {x y : Int32} {off : Int} {t : Nat} (hd : decode M.2.1 pc = .ok (.if_icmp .gt off, 3)) (ht : (pc : Int) + off = (t : Int)) (kt : y < x → az_Ev X d M t L st mem Q) (kf : ¬ y < x → az_Ev X d M (pc + 3) L st mem Q) : az_Ev X d M pc L (.inl y :: .inl x :: st) mem Q := by
  intro p e s m args below meth c H locs ls hx hb hml hown hr hlk hts hnw hK hW hS hL
  exact lv_icmp_gt hx hb hd ht (fun h => kt h p e s m args below meth c H locs ls hx hb hml hown hr hlk hts hnw hK hW hS hL) (fun h => kf h p e s m args below meth c H locs ls hx hb hml hown hr hlk hts hnw hK hW hS hL)
theorem az_icmple {x y : Int32} {off : Int} {t : Nat} (hd : decode M.2.1 pc = .ok (.if_icmp .le off, 3)) (ht : (pc : Int) + off = (t : Int)) (kt : x ≤ y → az_Ev X d M t L st mem Q) (kf : ¬ x ≤ y → az_Ev X d M (pc + 3) L st mem Q) : az_Ev X d M pc L (.inl y :: .inl x :: st) mem Q := by
  intro p e s m args below meth c H locs ls hx hb hml hown hr hlk hts hnw hK hW hS hL
  exact lv_icmp_le hx hb hd ht (fun h => kt h p e s m args below meth c H locs ls hx hb hml hown hr hlk hts hnw hK hW hS hL) (fun h => kf h p e s m args below meth c H locs ls hx hb hml hown hr hlk hts hnw hK hW hS hL)
theorem az_ifeq {x : Int32} {off : Int} {t : Nat} (hd : decode M.2.1 pc = .ok (.ifCond .eq off, 3)) (ht : (pc : Int) + off = (t : Int)) (kt : x = 0 → az_Ev X d M t L st mem Q) (kf : ¬ x = 0 → az_Ev X d M (pc + 3) L st mem Q) : az_Ev X d M pc L (.inl x :: st) mem Q := by
  intro p e s m args below meth c H locs ls hx hb hml hown hr hlk hts hnw hK hW hS hL
  exact lv_if_eq hx hb hd ht (fun h => kt h p e s m args below meth c H locs ls hx hb hml hown hr hlk hts hnw hK hW hS hL) (fun h => kf h p e s m args below meth c H locs ls hx hb hml hown hr hlk hts hnw hK hW hS hL)
theorem az_ifne {x : Int32} {off : Int} {t : Nat} (hd : decode M.2.1 pc = .ok (.ifCond .ne off, 3)) (ht : (pc : Int) + off = (t : Int)) (kt : ¬ x = 0 → az_Ev X d M t L st mem Q) (kf : x = 0 → az_Ev X d M (pc + 3) L st mem Q) : az_Ev X d M pc L (.inl x :: st) mem Q := by
  intro p e s m args below meth c H locs ls hx hb hml hown hr hlk hts hnw hK hW hS hL
  exact lv_if_ne hx hb hd ht (fun h => kt h p e s m args below meth c H locs ls hx hb hml hown hr hlk hts hnw hK hW hS hL) (fun h => kf h p e s m args below meth c H locs ls hx hb hml hown hr hlk hts hnw hK hW hS hL)
theorem az_iflt {x : Int32} {off : Int} {t : Nat} (hd : decode M.2.1 pc = .ok (.ifCond .lt off, 3)) (ht : (pc : Int) + off = (t : Int)) (kt : x < 0 → az_Ev X d M t L st mem Q) (kf : ¬ x < 0 → az_Ev X d M (pc + 3) L st mem Q) : az_Ev X d M pc L (.inl x :: st) mem Q := by
  intro p e s m args below meth c H locs ls hx hb hml hown hr hlk hts hnw hK hW hS hL
  exact lv_if_lt hx hb hd ht (fun h => kt h p e s m args below meth c H locs ls hx hb hml hown hr hlk hts hnw hK hW hS hL) (fun h => kf h p e s m args below meth c H locs ls hx hb hml hown hr hlk hts hnw hK hW hS hL)
theorem az_ifge {x : Int32} {off : Int} {t : Nat} (hd : decode M.2.1 pc = .ok (.ifCond .ge off, 3)) (ht : (pc : Int) + off = (t : Int)) (kt : 0 ≤ x → az_Ev X d M t L st mem Q) (kf : ¬ 0 ≤ x → az_Ev X d M (pc + 3) L st mem Q) : az_Ev X d M pc L (.inl x :: st) mem Q := by
  intro p e s m args below meth c H locs ls hx hb hml hown hr hlk hts hnw hK hW hS hL
  exact lv_if_ge hx hb hd ht (fun h => kt h p e s m args below meth c H locs ls hx hb hml hown hr hlk hts hnw hK hW hS hL) (fun h => kf h p e s m args below meth c H locs ls hx hb hml hown hr hlk hts hnw hK hW hS hL)
theorem az_ifgt {x : Int32} {off : Int} {t : Nat} (hd : decode M.2.1 pc = .ok (.ifCond .gt off, 3)) (ht : (pc : Int) + off = (t : Int)) (kt : 0 < x → az_Ev X d M t L st mem Q) (kf : ¬ 0 < x → az_Ev X d M (pc + 3) L st mem Q) : az_Ev X d M pc L (.inl x :: st) mem Q := by
  intro p e s m args below meth c H locs ls hx hb hml hown hr hlk hts hnw hK hW hS hL
  exact lv_if_gt hx hb hd ht (fun h => kt h p e s m args below meth c H locs ls hx hb hml hown hr hlk hts hnw hK hW hS hL) (fun h => kf h p e s m args below meth c H locs ls hx hb hml hown hr hlk hts hnw hK hW hS hL)
theorem az_ifle {x : Int32} {off : Int} {t : Nat} (hd : decode M.2.1 pc = .ok (.ifCond .le off, 3)) (ht : (pc : Int) + off = (t : Int)) (kt : x ≤ 0 → az_Ev X d M t L st mem Q) (kf : ¬ x ≤ 0 → az_Ev X d M (pc + 3) L st mem Q) : az_Ev X d M pc L (.inl x :: st) mem Q := by
  intro p e s m args below meth c H locs ls hx hb hml hown hr hlk hts hnw hK hW hS hL
  exact lv_if_le hx hb hd ht (fun h => kt h p e s m args below meth c H locs ls hx hb hml hown hr hlk hts hnw hK hW hS hL) (fun h => kf h p e s m args below meth c H locs ls hx hb hml hown hr hlk hts hnw hK hW hS hL)
theorem az_tout {dflt lo hi : Int} {offs : Array Int} {len : Nat} {x : Int32} {t : Nat} (hd : decode M.2.1 pc = .ok (.tableswitch dflt lo hi offs, len)) (h : x.toInt < lo ∨ hi < x.toInt) (ht : (pc : Int) + dflt = (t : Int)) (k : az_Ev X d M t L st mem Q) : az_Ev X d M pc L (.inl x :: st) mem Q := by
  intro p e s m args below meth c H locs ls hx hb hml hown hr hlk hts hnw hK hW hS hL
  exact lv_tableOut hx hb hd h ht (k p e s m args below meth c H locs ls hx hb hml hown hr hlk hts hnw hK hW hS hL)
theorem az_tin {dflt lo hi : Int} {offs : Array Int} {len : Nat} {x : Int32} {off : Int} {t : Nat} (hd : decode M.2.1 pc = .ok (.tableswitch dflt lo hi offs, len)) (h1 : ¬ x.toInt < lo) (h2 : ¬ hi < x.toInt) (ho : offs[(x.toInt - lo).toNat]? = some off) (ht : (pc : Int) + off = (t : Int)) (k : az_Ev X d M t L st mem Q) : az_Ev X d M pc L (.inl x :: st) mem Q := by
  intro p e s m args below meth c H locs ls hx hb hml hown hr hlk hts hnw hK hW hS hL
  exact lv_tableIn hx hb hd h1 h2 ho ht (k p e s m args below meth c H locs ls hx hb hml hown hr hlk hts hnw hK hW hS hL)
/-- a field's link: from class own's entry idx to field j of class ci -/
def az_FL (own : String) (idx ci j : Nat) : Prop := ∃ (C : String) (T : u_T) (N : Nat), az_cl[ci]? = some (C, T, N) ∧ j < N ∧ (∀ w ∈ u_ws C T N, w ∈ az_tb) ∧ (T j).1 = C ∧ ((Cond.fieldLink own idx C (T j).2.1 (T j).2.2.1 ∈ az_tb) ∨ ∃ host, Cond.fieldLinkNest own idx C (T j).2.1 (T j).2.2.1 host ∈ az_tn)
theorem az_get {idx ci j k : Nat} {fs : List (Option Nat)} {o : Option Nat} (hd : decode M.2.1 pc = .ok (.getfield idx, 3)) (hf : az_FL M.1.cls idx ci j) (hob : az_Ob k ci fs) (ho : fs[j]? = some o) (kk : az_Ev X d M (pc + 3) L (az_ft o (mem k) j :: st) mem Q) : az_Ev X d M pc L (.inr k :: st) mem Q := by
  intro p e s m args below meth c H locs ls hx hb hml hown hr hlk hts hnw hK hW hS hL
  obtain ⟨C, T, N, hc, hj, hin, hC, hl⟩ := hf
  have he : (az_wl X mem)[k]? = some (X.2.2.2 k, .inr (ci, az_fl X fs (mem k))) := by rw [az_wl_at hob.1, az_ce_ob hob]
  rcases hl with hl | ⟨host, hl⟩
  · exact va_get (ref := C) hx hb hts hin hown hK hW.1 k he hc j hj (hts _ hl) (fun x h => by rw [hC] at h; exact h) (az_fl_at ho) hd (kk p e s m args below meth c H locs ls hx hb hml hown hr hlk hts hnw hK hW hS hL)
  · exact va_getN (ref := C) (host := host) hx hb hts hin hown hK hW.1 k he hc j hj (az_nw_use hnw hl) (fun x h => by rw [hC] at h; exact h) (az_fl_at ho) hd (kk p e s m args below meth c H locs ls hx hb hml hown hr hlk hts hnw hK hW hS hL)
theorem az_geti {idx ci j k : Nat} {fs : List (Option Nat)} (hd : decode M.2.1 pc = .ok (.getfield idx, 3)) (hf : az_FL M.1.cls idx ci j) (hob : az_Ob k ci fs) (ho : fs[j]? = some none) (kk : az_Ev X d M (pc + 3) L (.inl (mem k j) :: st) mem Q) : az_Ev X d M pc L (.inr k :: st) mem Q := az_get hd hf hob ho kk
theorem az_getr {idx ci j k b : Nat} {fs : List (Option Nat)} (hd : decode M.2.1 pc = .ok (.getfield idx, 3)) (hf : az_FL M.1.cls idx ci j) (hob : az_Ob k ci fs) (ho : fs[j]? = some (some b)) (kk : az_Ev X d M (pc + 3) L (.inr b :: st) mem Q) : az_Ev X d M pc L (.inr k :: st) mem Q := az_get hd hf hob ho kk
/-- such a link, of a field that isn't final, of int or boolean -/
def az_PL (own : String) (idx ci j : Nat) (ty : FieldType) : Prop := ∃ (C : String) (T : u_T) (N : Nat) (ty0 : Nat → FieldType), az_cl[ci]? = some (C, T, N) ∧ j < N ∧ (∀ w ∈ u_ws C T N, w ∈ az_tb) ∧ (T j).1 = C ∧ ((Cond.fieldLink own idx C (T j).2.1 (T j).2.2.1 ∈ az_tb) ∨ ∃ host, Cond.fieldLinkNest own idx C (T j).2.1 (T j).2.2.1 host ∈ az_tn) ∧
  (∀ k, k < N → parseFieldDescriptor (T k).2.2.1 = some (ty0 k)) ∧ (∀ a, a < N → ∀ b, b < N → a ≠ b → (T a).2.1 ≠ (T b).2.1) ∧ (T j).2.2.2 = false ∧ ty0 j = ty
theorem az_put {idx ci j k : Nat} {fs : List (Option Nat)} {v : Int32} {ty : FieldType} (hd : decode M.2.1 pc = .ok (.putfield idx, 3)) (hf : az_PL M.1.cls idx ci j ty) (hob : az_Ob k ci fs) (ho : fs[j]? = some none) (hn : narrow ty (.int v) = .int v) (hfit : fits ty (.int v) = true) (kk : az_Ev X d M (pc + 3) L st (az_w mem k j v) Q) : az_Ev X d M pc L (.inl v :: .inr k :: st) mem Q := by
  intro p e s m args below meth c H locs ls hx hb hml hown hr hlk hts hnw hK hW hS hL
  obtain ⟨C, T, N, ty0, hc, hj, hin, hC, hl, hty, hnm, hfin, htj⟩ := hf
  have he : (az_wl X mem)[k]? = some (X.2.2.2 k, .inr (ci, az_fl X fs (mem k))) := by rw [az_wl_at hob.1, az_ce_ob hob]
  have hlen : j < (az_fl X fs (mem k)).length := by
    have := (List.getElem?_eq_some_iff.mp ho).1
    simpa [az_fl] using this
  have hset : (az_wl X mem).set k (X.2.2.2 k, .inr (ci, (az_fl X fs (mem k)).set j (.int v))) = az_wl X (az_w mem k j v) := by
    rw [az_fl_set ho, ← az_ce_ob hob, az_wl_set hob.1]; rfl
  have go : ∀ (H1 : Heap) (locs1 : List Loc), va_P X.2.1 az_cl ((az_wl X mem).set k (X.2.2.2 k, .inr (ci, (az_fl X fs (mem k)).set j (.int v)))) H1 → va_D (az_A X) ((az_wl X mem).set k (X.2.2.2 k, .inr (ci, (az_fl X fs (mem k)).set j (.int v)))) → va_S (az_A X) s.heap H1 locs1 → W p X.1 e (az_rm d) s m args below meth c H1 locs1 0 0 (MQ below (az_Q X Q) args s 0 0 (az_A X)) (F0 m (pc + 3) ls (st.map (az_cv X))) := by
    intro H1 locs1 h1 h2 h3
    rw [hset] at h1 h2
    exact kk p e s m args below meth c H1 locs1 ls hx hb hml hown hr hlk hts hnw hK ⟨h1, h2⟩ h3 hL
  rcases hl with hl | ⟨host, hl⟩
  · exact va_put (ref := C) hx hb hts hin ty0 hty hnm hown hK hW.1 hW.2 hS k he hc j hj (hts _ hl) (fun x h => by rw [hC] at h; exact h) hfin (by rw [hty j hj, htj]) hn hfit hlen hd go
  · exact va_putN (ref := C) (host := host) hx hb hts hin ty0 hty hnm hown hK hW.1 hW.2 hS k he hc j hj (az_nw_use hnw hl) (fun x h => by rw [hC] at h; exact h) hfin (by rw [hty j hj, htj]) hn hfit hlen hd go
theorem az_puti {idx ci j k : Nat} {fs : List (Option Nat)} {v : Int32} (hd : decode M.2.1 pc = .ok (.putfield idx, 3)) (hf : az_PL M.1.cls idx ci j .int) (hob : az_Ob k ci fs) (ho : fs[j]? = some none) (kk : az_Ev X d M (pc + 3) L st (az_w mem k j v) Q) : az_Ev X d M pc L (.inl v :: .inr k :: st) mem Q := az_put hd hf hob ho rfl rfl kk
theorem az_putz {idx ci j k : Nat} {fs : List (Option Nat)} {v : Int32} (hd : decode M.2.1 pc = .ok (.putfield idx, 3)) (hf : az_PL M.1.cls idx ci j .boolean) (hob : az_Ob k ci fs) (ho : fs[j]? = some none) (hv : v = 0 ∨ v = 1) (kk : az_Ev X d M (pc + 3) L st (az_w mem k j v) Q) : az_Ev X d M pc L (.inl v :: .inr k :: st) mem Q :=
  az_put hd hf hob ho (by rcases hv with rfl | rfl <;> rfl) (by rcases hv with rfl | rfl <;> rfl) kk
theorem az_iald {k n : Nat} {x : Int32} (i : Nat) (hd : decode M.2.1 pc = .ok (.iaload, 1)) (ha : az_Ar k n) (hi : i < n) (hn : n < 2 ^ 31) (hx' : x = nI i) (kk : az_Ev X d M (pc + 1) L (.inl (mem k i) :: st) mem Q) : az_Ev X d M pc L (.inl x :: .inr k :: st) mem Q := by
  intro p e s m args below meth c H locs ls hx hb hml hown hr hlk hts hnw hK hW hS hL
  have he : (az_wl X mem)[k]? = some (X.2.2.2 k, .inl (X.2.2.1.1, n, .inl (mem k))) := by rw [az_wl_at ha.1, az_ce_ar ha]
  subst hx'
  have hc : (nI i).toNatClampNeg = i := nI_clamp (by omega)
  exact va_iald hx hb hK hW.1 k 0 he rfl (vp_in_nI hi hn) hd (by rw [hc]; exact kk p e s m args below meth c H locs ls hx hb hml hown hr hlk hts hnw hK hW hS hL)
theorem az_iast {k n : Nat} {x v : Int32} (i : Nat) (hd : decode M.2.1 pc = .ok (.iastore, 1)) (ha : az_Ar k n) (hi : i < n) (hn : n < 2 ^ 31) (hx' : x = nI i) (kk : az_Ev X d M (pc + 1) L st (az_w mem k i v) Q) : az_Ev X d M pc L (.inl v :: .inl x :: .inr k :: st) mem Q := by
  intro p e s m args below meth c H locs ls hx hb hml hown hr hlk hts hnw hK hW hS hL
  have he : (az_wl X mem)[k]? = some (X.2.2.2 k, .inl (X.2.2.1.1, n, .inl (mem k))) := by rw [az_wl_at ha.1, az_ce_ar ha]
  subst hx'
  have hc : (nI i).toNatClampNeg = i := nI_clamp (by omega)
  have hset : (az_wl X mem).set k (X.2.2.2 k, .inl (X.2.2.1.1, n, .inl (upd (mem k) (nI i).toNatClampNeg v))) = az_wl X (az_w mem k i v) := by
    rw [hc, ← az_ce_ar ha, az_wl_set ha.1]; rfl
  refine va_iast hx hb hK hW.1 hW.2 hS k 0 he rfl (vp_in_nI hi hn) hd (fun H1 locs1 h1 h2 h3 => ?_)
  rw [hset] at h1 h2
  exact kk p e s m args below meth c H1 locs1 ls hx hb hml hown hr hlk hts hnw hK ⟨h1, h2⟩ h3 hL
theorem az_aald {k b : Nat} {bs : List Nat} {x : Int32} (i : Nat) (hd : decode M.2.1 pc = .ok (.aaload, 1)) (ha : k < az_K ∧ az_sh k = .inr (.inr bs)) (hi : bs[i]? = some b) (hn : bs.length < 2 ^ 31) (hx' : x = nI i) (kk : az_Ev X d M (pc + 1) L (.inr b :: st) mem Q) : az_Ev X d M pc L (.inl x :: .inr k :: st) mem Q := by
  intro p e s m args below meth c H locs ls hx hb hml hown hr hlk hts hnw hK hW hS hL
  have he : (az_wl X mem)[k]? = some (X.2.2.2 k, .inl (X.2.2.1.2, bs.length, .inr (.inr (.inr (.inr (fun i => (bs[i]?).map X.2.2.2)))))) := by
    rw [az_wl_at ha.1]; unfold az_ce; rw [ha.2]
  subst hx'
  have hlt := (List.getElem?_eq_some_iff.mp hi).1
  have hc : (nI i).toNatClampNeg = i := nI_clamp (by omega)
  refine va_aldq hx hb hK hW.1 k 1 he rfl (vp_in_nI hlt hn) hd ?_
  rw [hc, hi]
  exact kk p e s m args below meth c H locs ls hx hb hml hown hr hlk hts hnw hK hW hS hL
theorem az_alen {k n : Nat} (hd : decode M.2.1 pc = .ok (.arraylength, 1)) (ha : az_Ar k n) (kk : az_Ev X d M (pc + 1) L (.inl (nI n) :: st) mem Q) : az_Ev X d M pc L (.inr k :: st) mem Q := by
  intro p e s m args below meth c H locs ls hx hb hml hown hr hlk hts hnw hK hW hS hL
  have he : (az_wl X mem)[k]? = some (X.2.2.2 k, .inl (X.2.2.1.1, n, .inl (mem k))) := by rw [az_wl_at ha.1, az_ce_ar ha]
  exact va_alen (ty := .int) hx hb hK hW.1 k 0 he rfl rfl hd (kk p e s m args below meth c H locs ls hx hb hml hown hr hlk hts hnw hK hW hS hL)
theorem az_iret {v : Int32} (hd : decode M.2.1 pc = .ok (.ireturn, 1)) (hM : M.2.2.2 = some .int) (h : Q (some (.inl v)) mem) : az_Ev X d M pc L [.inl v] mem Q := by
  intro p e s m args below meth c H locs ls hx hb hml hown hr hlk hts hnw hK hW hS hL
  exact W.iret (v := v) hx hb (hr.trans hM) (fun t ht hWm => ⟨⟨some (.inl v), mem, rfl, h, by rw [ht]; exact hW, va_K.moved hWm.alike hK⟩, hS.F ht⟩) hS.2.2 hd hlk
theorem az_zret {v : Int32} (hd : decode M.2.1 pc = .ok (.ireturn, 1)) (hM : M.2.2.2 = some .boolean) (hv : v = 0 ∨ v = 1) (h : Q (some (.inl v)) mem) : az_Ev X d M pc L [.inl v] mem Q := by
  intro p e s m args below meth c H locs ls hx hb hml hown hr hlk hts hnw hK hW hS hL
  exact W.zret (v := v) hx hb (hr.trans hM) (by rcases hv with rfl | rfl <;> rfl) (fun t ht hWm => ⟨⟨some (.inl v), mem, rfl, h, by rw [ht]; exact hW, va_K.moved hWm.alike hK⟩, hS.F ht⟩) hS.2.2 hd hlk
theorem az_aret {b : Nat} {C : String} (hd : decode M.2.1 pc = .ok (.areturn, 1)) (hM : M.2.2.2 = some (.object C)) (h : Q (some (.inr b)) mem) : az_Ev X d M pc L [.inr b] mem Q := by
  intro p e s m args below meth c H locs ls hx hb hml hown hr hlk hts hnw hK hW hS hL
  exact W.aret (v := .ref (X.2.2.2 b)) hx hb (hr.trans hM) (Or.inl ⟨C, rfl⟩) (Or.inr ⟨_, rfl⟩) (fun t ht hWm => ⟨⟨some (.inr b), mem, rfl, h, by rw [ht]; exact hW, va_K.moved hWm.alike hK⟩, hS.F ht⟩) hS.2.2 hd hlk
theorem az_vret (hd : decode M.2.1 pc = .ok (.return_, 1)) (hM : M.2.2.2 = none) (h : Q none mem) : az_Ev X d M pc L [] mem Q := by
  intro p e s m args below meth c H locs ls hx hb hml hown hr hlk hts hnw hK hW hS hL
  exact W.vret hx hb (hr.trans hM) (fun t ht hWm => ⟨⟨none, mem, rfl, h, by rw [ht]; exact hW, va_K.moved hWm.alike hK⟩, hS.F ht⟩) hS.2.2 hd hlk
/-- a contract out of a walk of the body -/
theorem az_body {args : List az_V} (hy : plainName M.1.cls = true) (hl : args.length ≤ M.2.2.1) (h : az_Ev X d M 0 (args.map some ++ List.replicate (M.2.2.1 - args.length) none) [] mem Q) : az_Sp X d M args mem Q := by
  refine Met.ofW (cc := M.2.1) (maxL := M.2.2.1) (ret := M.2.2.2) hy rfl ?_
  intro p e s m ar below meth c s₁ B hml hv
  obtain ⟨rfl, hW, hK, hnw⟩ := hv
  have hts := atoms_spec (ws := az_ws M) B.pre
  have hslen : ∀ vs : List az_V, lg_sl (vs.map (az_cv X)) = vs.map (fun v => Slot.val (az_cv X v)) := by
    intro vs
    induction vs with
    | nil => rfl
    | cons v vs ih =>
      have : lg_sl ((v :: vs).map (az_cv X)) = (if (az_cv X v).category = 2 then [Slot.val (az_cv X v), .second] else [Slot.val (az_cv X v)]) ++ lg_sl (vs.map (az_cv X)) := rfl
      rw [this, ih]
      simp [az_cat]
  have hle : (lg_sl (args.map (az_cv X))).length ≤ M.2.2.1 := by rw [hslen]; simpa using hl
  have hl0 := lv_entry (args.map (az_cv X)) (n := M.2.2.1) hle
  rw [lg_entry_eq]
  have hLR : az_LR X ((lg_sl (args.map (az_cv X)) ++ List.replicate (M.2.2.1 - (lg_sl (args.map (az_cv X))).length) Slot.unset).toArray) M.2.2.1 (args.map some ++ List.replicate (M.2.2.1 - args.length) none) := by
    refine ⟨hl0.1, hl0.2.1, fun i v hv => ?_⟩
    rw [hslen]
    by_cases hi : i < args.length
    · rw [List.getElem?_append_left (by simpa using hi)] at hv
      rw [List.getElem?_map, Option.map_eq_some_iff] at hv
      obtain ⟨w, hw, he⟩ := hv
      cases he
      simp only [List.getElem?_toArray]
      rw [List.getElem?_append_left (by simpa using hi), List.getElem?_map, hw]
      rfl
    · rw [List.getElem?_append_right (by simpa using hi)] at hv
      have := List.mem_of_getElem? hv
      rw [List.mem_replicate] at this
      exact absurd this.2 (by simp)
  have hx := h p e s m (args.map (az_cv X)).toArray below meth c s.heap [] _ B.exec B.bytes hml (findClass_of_methodNamed B.named) B.returns B.notSynchronized (fun w hw => hts w (List.mem_cons_of_mem _ hw)) hnw hK hW va_S.rf hLR
  exact hx
end AZ1
end
section
/-! CALLS in the abstract layer -/
theorem az_good : az_tb.all goodWord = true := List.all_eq_true.mpr (fun w h => (List.mem_filter.mp h).2)
/-- what the tables say of a method that is called -/
def az_OK (N : az_Me) (n : Nat) : Prop := Cond.code N.1 N.2.1 N.2.2.1 N.2.2.2 ∈ az_tb ∧ Cond.initialized N.1.cls ∈ az_tb ∧ (N.1.cls ≠ "java/lang/invoke/MethodHandle" ∧ N.1.cls ≠ "java/lang/invoke/VarHandle" ∧ (parseMethodDescriptor N.1.desc).map (fun d => d.parameters.length) = some n) ∧ N.2.2.1 ≤ 40
def az_OV (N : az_Me) (n : Nat) : Prop := az_OK N n ∧ Cond.instanceMethod N.1 ∈ az_tb ∧ Cond.selects N.1.cls N.1 N.1 ∈ az_tb
def az_OS (N : az_Me) (n : Nat) : Prop := az_OK N n ∧ Cond.static N.1 ∈ az_tb
def az_Lk (own : String) (idx : Nat) (y : MethodName) : Prop := Cond.methodLink own idx y ∈ az_tb ∨ ∃ host, Cond.methodLinkNest own idx y host ∈ az_tn
theorem az_goodIn {N : az_Me} {n : Nat} (h : az_OK N n) : GoodIn az_tb (az_ws N) := by
  intro w hw
  have hm : w ∈ az_tb := by
    rcases List.mem_cons.mp hw with rfl | hw
    · exact h.1
    · exact hw
  exact ⟨hm, good_of_word (List.all_eq_true.mp az_good w hm)⟩
theorem az_room {N : az_Me} {n : Nat} (h : az_OK N n) (d : Nat) : (az_rm d).frames + 1 ≤ (az_rm (d + 1)).frames ∧ 8 + (N.2.2.1 + 11) + (az_rm d).locals ≤ (az_rm (d + 1)).locals := by
  have := h.2.2.2
  constructor
  · exact Nat.le_refl _
  · show 8 + (N.2.2.1 + 11) + 64 * d ≤ 64 * (d + 1)
    omega
theorem az_ps_map (X : az_X) (r : Option az_V) (rest : List az_V) : (az_ps r rest).map (az_cv X) = (r.map (az_cv X)).toList ++ rest.map (az_cv X) := by
  cases r <;> rfl
theorem az_sum (X : az_X) (rest : List az_V) : ((rest.map (az_cv X)).map fun v => v.category).sum = rest.length := by
  induction rest with
  | nil => rfl
  | cons a l ih => simp only [List.map_cons, List.sum_cons, List.length_cons, ih, az_cat]; omega
section AZ2
variable {p : Program} {e : Env} {s : State} {m : MethodId} {args : Array Value} {below : List Frame} {meth : Method} {c : Code} {H : Heap} {locs : List Loc} {R : Room} {Z : State → Prop}
variable {X : az_X} {pc : Nat} {ls : Array Slot}
theorem az_back {Q1 : Option az_V → az_M → Prop} {rest : List az_V} {st0 : List Value} {a : Array Value} (hr : va_Run p X.1 e R s m args below meth c H locs 0 0 0 0 (F0 m pc ls st0) (rest.map (az_cv X)) (az_Q X Q1 a) (az_A X)) (hS : va_S (az_A X) s.heap H locs)
    (kk : ∀ (r : Option az_V) (mem : az_M) (H1 : Heap) (locs1 : List Loc), Q1 r mem → az_Wd X mem H1 → va_S (az_A X) s.heap H1 locs1 → W p X.1 e R s m args below meth c H1 locs1 0 0 Z (F0 m (pc + 3) ls ((az_ps r rest).map (az_cv X)))) : W p X.1 e R s m args below meth c H locs 0 0 Z (F0 m pc ls st0) := by
  intro T hT X0
  obtain ⟨v, st₀, t, T', L, h0, X', hL, e1, e2, ⟨⟨r, mem', hv, hq, hw, hk⟩, hz, hkp⟩, st⟩ := hr T hT X0
  cases hv
  rw [h0] at hz hkp
  obtain ⟨t2, a1, b1⟩ := kk r mem' T'.heap (locs ++ L) hq (by rw [e1]; exact hw)
    ⟨Nat.le_trans hS.1 (by rw [e1]; exact hz), fun q h1 h2 => by rw [e1, hkp q (Nat.lt_of_lt_of_le h1 hS.1) h2]; exact hS.2.1 q h1 h2, fun q hq => by
      rcases List.mem_append.mp hq with h | h
      · exact hS.2.2 q h
      · exact hL q h⟩ T' rfl X'
  rw [az_ps_map] at a1
  exact ⟨t2, st t2 a1, b1⟩
end AZ2
section AZ3
variable {X : az_X} {d : Nat} {M : az_Me} {pc : Nat} {L : List (Option az_V)} {rest : List az_V} {mem : az_M} {Q : Option az_V → az_M → Prop}
theorem az_blind {X : az_X} {mem : az_M} (args : List az_V) : FrameBlind (va_Pc (args.map (az_cv X)) (fun U => az_Wd X mem U.heap ∧ va_K X.2.1 az_cl (az_ty X) U ∧ az_nw U)) :=
  fun a U g mk q => ⟨q.1, q.2.1, va_K.moved (u := U) (U := U.calling g mk a) (Vm.Alike.refl U.vm) q.2.2.1, az_nw_same (s := U) (U := U.calling g mk a) rfl q.2.2.2⟩
theorem az_callV {idx ci n k : Nat} {N : az_Me} {fs : List (Option Nat)} {T : u_T} {nn : Nat} (As : List az_V) (hd : decode M.2.1 pc = .ok (.invokevirtual idx, 3)) (hk : az_Lk M.1.cls idx N.1) (hN : az_OV N n) (hob : az_Ob k ci fs) (hc : az_cl[ci]? = some (N.1.cls, T, nn)) (hn : As.length = n) (hr : rest.length ≤ 8)
    (hs : az_Sp X d N (.inr k :: As) mem (fun r mem' => az_Ev X (d + 1) M (pc + 3) L (az_ps r rest) mem' Q)) : az_Ev X (d + 1) M pc L (As.reverse ++ .inr k :: rest) mem Q := by
  intro p e s m args below meth c H locs ls hx hb hml hown hrt hlk hts hnw hK hW hS hL
  have he : (az_wl X mem)[k]? = some (X.2.2.2 k, .inr (ci, az_fl X fs (mem k))) := by rw [az_wl_at hob.1, az_ce_ob hob]
  have hPV : PreV s H N.1.cls (X.2.2.2 k) (va_Pc ((Sum.inr k :: As).map (az_cv X)) (fun U => az_Wd X mem U.heap ∧ va_K X.2.1 az_cl (az_ty X) U ∧ az_nw U)) (As.map (az_cv X)) :=
    ⟨az_blind _, va_recv (q := (N.1.cls, T, nn)) hK hW.1 hc he, fun U hU hWm => ⟨rfl, by rw [hU]; exact hW, va_K.moved hWm.alike hK, az_nw_warm hWm hnw⟩⟩
  have hst : (As.reverse ++ .inr k :: rest).map (az_cv X) = (As.map (az_cv X)).reverse ++ .ref (X.2.2.2 k) :: rest.map (az_cv X) := by
    simp [az_cv]
  have hsum : 2 * (F0 m pc ls ((As.reverse ++ .inr k :: rest).map (az_cv X))).monitorRoom + ((rest.map (az_cv X)).map fun v => v.category).sum ≤ 8 := by
    rw [az_sum]; exact (by simpa [JFrame.monitorRoom] using hr)
  have run : va_Run p X.1 e (az_rm (d + 1)) s m args below meth c H locs 0 0 0 0 (F0 m pc ls ((As.reverse ++ .inr k :: rest).map (az_cv X))) (rest.map (az_cv X)) (az_Q X (fun r mem' => az_Ev X (d + 1) M (pc + 3) L (az_ps r rest) mem' Q) (Value.ref (X.2.2.2 k) :: As.map (az_cv X)).toArray) (az_A X) := by
    rcases hk with hk | ⟨host, hk⟩
    · exact va_runV (C := N.1.cls) ⟨hx, hb, hml, hown, hts⟩ hs (⟨callB_of n hts (az_goodIn hN.1) rfl rfl rfl (hts _ hN.1.2.1) (hts _ hk) hN.1.2.2.1 (az_room hN.1 d), hts _ hN.2.1, hts _ hN.2.2⟩) hPV rfl (by simpa using hn) hL.1 hst hsum hd ⟨Nat.le_refl 0, Nat.le_refl 0⟩
    · exact va_runVN (C := N.1.cls) (host := host) ⟨hx, hb, hml, hown, hts⟩ hs ⟨va_cnB n hts (az_goodIn hN.1) rfl rfl rfl (hnw _ hk) (hts _ hN.1.2.1) hN.1.2.2.1 (az_room hN.1 d), hts _ hN.2.1, hts _ hN.2.2⟩ hPV rfl (by simpa using hn) hL.1 hst hsum hd ⟨Nat.le_refl 0, Nat.le_refl 0⟩
  exact az_back run hS (fun r mem1 H1 locs1 hq hw hS1 => hq p e s m args below meth c H1 locs1 ls hx hb hml hown hrt hlk hts hnw hK hw hS1 hL)
theorem az_callS {idx n : Nat} {N : az_Me} (As : List az_V) (hd : decode M.2.1 pc = .ok (.invokestatic idx, 3)) (hk : Cond.methodLink M.1.cls idx N.1 ∈ az_tb) (hN : az_OS N n) (hn : As.length = n) (hr : rest.length ≤ 8)
    (hs : az_Sp X d N As mem (fun r mem' => az_Ev X (d + 1) M (pc + 3) L (az_ps r rest) mem' Q)) : az_Ev X (d + 1) M pc L (As.reverse ++ rest) mem Q := by
  intro p e s m args below meth c H locs ls hx hb hml hown hrt hlk hts hnw hK hW hS hL
  have hPS : PreS s H (va_Pc (As.map (az_cv X)) (fun U => az_Wd X mem U.heap ∧ va_K X.2.1 az_cl (az_ty X) U ∧ az_nw U)) (As.map (az_cv X)) :=
    ⟨az_blind _, fun U hU hWm => ⟨rfl, by rw [hU]; exact hW, va_K.moved hWm.alike hK, az_nw_warm hWm hnw⟩⟩
  have hst : (As.reverse ++ rest).map (az_cv X) = (As.map (az_cv X)).reverse ++ rest.map (az_cv X) := by simp
  have hsum : 2 * (F0 m pc ls ((As.reverse ++ rest).map (az_cv X))).monitorRoom + ((rest.map (az_cv X)).map fun v => v.category).sum ≤ 8 := by
    rw [az_sum]; exact (by simpa [JFrame.monitorRoom] using hr)
  have run : va_Run p X.1 e (az_rm (d + 1)) s m args below meth c H locs 0 0 0 0 (F0 m pc ls ((As.reverse ++ rest).map (az_cv X))) (rest.map (az_cv X)) (az_Q X (fun r mem' => az_Ev X (d + 1) M (pc + 3) L (az_ps r rest) mem' Q) (As.map (az_cv X)).toArray) (az_A X) :=
    va_runS ⟨hx, hb, hml, hown, hts⟩ hs ⟨callB_of n hts (az_goodIn hN.1) rfl rfl rfl (hts _ hN.1.2.1) (hts _ hk) hN.1.2.2.1 (az_room hN.1 d), hts _ hN.2⟩ hPS rfl (by simpa using hn) hL.1 hst hsum hd ⟨Nat.le_refl 0, Nat.le_refl 0⟩
  exact az_back run hS (fun r mem1 H1 locs1 hq hw hS1 => hq p e s m args below meth c H1 locs1 ls hx hb hml hown hrt hlk hts hnw hK hw hS1 hL)
theorem az_inv0 {idx ci k : Nat} {N : az_Me} {fs : List (Option Nat)} {T : u_T} {nn : Nat} (hd : decode M.2.1 pc = .ok (.invokevirtual idx, 3)) (hk : az_Lk M.1.cls idx N.1) (hN : az_OV N 0) (hob : az_Ob k ci fs) (hc : az_cl[ci]? = some (N.1.cls, T, nn)) (hr : rest.length ≤ 8)
    (hs : az_Sp X d N [.inr k] mem (fun r mem' => az_Ev X (d + 1) M (pc + 3) L (az_ps r rest) mem' Q)) : az_Ev X (d + 1) M pc L (.inr k :: rest) mem Q := az_callV [] hd hk hN hob hc rfl hr hs
theorem az_inv1 {idx ci k : Nat} {N : az_Me} {fs : List (Option Nat)} {T : u_T} {nn : Nat} {a1 : az_V} (hd : decode M.2.1 pc = .ok (.invokevirtual idx, 3)) (hk : az_Lk M.1.cls idx N.1) (hN : az_OV N 1) (hob : az_Ob k ci fs) (hc : az_cl[ci]? = some (N.1.cls, T, nn)) (hr : rest.length ≤ 8)
    (hs : az_Sp X d N [.inr k, a1] mem (fun r mem' => az_Ev X (d + 1) M (pc + 3) L (az_ps r rest) mem' Q)) : az_Ev X (d + 1) M pc L (a1 :: .inr k :: rest) mem Q := az_callV [a1] hd hk hN hob hc rfl hr hs
theorem az_inv2 {idx ci k : Nat} {N : az_Me} {fs : List (Option Nat)} {T : u_T} {nn : Nat} {a1 a2 : az_V} (hd : decode M.2.1 pc = .ok (.invokevirtual idx, 3)) (hk : az_Lk M.1.cls idx N.1) (hN : az_OV N 2) (hob : az_Ob k ci fs) (hc : az_cl[ci]? = some (N.1.cls, T, nn)) (hr : rest.length ≤ 8)
    (hs : az_Sp X d N [.inr k, a1, a2] mem (fun r mem' => az_Ev X (d + 1) M (pc + 3) L (az_ps r rest) mem' Q)) : az_Ev X (d + 1) M pc L (a2 :: a1 :: .inr k :: rest) mem Q := az_callV [a1, a2] hd hk hN hob hc rfl hr hs
theorem az_inv3 {idx ci k : Nat} {N : az_Me} {fs : List (Option Nat)} {T : u_T} {nn : Nat} {a1 a2 a3 : az_V} (hd : decode M.2.1 pc = .ok (.invokevirtual idx, 3)) (hk : az_Lk M.1.cls idx N.1) (hN : az_OV N 3) (hob : az_Ob k ci fs) (hc : az_cl[ci]? = some (N.1.cls, T, nn)) (hr : rest.length ≤ 8)
    (hs : az_Sp X d N [.inr k, a1, a2, a3] mem (fun r mem' => az_Ev X (d + 1) M (pc + 3) L (az_ps r rest) mem' Q)) : az_Ev X (d + 1) M pc L (a3 :: a2 :: a1 :: .inr k :: rest) mem Q := az_callV [a1, a2, a3] hd hk hN hob hc rfl hr hs
theorem az_inv4 {idx ci k : Nat} {N : az_Me} {fs : List (Option Nat)} {T : u_T} {nn : Nat} {a1 a2 a3 a4 : az_V} (hd : decode M.2.1 pc = .ok (.invokevirtual idx, 3)) (hk : az_Lk M.1.cls idx N.1) (hN : az_OV N 4) (hob : az_Ob k ci fs) (hc : az_cl[ci]? = some (N.1.cls, T, nn)) (hr : rest.length ≤ 8)
    (hs : az_Sp X d N [.inr k, a1, a2, a3, a4] mem (fun r mem' => az_Ev X (d + 1) M (pc + 3) L (az_ps r rest) mem' Q)) : az_Ev X (d + 1) M pc L (a4 :: a3 :: a2 :: a1 :: .inr k :: rest) mem Q := az_callV [a1, a2, a3, a4] hd hk hN hob hc rfl hr hs
theorem az_ins1 {idx : Nat} {N : az_Me} {a1 : az_V} (hd : decode M.2.1 pc = .ok (.invokestatic idx, 3)) (hk : Cond.methodLink M.1.cls idx N.1 ∈ az_tb) (hN : az_OS N 1) (hr : rest.length ≤ 8)
    (hs : az_Sp X d N [a1] mem (fun r mem' => az_Ev X (d + 1) M (pc + 3) L (az_ps r rest) mem' Q)) : az_Ev X (d + 1) M pc L (a1 :: rest) mem Q := az_callS [a1] hd hk hN rfl hr hs
theorem az_ins2 {idx : Nat} {N : az_Me} {a1 a2 : az_V} (hd : decode M.2.1 pc = .ok (.invokestatic idx, 3)) (hk : Cond.methodLink M.1.cls idx N.1 ∈ az_tb) (hN : az_OS N 2) (hr : rest.length ≤ 8)
    (hs : az_Sp X d N [a1, a2] mem (fun r mem' => az_Ev X (d + 1) M (pc + 3) L (az_ps r rest) mem' Q)) : az_Ev X (d + 1) M pc L (a2 :: a1 :: rest) mem Q := az_callS [a1, a2] hd hk hN rfl hr hs
/-- System.arraycopy between two different or equal int rows of the world -/
theorem az_copy {idx k0 k1 n0 n1 : Nat} (hd : decode M.2.1 pc = .ok (.invokestatic idx, 3)) (hk : Cond.methodLink M.1.cls idx arraycopyName ∈ az_tb) (h0 : az_Ar k0 n0) (h1 : az_Ar k1 n1) (sp dp n : Nat) (hsp : sp + n ≤ n0) (hdp : dp + n ≤ n1) (hn0 : n0 < 2 ^ 31) (hn1 : n1 < 2 ^ 31) {vs vd vn : Int32} (es : vs = nI sp) (ed : vd = nI dp) (en : vn = nI n) (hr : rest.length ≤ 8) (hdd : 2 ≤ d)
    (hw : Cond.native arraycopyName ∈ az_tb ∧ Cond.static arraycopyName ∈ az_tb ∧ Cond.initialized "java/lang/System" ∈ az_tb) (kk : az_Ev X d M (pc + 3) L rest (az_st mem k1 (va_cpy (mem k0) (mem k1) sp dp n)) Q) : az_Ev X d M pc L (.inl vn :: .inl vd :: .inr k1 :: .inl vs :: .inr k0 :: rest) mem Q := by
  intro p e s m args below meth c H locs ls hx hb hml hown hrt hlk hts hnw hK hW hS hL
  subst es; subst ed; subst en
  have he0 : (az_wl X mem)[k0]? = some (X.2.2.2 k0, .inl (X.2.2.1.1, n0, .inl (mem k0))) := by rw [az_wl_at h0.1, az_ce_ar h0]
  have he1 : (az_wl X mem)[k1]? = some (X.2.2.2 k1, .inl (X.2.2.1.1, n1, .inl (mem k1))) := by rw [az_wl_at h1.1, az_ce_ar h1]
  have c1 : (nI sp).toNatClampNeg = sp := nI_clamp (by omega)
  have c2 : (nI dp).toNatClampNeg = dp := nI_clamp (by omega)
  have c3 : (nI n).toNatClampNeg = n := nI_clamp (by omega)
  have hset : (az_wl X mem).set k1 (X.2.2.2 k1, .inl (X.2.2.1.1, n1, .inl (va_cpy (mem k0) (mem k1) (nI sp).toNatClampNeg (nI dp).toNatClampNeg (nI n).toNatClampNeg))) = az_wl X (az_st mem k1 (va_cpy (mem k0) (mem k1) sp dp n)) := by
    rw [c1, c2, c3, ← az_ce_ar h1, az_wl_set h1.1]
  refine va_copyi (ty := .int) hx hb (hml.trans hL.1.symm) hown (hts _ hk) (hts _ hw.1) (hts _ hw.2.1) (hts _ hw.2.2) hK hW.1 hW.2 hS k0 k1 0 0 he0 he1 rfl rfl rfl (nI_pos (by omega)) (nI_pos (by omega)) (nI_pos (by omega)) (by rw [c1, c3]; exact hsp) (by rw [c2, c3]; exact hdp) (fun i hi => rfl) ?_ ?_ hd (fun H1 locs1 g1 g2 g3 => ?_)
  · show 1 ≤ d
    omega
  · rw [az_sum]
    have : nativeFrameWords "java/lang/System" "arraycopy" 5 + 11 ≤ 100 := by decide +kernel
    show _ ≤ 64 * d
    omega
  · rw [hset] at g1 g2
    exact kk p e s m args below meth c H1 locs1 ls hx hb hml hown hrt hlk hts hnw hK ⟨g1, g2⟩ g3 hL
end AZ3
end
section
/-! by program: methods, links, fields, shapes -/
abbrev mX0_init : az_Me := (yX0_init, cX0_init, 1, none)
abbrev mX0_prepare : az_Me := (yX0_prepare, cX0_prepare, 7, none)
abbrev mX0_findPlaces : az_Me := (yX0_findPlaces, cX0_findPlaces, 6, none)
abbrev mX0_placeOf : az_Me := (yX0_placeOf, cX0_placeOf, 4, (some .int))
abbrev mX0_groupPlaces : az_Me := (yX0_groupPlaces, cX0_groupPlaces, 8, none)
abbrev mX0_leastCost : az_Me := (yX0_leastCost, cX0_leastCost, 2, (some .int))
abbrev mX0_firstMark : az_Me := (yX0_firstMark, cX0_firstMark, 4, (some .int))
abbrev mX0_costOf : az_Me := (yX0_costOf, cX0_costOf, 5, (some .int))
abbrev mX0_costOfAsking : az_Me := (yX0_costOfAsking, cX0_costOfAsking, 8, (some .int))
abbrev mX0_chanceOf : az_Me := (yX0_chanceOf, cX0_chanceOf, 4, (some .int))
abbrev mX1_init : az_Me := (yX1_init, cX1_init, 1, none)
abbrev mX1_search : az_Me := (yX1_search, cX1_search, 5, none)
abbrev mX1_gatherDemands : az_Me := (yX1_gatherDemands, cX1_gatherDemands, 5, none)
abbrev mX1_demand : az_Me := (yX1_demand, cX1_demand, 5, none)
abbrev mX1_decide : az_Me := (yX1_decide, cX1_decide, 7, none)
abbrev mX1_canBeMet : az_Me := (yX1_canBeMet, cX1_canBeMet, 9, (some .boolean))
abbrev mX1_takeIfBest : az_Me := (yX1_takeIfBest, cX1_takeIfBest, 3, none)
abbrev mX2_init : az_Me := (yX2_init, cX2_init, 1, none)
abbrev mX2_become : az_Me := (yX2_become, cX2_become, 2, none)
abbrev mX2_isPost : az_Me := (yX2_isPost, cX2_isPost, 2, (some .boolean))
abbrev mX2_isSet : az_Me := (yX2_isSet, cX2_isSet, 2, (some .boolean))
abbrev mX2_hasRoad : az_Me := (yX2_hasRoad, cX2_hasRoad, 3, (some .boolean))
abbrev mX2_hasWord : az_Me := (yX2_hasWord, cX2_hasWord, 2, (some .boolean))
abbrev mX2_roadCanBe : az_Me := (yX2_roadCanBe, cX2_roadCanBe, 4, (some .boolean))
abbrev mX2_layRoad : az_Me := (yX2_layRoad, cX2_layRoad, 4, none)
abbrev mX2_besideBits : az_Me := (yX2_besideBits, cX2_besideBits, 4, (some .int))
abbrev mX2_countRoads : az_Me := (yX2_countRoads, cX2_countRoads, 3, (some .int))
abbrev mX2_need : az_Me := (yX2_need, cX2_need, 1, (some .int))
abbrev mX3_init : az_Me := (yX3_init, cX3_init, 2, none)
abbrev mX3_keep : az_Me := (yX3_keep, cX3_keep, 2, none)
abbrev mX3_goBack : az_Me := (yX3_goBack, cX3_goBack, 3, none)
abbrev mX4_init : az_Me := (yX4_init, cX4_init, 1, none)
abbrev mX4_fewestRounds : az_Me := (yX4_fewestRounds, cX4_fewestRounds, 5, (some .int))
abbrev mX4_prepare : az_Me := (yX4_prepare, cX4_prepare, 6, none)
abbrev mX4_findInRound : az_Me := (yX4_findInRound, cX4_findInRound, 6, (some .boolean))
abbrev mX4_someMarkFinds : az_Me := (yX4_someMarkFinds, cX4_someMarkFinds, 5, (some .boolean))
abbrev mX4_markFinds : az_Me := (yX4_markFinds, cX4_markFinds, 8, (some .boolean))
abbrev mX5_init : az_Me := (yX5_init, cX5_init, 1, none)
abbrev mX5_look : az_Me := (yX5_look, cX5_look, 4, none)
abbrev mX5_findWays : az_Me := (yX5_findWays, cX5_findWays, 5, none)
abbrev mX5_shortenWays : az_Me := (yX5_shortenWays, cX5_shortenWays, 6, none)
abbrev mX5_answerOf : az_Me := (yX5_answerOf, cX5_answerOf, 6, (some .int))
abbrev mX5_groupPosts : az_Me := (yX5_groupPosts, cX5_groupPosts, 6, none)
abbrev mX5_sameAnswer : az_Me := (yX5_sameAnswer, cX5_sameAnswer, 5, (some .int))
abbrev mX5_findParters : az_Me := (yX5_findParters, cX5_findParters, 5, none)
abbrev mX5_findYes : az_Me := (yX5_findYes, cX5_findYes, 5, none)
abbrev mX5_countBeside : az_Me := (yX5_countBeside, cX5_countBeside, 2, (some .int))
abbrev mX5_countReachedFrom : az_Me := (yX5_countReachedFrom, cX5_countReachedFrom, 4, (some .int))
abbrev mX5_leavesLessKnots : az_Me := (yX5_leavesLessKnots, cX5_leavesLessKnots, 4, (some .int))
abbrev mX5_knotOfLeaf : az_Me := (yX5_knotOfLeaf, cX5_knotOfLeaf, 7, (some .int))
abbrev mX5_areTwins : az_Me := (yX5_areTwins, cX5_areTwins, 3, (some .boolean))
abbrev mX5_twinPair : az_Me := (yX5_twinPair, cX5_twinPair, 5, (some .int))
abbrev mX5_pairLacks : az_Me := (yX5_pairLacks, cX5_pairLacks, 6, (some .boolean))
abbrev mX5_firstPairLacking : az_Me := (yX5_firstPairLacking, cX5_firstPairLacking, 5, (some .int))
abbrev mX5_countPairsLacking : az_Me := (yX5_countPairsLacking, cX5_countPairsLacking, 6, (some .int))
abbrev mX5_firstPostLacking : az_Me := (yX5_firstPostLacking, cX5_firstPostLacking, 4, (some .int))
abbrev mX5_countApartPairs : az_Me := (yX5_countApartPairs, cX5_countApartPairs, 1, (some .int))
abbrev mX5_apartPair : az_Me := (yX5_apartPair, cX5_apartPair, 2, (some .int))
abbrev mX5_goThroughApartPairs : az_Me := (yX5_goThroughApartPairs, cX5_goThroughApartPairs, 8, (some .int))
abbrev mX5_greedySet : az_Me := (yX5_greedySet, cX5_greedySet, 5, (some .int))
abbrev mX5_markPartingMost : az_Me := (yX5_markPartingMost, cX5_markPartingMost, 7, (some .int))
abbrev mX5_countLackingPartedBy : az_Me := (yX5_countLackingPartedBy, cX5_countLackingPartedBy, 8, (some .int))
abbrev mX6_init : az_Me := (yX6_init, cX6_init, 1, none)
abbrev mX6_hasRoomFor : az_Me := (yX6_hasRoomFor, cX6_hasRoomFor, 2, (some .boolean))
abbrev mX6_takeFour : az_Me := (yX6_takeFour, cX6_takeFour, 3, none)
abbrev mX6_byteAt : az_Me := (yX6_byteAt, cX6_byteAt, 2, (some .int))
abbrev mX7_init : az_Me := (yX7_init, cX7_init, 1, none)
abbrev mX7_post : az_Me := (yX7_post, cX7_post, 1, (some .int))
abbrev mX7_road : az_Me := (yX7_road, cX7_road, 4, (some .boolean))
abbrev mX7_cut : az_Me := (yX7_cut, cX7_cut, 3, (some .boolean))
abbrev mX7_feed : az_Me := (yX7_feed, cX7_feed, 6, (some .int))
abbrev mX7_roads : az_Me := (yX7_roads, cX7_roads, 7, (some .int))
abbrev mX7_reach : az_Me := (yX7_reach, cX7_reach, 3, (some .boolean))
abbrev mX7_price : az_Me := (yX7_price, cX7_price, 3, (some .boolean))
abbrev mX7_chance : az_Me := (yX7_chance, cX7_chance, 3, (some .boolean))
abbrev mX7_rule : az_Me := (yX7_rule, cX7_rule, 4, (some .boolean))
abbrev mX7_may : az_Me := (yX7_may, cX7_may, 3, (some .int))
abbrev mX7_want : az_Me := (yX7_want, cX7_want, 2, none)
abbrev mX7_way : az_Me := (yX7_way, cX7_way, 3, (some .int))
abbrev mX7_of : az_Me := (yX7_of, cX7_of, 3, (some .int))
abbrev mX7_answer : az_Me := (yX7_answer, cX7_answer, 3, (some .int))
abbrev mX7_parts : az_Me := (yX7_parts, cX7_parts, 5, (some .int))
abbrev mX7_clash : az_Me := (yX7_clash, cX7_clash, 5, (some .int))
abbrev mX7_twins : az_Me := (yX7_twins, cX7_twins, 2, (some .int))
abbrev mX7_least : az_Me := (yX7_least, cX7_least, 1, (some .int))
abbrev mX7_every : az_Me := (yX7_every, cX7_every, 1, (some .int))
abbrev mX7_cheapest : az_Me := (yX7_cheapest, cX7_cheapest, 1, (some .int))
abbrev mX7_set : az_Me := (yX7_set, cX7_set, 1, (some .int))
abbrev mX7_shown : az_Me := (yX7_shown, cX7_shown, 1, (some .int))
abbrev mX7_pair : az_Me := (yX7_pair, cX7_pair, 2, (some .int))
abbrev mX7_greedy : az_Me := (yX7_greedy, cX7_greedy, 5, (some .int))
abbrev mX7_word : az_Me := (yX7_word, cX7_word, 3, (some .int))
abbrev mX7_clear : az_Me := (yX7_clear, cX7_clear, 2, (some .int))
abbrev mX7_fits : az_Me := (yX7_fits, cX7_fits, 3, (some .int))
abbrev mX7_where : az_Me := (yX7_where, cX7_where, 4, (some .int))
abbrev mX7_against : az_Me := (yX7_against, cX7_against, 2, (some .int))
abbrev mX7_worst : az_Me := (yX7_worst, cX7_worst, 2, (some .int))
abbrev mX7_next : az_Me := (yX7_next, cX7_next, 2, (some .int))
abbrev mX7_mean : az_Me := (yX7_mean, cX7_mean, 2, (some .int))
abbrev mX7_seek : az_Me := (yX7_seek, cX7_seek, 2, (some .int))
abbrev mX7_tree : az_Me := (yX7_tree, cX7_tree, 3, (some .int))
abbrev mX7_undo : az_Me := (yX7_undo, cX7_undo, 2, (some .int))
abbrev mX7_about : az_Me := (yX7_about, cX7_about, 2, (some .int))
abbrev mX7_beforeAct : az_Me := (yX7_beforeAct, cX7_beforeAct, 1, none)
abbrev mX7_freshSight : az_Me := (yX7_freshSight, cX7_freshSight, 1, (some (.object "WayMarks$Sight")))
abbrev mX7_tellChoice : az_Me := (yX7_tellChoice, cX7_tellChoice, 1, (some .int))
abbrev mX7_wordsAgainst : az_Me := (yX7_wordsAgainst, cX7_wordsAgainst, 5, (some .int))
abbrev mX7_fitsWords : az_Me := (yX7_fitsWords, cX7_fitsWords, 3, (some .boolean))
abbrev mX7_canBeAsked : az_Me := (yX7_canBeAsked, cX7_canBeAsked, 2, (some .boolean))
abbrev mX8_init : az_Me := (yX8_init, cX8_init, 1, none)
abbrev mX8_first : az_Me := (yX8_first, cX8_first, 2, none)
abbrev mX8_act : az_Me := (yX8_act, cX8_act, 2, none)
abbrev mX8_undo : az_Me := (yX8_undo, cX8_undo, 4, (some .int))
abbrev mX8_n : az_Me := (yX8_n, cX8_n, 1, (some .int))
abbrev mX8_isPost : az_Me := (yX8_isPost, cX8_isPost, 2, (some .boolean))
abbrev mX8_isSet : az_Me := (yX8_isSet, cX8_isSet, 2, (some .boolean))
abbrev mX8_length : az_Me := (yX8_length, cX8_length, 3, (some .int))
abbrev mX8_isRoad : az_Me := (yX8_isRoad, cX8_isRoad, 4, (some .boolean))
abbrev mX8_lay : az_Me := (yX8_lay, cX8_lay, 4, none)
abbrev mX8_walk : az_Me := (yX8_walk, cX8_walk, 5, none)
abbrev mX8_says : az_Me := (yX8_says, cX8_says, 5, (some .int))
abbrev mX8_answerOf : az_Me := (yX8_answerOf, cX8_answerOf, 3, (some .int))
abbrev mX8_post : az_Me := (yX8_post, cX8_post, 1, (some .int))
abbrev mX8_road : az_Me := (yX8_road, cX8_road, 4, (some .boolean))
abbrev mX8_cut : az_Me := (yX8_cut, cX8_cut, 3, (some .boolean))
abbrev mX8_feed : az_Me := (yX8_feed, cX8_feed, 6, (some .int))
abbrev mX8_four : az_Me := (yX8_four, cX8_four, 3, none)
abbrev mX8_roads : az_Me := (yX8_roads, cX8_roads, 6, (some .int))
abbrev mX8_reach : az_Me := (yX8_reach, cX8_reach, 3, (some .boolean))
abbrev mX8_price : az_Me := (yX8_price, cX8_price, 3, (some .boolean))
abbrev mX8_chance : az_Me := (yX8_chance, cX8_chance, 3, (some .boolean))
abbrev mX8_rule : az_Me := (yX8_rule, cX8_rule, 3, (some .boolean))
abbrev mX8_need : az_Me := (yX8_need, cX8_need, 1, (some .int))
abbrev mX8_may : az_Me := (yX8_may, cX8_may, 3, (some .int))
abbrev mX8_want : az_Me := (yX8_want, cX8_want, 2, none)
abbrev mX8_way : az_Me := (yX8_way, cX8_way, 3, (some .int))
abbrev mX8_besideBits : az_Me := (yX8_besideBits, cX8_besideBits, 4, (some .int))
abbrev mX8_many : az_Me := (yX8_many, cX8_many, 3, (some .int))
abbrev mX8_of : az_Me := (yX8_of, cX8_of, 5, (some .int))
abbrev mX8_answer : az_Me := (yX8_answer, cX8_answer, 3, (some .int))
abbrev mX8_isParting : az_Me := (yX8_isParting, cX8_isParting, 4, (some .boolean))
abbrev mX8_parting : az_Me := (yX8_parting, cX8_parting, 5, (some .int))
abbrev mX8_areTwins : az_Me := (yX8_areTwins, cX8_areTwins, 3, (some .boolean))
abbrev mX8_isYes : az_Me := (yX8_isYes, cX8_isYes, 3, (some .boolean))
abbrev mX8_yes : az_Me := (yX8_yes, cX8_yes, 4, (some .int))
abbrev mX8_parts : az_Me := (yX8_parts, cX8_parts, 4, (some .int))
abbrev mX8_gather : az_Me := (yX8_gather, cX8_gather, 3, none)
abbrev mX8_clashOf : az_Me := (yX8_clashOf, cX8_clashOf, 6, (some .int))
abbrev mX8_clash : az_Me := (yX8_clash, cX8_clash, 2, (some .int))
abbrev mX8_twins : az_Me := (yX8_twins, cX8_twins, 5, (some .int))
abbrev mX8_best : az_Me := (yX8_best, cX8_best, 6, (some .int))
abbrev mX8_price_ : az_Me := (yX8_price_, cX8_price_, 4, (some .int))
abbrev mX8_least : az_Me := (yX8_least, cX8_least, 2, (some .int))
abbrev mX8_every : az_Me := (yX8_every, cX8_every, 4, (some .int))
abbrev mX8_cheapest : az_Me := (yX8_cheapest, cX8_cheapest, 2, (some .int))
abbrev mX8_set : az_Me := (yX8_set, cX8_set, 1, (some .int))
abbrev mX8_show : az_Me := (yX8_show, cX8_show, 6, (some .int))
abbrev mX8_shown : az_Me := (yX8_shown, cX8_shown, 1, (some .int))
abbrev mX8_pair : az_Me := (yX8_pair, cX8_pair, 3, (some .int))
abbrev mX8_lacks : az_Me := (yX8_lacks, cX8_lacks, 3, (some .boolean))
abbrev mX8_greedy : az_Me := (yX8_greedy, cX8_greedy, 10, (some .int))
abbrev mX8_word : az_Me := (yX8_word, cX8_word, 3, (some .int))
abbrev mX8_clear : az_Me := (yX8_clear, cX8_clear, 3, (some .int))
abbrev mX8_againstBits : az_Me := (yX8_againstBits, cX8_againstBits, 4, (some .int))
abbrev mX8_isFit : az_Me := (yX8_isFit, cX8_isFit, 2, (some .boolean))
abbrev mX8_fits : az_Me := (yX8_fits, cX8_fits, 3, (some .int))
abbrev mX8_where : az_Me := (yX8_where, cX8_where, 4, (some .int))
abbrev mX8_against : az_Me := (yX8_against, cX8_against, 2, (some .int))
abbrev mX8_isDone : az_Me := (yX8_isDone, cX8_isDone, 5, (some .boolean))
abbrev mX8_staying : az_Me := (yX8_staying, cX8_staying, 6, (some .int))
abbrev mX8_isAsked : az_Me := (yX8_isAsked, cX8_isAsked, 2, (some .boolean))
abbrev mX8_fill : az_Me := (yX8_fill, cX8_fill, 3, none)
abbrev mX8_fillOne : az_Me := (yX8_fillOne, cX8_fillOne, 10, none)
abbrev mX8_worst : az_Me := (yX8_worst, cX8_worst, 2, (some .int))
abbrev mX8_next : az_Me := (yX8_next, cX8_next, 2, (some .int))
abbrev mX8_mean : az_Me := (yX8_mean, cX8_mean, 2, (some .int))
abbrev mX8_moved : az_Me := (yX8_moved, cX8_moved, 4, (some .int))
abbrev mX8_seek : az_Me := (yX8_seek, cX8_seek, 6, (some .int))
abbrev mX8_isFoundIn : az_Me := (yX8_isFoundIn, cX8_isFoundIn, 8, (some .boolean))
abbrev mX8_tree : az_Me := (yX8_tree, cX8_tree, 5, (some .int))
abbrev mX8_isLed : az_Me := (yX8_isLed, cX8_isLed, 7, (some .boolean))
abbrev mX8_only : az_Me := (yX8_only, cX8_only, 2, (some .int))
abbrev mX8_about : az_Me := (yX8_about, cX8_about, 4, (some .int))
abbrev mJ6_numberOfTrailingZeros_0f7a4 : az_Me := (yJ6_numberOfTrailingZeros_0f7a4, cJ6_numberOfTrailingZeros_0f7a4, 2, (some .int))
abbrev mJ6_bitCount_0f7a4 : az_Me := (yJ6_bitCount_0f7a4, cJ6_bitCount_0f7a4, 1, (some .int))
abbrev mJ9_floorMod_7cf53 : az_Me := (yJ9_floorMod_7cf53, cJ9_floorMod_7cf53, 3, (some .int))
abbrev mJ9_max_7cf53 : az_Me := (yJ9_max_7cf53, cJ9_max_7cf53, 2, (some .int))
abbrev mJ9_min_7cf53 : az_Me := (yJ9_min_7cf53, cJ9_min_7cf53, 2, (some .int))
abbrev mJ7_fill_53178 : az_Me := (yJ7_fill_53178, cJ7_fill_53178, 4, none)
theorem okX0_prepare : az_OV mX0_prepare 4 := ⟨⟨az_in 718 (by decide +kernel) (by decide +kernel), az_in 108 (by decide +kernel) (by decide +kernel), ⟨by decide +kernel, by decide +kernel, by decide +kernel⟩, by decide +kernel⟩, az_in 717 (by decide +kernel) (by decide +kernel), az_in 46 (by decide +kernel) (by decide +kernel)⟩
theorem okX0_findPlaces : az_OV mX0_findPlaces 3 := ⟨⟨az_in 722 (by decide +kernel) (by decide +kernel), az_in 108 (by decide +kernel) (by decide +kernel), ⟨by decide +kernel, by decide +kernel, by decide +kernel⟩, by decide +kernel⟩, az_in 721 (by decide +kernel) (by decide +kernel), az_in 47 (by decide +kernel) (by decide +kernel)⟩
theorem okX0_placeOf : az_OV mX0_placeOf 2 := ⟨⟨az_in 726 (by decide +kernel) (by decide +kernel), az_in 108 (by decide +kernel) (by decide +kernel), ⟨by decide +kernel, by decide +kernel, by decide +kernel⟩, by decide +kernel⟩, az_in 725 (by decide +kernel) (by decide +kernel), az_in 48 (by decide +kernel) (by decide +kernel)⟩
theorem okX0_groupPlaces : az_OV mX0_groupPlaces 2 := ⟨⟨az_in 731 (by decide +kernel) (by decide +kernel), az_in 108 (by decide +kernel) (by decide +kernel), ⟨by decide +kernel, by decide +kernel, by decide +kernel⟩, by decide +kernel⟩, az_in 730 (by decide +kernel) (by decide +kernel), az_in 49 (by decide +kernel) (by decide +kernel)⟩
theorem okX0_leastCost : az_OV mX0_leastCost 0 := ⟨⟨az_in 735 (by decide +kernel) (by decide +kernel), az_in 108 (by decide +kernel) (by decide +kernel), ⟨by decide +kernel, by decide +kernel, by decide +kernel⟩, by decide +kernel⟩, az_in 734 (by decide +kernel) (by decide +kernel), az_in 50 (by decide +kernel) (by decide +kernel)⟩
theorem okX0_firstMark : az_OV mX0_firstMark 0 := ⟨⟨az_in 758 (by decide +kernel) (by decide +kernel), az_in 108 (by decide +kernel) (by decide +kernel), ⟨by decide +kernel, by decide +kernel, by decide +kernel⟩, by decide +kernel⟩, az_in 757 (by decide +kernel) (by decide +kernel), az_in 54 (by decide +kernel) (by decide +kernel)⟩
theorem okX0_costOf : az_OV mX0_costOf 2 := ⟨⟨az_in 739 (by decide +kernel) (by decide +kernel), az_in 108 (by decide +kernel) (by decide +kernel), ⟨by decide +kernel, by decide +kernel, by decide +kernel⟩, by decide +kernel⟩, az_in 738 (by decide +kernel) (by decide +kernel), az_in 51 (by decide +kernel) (by decide +kernel)⟩
theorem okX0_costOfAsking : az_OV mX0_costOfAsking 3 := ⟨⟨az_in 744 (by decide +kernel) (by decide +kernel), az_in 108 (by decide +kernel) (by decide +kernel), ⟨by decide +kernel, by decide +kernel, by decide +kernel⟩, by decide +kernel⟩, az_in 743 (by decide +kernel) (by decide +kernel), az_in 52 (by decide +kernel) (by decide +kernel)⟩
theorem okX0_chanceOf : az_OV mX0_chanceOf 1 := ⟨⟨az_in 749 (by decide +kernel) (by decide +kernel), az_in 108 (by decide +kernel) (by decide +kernel), ⟨by decide +kernel, by decide +kernel, by decide +kernel⟩, by decide +kernel⟩, az_in 748 (by decide +kernel) (by decide +kernel), az_in 53 (by decide +kernel) (by decide +kernel)⟩
theorem okX1_search : az_OV mX1_search 3 := ⟨⟨az_in 589 (by decide +kernel) (by decide +kernel), az_in 107 (by decide +kernel) (by decide +kernel), ⟨by decide +kernel, by decide +kernel, by decide +kernel⟩, by decide +kernel⟩, az_in 588 (by decide +kernel) (by decide +kernel), az_in 28 (by decide +kernel) (by decide +kernel)⟩
theorem okX1_gatherDemands : az_OV mX1_gatherDemands 2 := ⟨⟨az_in 595 (by decide +kernel) (by decide +kernel), az_in 107 (by decide +kernel) (by decide +kernel), ⟨by decide +kernel, by decide +kernel, by decide +kernel⟩, by decide +kernel⟩, az_in 594 (by decide +kernel) (by decide +kernel), az_in 29 (by decide +kernel) (by decide +kernel)⟩
theorem okX1_demand : az_OV mX1_demand 1 := ⟨⟨az_in 600 (by decide +kernel) (by decide +kernel), az_in 107 (by decide +kernel) (by decide +kernel), ⟨by decide +kernel, by decide +kernel, by decide +kernel⟩, by decide +kernel⟩, az_in 599 (by decide +kernel) (by decide +kernel), az_in 30 (by decide +kernel) (by decide +kernel)⟩
theorem okX1_decide : az_OV mX1_decide 4 := ⟨⟨az_in 605 (by decide +kernel) (by decide +kernel), az_in 107 (by decide +kernel) (by decide +kernel), ⟨by decide +kernel, by decide +kernel, by decide +kernel⟩, by decide +kernel⟩, az_in 604 (by decide +kernel) (by decide +kernel), az_in 31 (by decide +kernel) (by decide +kernel)⟩
theorem okX1_canBeMet : az_OV mX1_canBeMet 2 := ⟨⟨az_in 609 (by decide +kernel) (by decide +kernel), az_in 107 (by decide +kernel) (by decide +kernel), ⟨by decide +kernel, by decide +kernel, by decide +kernel⟩, by decide +kernel⟩, az_in 608 (by decide +kernel) (by decide +kernel), az_in 32 (by decide +kernel) (by decide +kernel)⟩
theorem okX1_takeIfBest : az_OV mX1_takeIfBest 2 := ⟨⟨az_in 614 (by decide +kernel) (by decide +kernel), az_in 107 (by decide +kernel) (by decide +kernel), ⟨by decide +kernel, by decide +kernel, by decide +kernel⟩, by decide +kernel⟩, az_in 613 (by decide +kernel) (by decide +kernel), az_in 33 (by decide +kernel) (by decide +kernel)⟩
theorem okX2_become : az_OV mX2_become 1 := ⟨⟨az_in 393 (by decide +kernel) (by decide +kernel), az_in 102 (by decide +kernel) (by decide +kernel), ⟨by decide +kernel, by decide +kernel, by decide +kernel⟩, by decide +kernel⟩, az_in 392 (by decide +kernel) (by decide +kernel), az_in 2 (by decide +kernel) (by decide +kernel)⟩
theorem okX2_isPost : az_OV mX2_isPost 1 := ⟨⟨az_in 411 (by decide +kernel) (by decide +kernel), az_in 102 (by decide +kernel) (by decide +kernel), ⟨by decide +kernel, by decide +kernel, by decide +kernel⟩, by decide +kernel⟩, az_in 410 (by decide +kernel) (by decide +kernel), az_in 4 (by decide +kernel) (by decide +kernel)⟩
theorem okX2_isSet : az_OV mX2_isSet 1 := ⟨⟨az_in 546 (by decide +kernel) (by decide +kernel), az_in 102 (by decide +kernel) (by decide +kernel), ⟨by decide +kernel, by decide +kernel, by decide +kernel⟩, by decide +kernel⟩, az_in 545 (by decide +kernel) (by decide +kernel), az_in 22 (by decide +kernel) (by decide +kernel)⟩
theorem okX2_hasRoad : az_OV mX2_hasRoad 2 := ⟨⟨az_in 415 (by decide +kernel) (by decide +kernel), az_in 102 (by decide +kernel) (by decide +kernel), ⟨by decide +kernel, by decide +kernel, by decide +kernel⟩, by decide +kernel⟩, az_in 414 (by decide +kernel) (by decide +kernel), az_in 5 (by decide +kernel) (by decide +kernel)⟩
theorem okX2_hasWord : az_OV mX2_hasWord 1 := ⟨⟨az_in 682 (by decide +kernel) (by decide +kernel), az_in 102 (by decide +kernel) (by decide +kernel), ⟨by decide +kernel, by decide +kernel, by decide +kernel⟩, by decide +kernel⟩, az_in 681 (by decide +kernel) (by decide +kernel), az_in 42 (by decide +kernel) (by decide +kernel)⟩
theorem okX2_roadCanBe : az_OV mX2_roadCanBe 3 := ⟨⟨az_in 407 (by decide +kernel) (by decide +kernel), az_in 102 (by decide +kernel) (by decide +kernel), ⟨by decide +kernel, by decide +kernel, by decide +kernel⟩, by decide +kernel⟩, az_in 406 (by decide +kernel) (by decide +kernel), az_in 3 (by decide +kernel) (by decide +kernel)⟩
theorem okX2_layRoad : az_OV mX2_layRoad 3 := ⟨⟨az_in 419 (by decide +kernel) (by decide +kernel), az_in 102 (by decide +kernel) (by decide +kernel), ⟨by decide +kernel, by decide +kernel, by decide +kernel⟩, by decide +kernel⟩, az_in 418 (by decide +kernel) (by decide +kernel), az_in 6 (by decide +kernel) (by decide +kernel)⟩
theorem okX2_besideBits : az_OV mX2_besideBits 1 := ⟨⟨az_in 489 (by decide +kernel) (by decide +kernel), az_in 102 (by decide +kernel) (by decide +kernel), ⟨by decide +kernel, by decide +kernel, by decide +kernel⟩, by decide +kernel⟩, az_in 488 (by decide +kernel) (by decide +kernel), az_in 13 (by decide +kernel) (by decide +kernel)⟩
theorem okX2_countRoads : az_OV mX2_countRoads 0 := ⟨⟨az_in 796 (by decide +kernel) (by decide +kernel), az_in 102 (by decide +kernel) (by decide +kernel), ⟨by decide +kernel, by decide +kernel, by decide +kernel⟩, by decide +kernel⟩, az_in 795 (by decide +kernel) (by decide +kernel), az_in 60 (by decide +kernel) (by decide +kernel)⟩
theorem okX2_need : az_OV mX2_need 0 := ⟨⟨az_in 469 (by decide +kernel) (by decide +kernel), az_in 102 (by decide +kernel) (by decide +kernel), ⟨by decide +kernel, by decide +kernel, by decide +kernel⟩, by decide +kernel⟩, az_in 468 (by decide +kernel) (by decide +kernel), az_in 10 (by decide +kernel) (by decide +kernel)⟩
theorem okX3_keep : az_OV mX3_keep 1 := ⟨⟨az_in 389 (by decide +kernel) (by decide +kernel), az_in 104 (by decide +kernel) (by decide +kernel), ⟨by decide +kernel, by decide +kernel, by decide +kernel⟩, by decide +kernel⟩, az_in 388 (by decide +kernel) (by decide +kernel), az_in 1 (by decide +kernel) (by decide +kernel)⟩
theorem okX3_goBack : az_OV mX3_goBack 2 := ⟨⟨az_in 819 (by decide +kernel) (by decide +kernel), az_in 104 (by decide +kernel) (by decide +kernel), ⟨by decide +kernel, by decide +kernel, by decide +kernel⟩, by decide +kernel⟩, az_in 818 (by decide +kernel) (by decide +kernel), az_in 64 (by decide +kernel) (by decide +kernel)⟩
theorem okX4_fewestRounds : az_OV mX4_fewestRounds 2 := ⟨⟨az_in 770 (by decide +kernel) (by decide +kernel), az_in 109 (by decide +kernel) (by decide +kernel), ⟨by decide +kernel, by decide +kernel, by decide +kernel⟩, by decide +kernel⟩, az_in 769 (by decide +kernel) (by decide +kernel), az_in 55 (by decide +kernel) (by decide +kernel)⟩
theorem okX4_prepare : az_OV mX4_prepare 2 := ⟨⟨az_in 775 (by decide +kernel) (by decide +kernel), az_in 109 (by decide +kernel) (by decide +kernel), ⟨by decide +kernel, by decide +kernel, by decide +kernel⟩, by decide +kernel⟩, az_in 774 (by decide +kernel) (by decide +kernel), az_in 56 (by decide +kernel) (by decide +kernel)⟩
theorem okX4_findInRound : az_OV mX4_findInRound 3 := ⟨⟨az_in 780 (by decide +kernel) (by decide +kernel), az_in 109 (by decide +kernel) (by decide +kernel), ⟨by decide +kernel, by decide +kernel, by decide +kernel⟩, by decide +kernel⟩, az_in 779 (by decide +kernel) (by decide +kernel), az_in 57 (by decide +kernel) (by decide +kernel)⟩
theorem okX4_someMarkFinds : az_OV mX4_someMarkFinds 3 := ⟨⟨az_in 784 (by decide +kernel) (by decide +kernel), az_in 109 (by decide +kernel) (by decide +kernel), ⟨by decide +kernel, by decide +kernel, by decide +kernel⟩, by decide +kernel⟩, az_in 783 (by decide +kernel) (by decide +kernel), az_in 58 (by decide +kernel) (by decide +kernel)⟩
theorem okX4_markFinds : az_OV mX4_markFinds 4 := ⟨⟨az_in 788 (by decide +kernel) (by decide +kernel), az_in 109 (by decide +kernel) (by decide +kernel), ⟨by decide +kernel, by decide +kernel, by decide +kernel⟩, by decide +kernel⟩, az_in 787 (by decide +kernel) (by decide +kernel), az_in 59 (by decide +kernel) (by decide +kernel)⟩
theorem okX5_look : az_OV mX5_look 1 := ⟨⟨az_in 485 (by decide +kernel) (by decide +kernel), az_in 106 (by decide +kernel) (by decide +kernel), ⟨by decide +kernel, by decide +kernel, by decide +kernel⟩, by decide +kernel⟩, az_in 484 (by decide +kernel) (by decide +kernel), az_in 12 (by decide +kernel) (by decide +kernel)⟩
theorem okX5_findWays : az_OV mX5_findWays 1 := ⟨⟨az_in 493 (by decide +kernel) (by decide +kernel), az_in 106 (by decide +kernel) (by decide +kernel), ⟨by decide +kernel, by decide +kernel, by decide +kernel⟩, by decide +kernel⟩, az_in 492 (by decide +kernel) (by decide +kernel), az_in 14 (by decide +kernel) (by decide +kernel)⟩
theorem okX5_shortenWays : az_OV mX5_shortenWays 2 := ⟨⟨az_in 499 (by decide +kernel) (by decide +kernel), az_in 106 (by decide +kernel) (by decide +kernel), ⟨by decide +kernel, by decide +kernel, by decide +kernel⟩, by decide +kernel⟩, az_in 498 (by decide +kernel) (by decide +kernel), az_in 15 (by decide +kernel) (by decide +kernel)⟩
theorem okX5_answerOf : az_OV mX5_answerOf 3 := ⟨⟨az_in 503 (by decide +kernel) (by decide +kernel), az_in 106 (by decide +kernel) (by decide +kernel), ⟨by decide +kernel, by decide +kernel, by decide +kernel⟩, by decide +kernel⟩, az_in 502 (by decide +kernel) (by decide +kernel), az_in 16 (by decide +kernel) (by decide +kernel)⟩
theorem okX5_groupPosts : az_OV mX5_groupPosts 1 := ⟨⟨az_in 507 (by decide +kernel) (by decide +kernel), az_in 106 (by decide +kernel) (by decide +kernel), ⟨by decide +kernel, by decide +kernel, by decide +kernel⟩, by decide +kernel⟩, az_in 506 (by decide +kernel) (by decide +kernel), az_in 17 (by decide +kernel) (by decide +kernel)⟩
theorem okX5_sameAnswer : az_OV mX5_sameAnswer 2 := ⟨⟨az_in 511 (by decide +kernel) (by decide +kernel), az_in 106 (by decide +kernel) (by decide +kernel), ⟨by decide +kernel, by decide +kernel, by decide +kernel⟩, by decide +kernel⟩, az_in 510 (by decide +kernel) (by decide +kernel), az_in 18 (by decide +kernel) (by decide +kernel)⟩
theorem okX5_findParters : az_OV mX5_findParters 0 := ⟨⟨az_in 515 (by decide +kernel) (by decide +kernel), az_in 106 (by decide +kernel) (by decide +kernel), ⟨by decide +kernel, by decide +kernel, by decide +kernel⟩, by decide +kernel⟩, az_in 514 (by decide +kernel) (by decide +kernel), az_in 19 (by decide +kernel) (by decide +kernel)⟩
theorem okX5_findYes : az_OV mX5_findYes 1 := ⟨⟨az_in 519 (by decide +kernel) (by decide +kernel), az_in 106 (by decide +kernel) (by decide +kernel), ⟨by decide +kernel, by decide +kernel, by decide +kernel⟩, by decide +kernel⟩, az_in 518 (by decide +kernel) (by decide +kernel), az_in 20 (by decide +kernel) (by decide +kernel)⟩
theorem okX5_countBeside : az_OV mX5_countBeside 1 := ⟨⟨az_in 806 (by decide +kernel) (by decide +kernel), az_in 106 (by decide +kernel) (by decide +kernel), ⟨by decide +kernel, by decide +kernel, by decide +kernel⟩, by decide +kernel⟩, az_in 805 (by decide +kernel) (by decide +kernel), az_in 62 (by decide +kernel) (by decide +kernel)⟩
theorem okX5_countReachedFrom : az_OV mX5_countReachedFrom 1 := ⟨⟨az_in 534 (by decide +kernel) (by decide +kernel), az_in 106 (by decide +kernel) (by decide +kernel), ⟨by decide +kernel, by decide +kernel, by decide +kernel⟩, by decide +kernel⟩, az_in 533 (by decide +kernel) (by decide +kernel), az_in 21 (by decide +kernel) (by decide +kernel)⟩
theorem okX5_leavesLessKnots : az_OV mX5_leavesLessKnots 0 := ⟨⟨az_in 802 (by decide +kernel) (by decide +kernel), az_in 106 (by decide +kernel) (by decide +kernel), ⟨by decide +kernel, by decide +kernel, by decide +kernel⟩, by decide +kernel⟩, az_in 801 (by decide +kernel) (by decide +kernel), az_in 61 (by decide +kernel) (by decide +kernel)⟩
theorem okX5_knotOfLeaf : az_OV mX5_knotOfLeaf 1 := ⟨⟨az_in 810 (by decide +kernel) (by decide +kernel), az_in 106 (by decide +kernel) (by decide +kernel), ⟨by decide +kernel, by decide +kernel, by decide +kernel⟩, by decide +kernel⟩, az_in 809 (by decide +kernel) (by decide +kernel), az_in 63 (by decide +kernel) (by decide +kernel)⟩
theorem okX5_areTwins : az_OV mX5_areTwins 2 := ⟨⟨az_in 579 (by decide +kernel) (by decide +kernel), az_in 106 (by decide +kernel) (by decide +kernel), ⟨by decide +kernel, by decide +kernel, by decide +kernel⟩, by decide +kernel⟩, az_in 578 (by decide +kernel) (by decide +kernel), az_in 27 (by decide +kernel) (by decide +kernel)⟩
theorem okX5_twinPair : az_OV mX5_twinPair 1 := ⟨⟨az_in 575 (by decide +kernel) (by decide +kernel), az_in 106 (by decide +kernel) (by decide +kernel), ⟨by decide +kernel, by decide +kernel, by decide +kernel⟩, by decide +kernel⟩, az_in 574 (by decide +kernel) (by decide +kernel), az_in 26 (by decide +kernel) (by decide +kernel)⟩
theorem okX5_pairLacks : az_OV mX5_pairLacks 4 := ⟨⟨az_in 562 (by decide +kernel) (by decide +kernel), az_in 106 (by decide +kernel) (by decide +kernel), ⟨by decide +kernel, by decide +kernel, by decide +kernel⟩, by decide +kernel⟩, az_in 561 (by decide +kernel) (by decide +kernel), az_in 24 (by decide +kernel) (by decide +kernel)⟩
theorem okX5_firstPairLacking : az_OV mX5_firstPairLacking 2 := ⟨⟨az_in 558 (by decide +kernel) (by decide +kernel), az_in 106 (by decide +kernel) (by decide +kernel), ⟨by decide +kernel, by decide +kernel, by decide +kernel⟩, by decide +kernel⟩, az_in 557 (by decide +kernel) (by decide +kernel), az_in 23 (by decide +kernel) (by decide +kernel)⟩
theorem okX5_countPairsLacking : az_OV mX5_countPairsLacking 2 := ⟨⟨az_in 674 (by decide +kernel) (by decide +kernel), az_in 106 (by decide +kernel) (by decide +kernel), ⟨by decide +kernel, by decide +kernel, by decide +kernel⟩, by decide +kernel⟩, az_in 673 (by decide +kernel) (by decide +kernel), az_in 41 (by decide +kernel) (by decide +kernel)⟩
theorem okX5_firstPostLacking : az_OV mX5_firstPostLacking 2 := ⟨⟨az_in 567 (by decide +kernel) (by decide +kernel), az_in 106 (by decide +kernel) (by decide +kernel), ⟨by decide +kernel, by decide +kernel, by decide +kernel⟩, by decide +kernel⟩, az_in 566 (by decide +kernel) (by decide +kernel), az_in 25 (by decide +kernel) (by decide +kernel)⟩
theorem okX5_countApartPairs : az_OV mX5_countApartPairs 0 := ⟨⟨az_in 642 (by decide +kernel) (by decide +kernel), az_in 106 (by decide +kernel) (by decide +kernel), ⟨by decide +kernel, by decide +kernel, by decide +kernel⟩, by decide +kernel⟩, az_in 641 (by decide +kernel) (by decide +kernel), az_in 35 (by decide +kernel) (by decide +kernel)⟩
theorem okX5_apartPair : az_OV mX5_apartPair 1 := ⟨⟨az_in 654 (by decide +kernel) (by decide +kernel), az_in 106 (by decide +kernel) (by decide +kernel), ⟨by decide +kernel, by decide +kernel, by decide +kernel⟩, by decide +kernel⟩, az_in 653 (by decide +kernel) (by decide +kernel), az_in 37 (by decide +kernel) (by decide +kernel)⟩
theorem okX5_goThroughApartPairs : az_OV mX5_goThroughApartPairs 2 := ⟨⟨az_in 646 (by decide +kernel) (by decide +kernel), az_in 106 (by decide +kernel) (by decide +kernel), ⟨by decide +kernel, by decide +kernel, by decide +kernel⟩, by decide +kernel⟩, az_in 645 (by decide +kernel) (by decide +kernel), az_in 36 (by decide +kernel) (by decide +kernel)⟩
theorem okX5_greedySet : az_OV mX5_greedySet 1 := ⟨⟨az_in 662 (by decide +kernel) (by decide +kernel), az_in 106 (by decide +kernel) (by decide +kernel), ⟨by decide +kernel, by decide +kernel, by decide +kernel⟩, by decide +kernel⟩, az_in 661 (by decide +kernel) (by decide +kernel), az_in 38 (by decide +kernel) (by decide +kernel)⟩
theorem okX5_markPartingMost : az_OV mX5_markPartingMost 2 := ⟨⟨az_in 666 (by decide +kernel) (by decide +kernel), az_in 106 (by decide +kernel) (by decide +kernel), ⟨by decide +kernel, by decide +kernel, by decide +kernel⟩, by decide +kernel⟩, az_in 665 (by decide +kernel) (by decide +kernel), az_in 39 (by decide +kernel) (by decide +kernel)⟩
theorem okX5_countLackingPartedBy : az_OV mX5_countLackingPartedBy 3 := ⟨⟨az_in 670 (by decide +kernel) (by decide +kernel), az_in 106 (by decide +kernel) (by decide +kernel), ⟨by decide +kernel, by decide +kernel, by decide +kernel⟩, by decide +kernel⟩, az_in 669 (by decide +kernel) (by decide +kernel), az_in 40 (by decide +kernel) (by decide +kernel)⟩
theorem okX6_hasRoomFor : az_OV mX6_hasRoomFor 1 := ⟨⟨az_in 433 (by decide +kernel) (by decide +kernel), az_in 105 (by decide +kernel) (by decide +kernel), ⟨by decide +kernel, by decide +kernel, by decide +kernel⟩, by decide +kernel⟩, az_in 432 (by decide +kernel) (by decide +kernel), az_in 7 (by decide +kernel) (by decide +kernel)⟩
theorem okX6_takeFour : az_OV mX6_takeFour 1 := ⟨⟨az_in 437 (by decide +kernel) (by decide +kernel), az_in 105 (by decide +kernel) (by decide +kernel), ⟨by decide +kernel, by decide +kernel, by decide +kernel⟩, by decide +kernel⟩, az_in 436 (by decide +kernel) (by decide +kernel), az_in 8 (by decide +kernel) (by decide +kernel)⟩
theorem okX6_byteAt : az_OV mX6_byteAt 1 := ⟨⟨az_in 445 (by decide +kernel) (by decide +kernel), az_in 105 (by decide +kernel) (by decide +kernel), ⟨by decide +kernel, by decide +kernel, by decide +kernel⟩, by decide +kernel⟩, az_in 444 (by decide +kernel) (by decide +kernel), az_in 9 (by decide +kernel) (by decide +kernel)⟩
theorem okX7_post : az_OV mX7_post 0 := ⟨⟨az_in 381 (by decide +kernel) (by decide +kernel), az_in 101 (by decide +kernel) (by decide +kernel), ⟨by decide +kernel, by decide +kernel, by decide +kernel⟩, by decide +kernel⟩, az_in 379 (by decide +kernel) (by decide +kernel), az_in 380 (by decide +kernel) (by decide +kernel)⟩
theorem okX7_road : az_OV mX7_road 3 := ⟨⟨az_in 403 (by decide +kernel) (by decide +kernel), az_in 101 (by decide +kernel) (by decide +kernel), ⟨by decide +kernel, by decide +kernel, by decide +kernel⟩, by decide +kernel⟩, az_in 401 (by decide +kernel) (by decide +kernel), az_in 402 (by decide +kernel) (by decide +kernel)⟩
theorem okX7_cut : az_OV mX7_cut 2 := ⟨⟨az_in 423 (by decide +kernel) (by decide +kernel), az_in 101 (by decide +kernel) (by decide +kernel), ⟨by decide +kernel, by decide +kernel, by decide +kernel⟩, by decide +kernel⟩, az_in 421 (by decide +kernel) (by decide +kernel), az_in 422 (by decide +kernel) (by decide +kernel)⟩
theorem okX7_feed : az_OV mX7_feed 5 := ⟨⟨az_in 429 (by decide +kernel) (by decide +kernel), az_in 101 (by decide +kernel) (by decide +kernel), ⟨by decide +kernel, by decide +kernel, by decide +kernel⟩, by decide +kernel⟩, az_in 427 (by decide +kernel) (by decide +kernel), az_in 428 (by decide +kernel) (by decide +kernel)⟩
theorem okX7_roads : az_OV mX7_roads 1 := ⟨⟨az_in 441 (by decide +kernel) (by decide +kernel), az_in 101 (by decide +kernel) (by decide +kernel), ⟨by decide +kernel, by decide +kernel, by decide +kernel⟩, by decide +kernel⟩, az_in 439 (by decide +kernel) (by decide +kernel), az_in 440 (by decide +kernel) (by decide +kernel)⟩
theorem okX7_reach : az_OV mX7_reach 2 := ⟨⟨az_in 449 (by decide +kernel) (by decide +kernel), az_in 101 (by decide +kernel) (by decide +kernel), ⟨by decide +kernel, by decide +kernel, by decide +kernel⟩, by decide +kernel⟩, az_in 447 (by decide +kernel) (by decide +kernel), az_in 448 (by decide +kernel) (by decide +kernel)⟩
theorem okX7_price : az_OV mX7_price 2 := ⟨⟨az_in 453 (by decide +kernel) (by decide +kernel), az_in 101 (by decide +kernel) (by decide +kernel), ⟨by decide +kernel, by decide +kernel, by decide +kernel⟩, by decide +kernel⟩, az_in 451 (by decide +kernel) (by decide +kernel), az_in 452 (by decide +kernel) (by decide +kernel)⟩
theorem okX7_chance : az_OV mX7_chance 2 := ⟨⟨az_in 457 (by decide +kernel) (by decide +kernel), az_in 101 (by decide +kernel) (by decide +kernel), ⟨by decide +kernel, by decide +kernel, by decide +kernel⟩, by decide +kernel⟩, az_in 455 (by decide +kernel) (by decide +kernel), az_in 456 (by decide +kernel) (by decide +kernel)⟩
theorem okX7_rule : az_OV mX7_rule 2 := ⟨⟨az_in 461 (by decide +kernel) (by decide +kernel), az_in 101 (by decide +kernel) (by decide +kernel), ⟨by decide +kernel, by decide +kernel, by decide +kernel⟩, by decide +kernel⟩, az_in 459 (by decide +kernel) (by decide +kernel), az_in 460 (by decide +kernel) (by decide +kernel)⟩
theorem okX7_may : az_OV mX7_may 2 := ⟨⟨az_in 465 (by decide +kernel) (by decide +kernel), az_in 101 (by decide +kernel) (by decide +kernel), ⟨by decide +kernel, by decide +kernel, by decide +kernel⟩, by decide +kernel⟩, az_in 463 (by decide +kernel) (by decide +kernel), az_in 464 (by decide +kernel) (by decide +kernel)⟩
theorem okX7_want : az_OV mX7_want 1 := ⟨⟨az_in 473 (by decide +kernel) (by decide +kernel), az_in 101 (by decide +kernel) (by decide +kernel), ⟨by decide +kernel, by decide +kernel, by decide +kernel⟩, by decide +kernel⟩, az_in 471 (by decide +kernel) (by decide +kernel), az_in 472 (by decide +kernel) (by decide +kernel)⟩
theorem okX7_way : az_OV mX7_way 2 := ⟨⟨az_in 477 (by decide +kernel) (by decide +kernel), az_in 101 (by decide +kernel) (by decide +kernel), ⟨by decide +kernel, by decide +kernel, by decide +kernel⟩, by decide +kernel⟩, az_in 475 (by decide +kernel) (by decide +kernel), az_in 476 (by decide +kernel) (by decide +kernel)⟩
theorem okX7_of : az_OV mX7_of 2 := ⟨⟨az_in 523 (by decide +kernel) (by decide +kernel), az_in 101 (by decide +kernel) (by decide +kernel), ⟨by decide +kernel, by decide +kernel, by decide +kernel⟩, by decide +kernel⟩, az_in 521 (by decide +kernel) (by decide +kernel), az_in 522 (by decide +kernel) (by decide +kernel)⟩
theorem okX7_answer : az_OV mX7_answer 2 := ⟨⟨az_in 538 (by decide +kernel) (by decide +kernel), az_in 101 (by decide +kernel) (by decide +kernel), ⟨by decide +kernel, by decide +kernel, by decide +kernel⟩, by decide +kernel⟩, az_in 536 (by decide +kernel) (by decide +kernel), az_in 537 (by decide +kernel) (by decide +kernel)⟩
theorem okX7_parts : az_OV mX7_parts 3 := ⟨⟨az_in 542 (by decide +kernel) (by decide +kernel), az_in 101 (by decide +kernel) (by decide +kernel), ⟨by decide +kernel, by decide +kernel, by decide +kernel⟩, by decide +kernel⟩, az_in 540 (by decide +kernel) (by decide +kernel), az_in 541 (by decide +kernel) (by decide +kernel)⟩
theorem okX7_clash : az_OV mX7_clash 1 := ⟨⟨az_in 554 (by decide +kernel) (by decide +kernel), az_in 101 (by decide +kernel) (by decide +kernel), ⟨by decide +kernel, by decide +kernel, by decide +kernel⟩, by decide +kernel⟩, az_in 552 (by decide +kernel) (by decide +kernel), az_in 553 (by decide +kernel) (by decide +kernel)⟩
theorem okX7_twins : az_OV mX7_twins 1 := ⟨⟨az_in 571 (by decide +kernel) (by decide +kernel), az_in 101 (by decide +kernel) (by decide +kernel), ⟨by decide +kernel, by decide +kernel, by decide +kernel⟩, by decide +kernel⟩, az_in 569 (by decide +kernel) (by decide +kernel), az_in 570 (by decide +kernel) (by decide +kernel)⟩
theorem okX7_least : az_OV mX7_least 0 := ⟨⟨az_in 585 (by decide +kernel) (by decide +kernel), az_in 101 (by decide +kernel) (by decide +kernel), ⟨by decide +kernel, by decide +kernel, by decide +kernel⟩, by decide +kernel⟩, az_in 583 (by decide +kernel) (by decide +kernel), az_in 584 (by decide +kernel) (by decide +kernel)⟩
theorem okX7_every : az_OV mX7_every 0 := ⟨⟨az_in 626 (by decide +kernel) (by decide +kernel), az_in 101 (by decide +kernel) (by decide +kernel), ⟨by decide +kernel, by decide +kernel, by decide +kernel⟩, by decide +kernel⟩, az_in 624 (by decide +kernel) (by decide +kernel), az_in 625 (by decide +kernel) (by decide +kernel)⟩
theorem okX7_cheapest : az_OV mX7_cheapest 0 := ⟨⟨az_in 630 (by decide +kernel) (by decide +kernel), az_in 101 (by decide +kernel) (by decide +kernel), ⟨by decide +kernel, by decide +kernel, by decide +kernel⟩, by decide +kernel⟩, az_in 628 (by decide +kernel) (by decide +kernel), az_in 629 (by decide +kernel) (by decide +kernel)⟩
theorem okX7_set : az_OV mX7_set 0 := ⟨⟨az_in 634 (by decide +kernel) (by decide +kernel), az_in 101 (by decide +kernel) (by decide +kernel), ⟨by decide +kernel, by decide +kernel, by decide +kernel⟩, by decide +kernel⟩, az_in 632 (by decide +kernel) (by decide +kernel), az_in 633 (by decide +kernel) (by decide +kernel)⟩
theorem okX7_shown : az_OV mX7_shown 0 := ⟨⟨az_in 638 (by decide +kernel) (by decide +kernel), az_in 101 (by decide +kernel) (by decide +kernel), ⟨by decide +kernel, by decide +kernel, by decide +kernel⟩, by decide +kernel⟩, az_in 636 (by decide +kernel) (by decide +kernel), az_in 637 (by decide +kernel) (by decide +kernel)⟩
theorem okX7_pair : az_OV mX7_pair 1 := ⟨⟨az_in 650 (by decide +kernel) (by decide +kernel), az_in 101 (by decide +kernel) (by decide +kernel), ⟨by decide +kernel, by decide +kernel, by decide +kernel⟩, by decide +kernel⟩, az_in 648 (by decide +kernel) (by decide +kernel), az_in 649 (by decide +kernel) (by decide +kernel)⟩
theorem okX7_greedy : az_OV mX7_greedy 0 := ⟨⟨az_in 658 (by decide +kernel) (by decide +kernel), az_in 101 (by decide +kernel) (by decide +kernel), ⟨by decide +kernel, by decide +kernel, by decide +kernel⟩, by decide +kernel⟩, az_in 656 (by decide +kernel) (by decide +kernel), az_in 657 (by decide +kernel) (by decide +kernel)⟩
theorem okX7_word : az_OV mX7_word 2 := ⟨⟨az_in 678 (by decide +kernel) (by decide +kernel), az_in 101 (by decide +kernel) (by decide +kernel), ⟨by decide +kernel, by decide +kernel, by decide +kernel⟩, by decide +kernel⟩, az_in 676 (by decide +kernel) (by decide +kernel), az_in 677 (by decide +kernel) (by decide +kernel)⟩
theorem okX7_clear : az_OV mX7_clear 0 := ⟨⟨az_in 686 (by decide +kernel) (by decide +kernel), az_in 101 (by decide +kernel) (by decide +kernel), ⟨by decide +kernel, by decide +kernel, by decide +kernel⟩, by decide +kernel⟩, az_in 684 (by decide +kernel) (by decide +kernel), az_in 685 (by decide +kernel) (by decide +kernel)⟩
theorem okX7_fits : az_OV mX7_fits 0 := ⟨⟨az_in 690 (by decide +kernel) (by decide +kernel), az_in 101 (by decide +kernel) (by decide +kernel), ⟨by decide +kernel, by decide +kernel, by decide +kernel⟩, by decide +kernel⟩, az_in 688 (by decide +kernel) (by decide +kernel), az_in 689 (by decide +kernel) (by decide +kernel)⟩
theorem okX7_where : az_OV mX7_where 1 := ⟨⟨az_in 702 (by decide +kernel) (by decide +kernel), az_in 101 (by decide +kernel) (by decide +kernel), ⟨by decide +kernel, by decide +kernel, by decide +kernel⟩, by decide +kernel⟩, az_in 700 (by decide +kernel) (by decide +kernel), az_in 701 (by decide +kernel) (by decide +kernel)⟩
theorem okX7_against : az_OV mX7_against 1 := ⟨⟨az_in 706 (by decide +kernel) (by decide +kernel), az_in 101 (by decide +kernel) (by decide +kernel), ⟨by decide +kernel, by decide +kernel, by decide +kernel⟩, by decide +kernel⟩, az_in 704 (by decide +kernel) (by decide +kernel), az_in 705 (by decide +kernel) (by decide +kernel)⟩
theorem okX7_worst : az_OV mX7_worst 1 := ⟨⟨az_in 710 (by decide +kernel) (by decide +kernel), az_in 101 (by decide +kernel) (by decide +kernel), ⟨by decide +kernel, by decide +kernel, by decide +kernel⟩, by decide +kernel⟩, az_in 708 (by decide +kernel) (by decide +kernel), az_in 709 (by decide +kernel) (by decide +kernel)⟩
theorem okX7_next : az_OV mX7_next 1 := ⟨⟨az_in 754 (by decide +kernel) (by decide +kernel), az_in 101 (by decide +kernel) (by decide +kernel), ⟨by decide +kernel, by decide +kernel, by decide +kernel⟩, by decide +kernel⟩, az_in 752 (by decide +kernel) (by decide +kernel), az_in 753 (by decide +kernel) (by decide +kernel)⟩
theorem okX7_mean : az_OV mX7_mean 1 := ⟨⟨az_in 762 (by decide +kernel) (by decide +kernel), az_in 101 (by decide +kernel) (by decide +kernel), ⟨by decide +kernel, by decide +kernel, by decide +kernel⟩, by decide +kernel⟩, az_in 760 (by decide +kernel) (by decide +kernel), az_in 761 (by decide +kernel) (by decide +kernel)⟩
theorem okX7_seek : az_OV mX7_seek 1 := ⟨⟨az_in 766 (by decide +kernel) (by decide +kernel), az_in 101 (by decide +kernel) (by decide +kernel), ⟨by decide +kernel, by decide +kernel, by decide +kernel⟩, by decide +kernel⟩, az_in 764 (by decide +kernel) (by decide +kernel), az_in 765 (by decide +kernel) (by decide +kernel)⟩
theorem okX7_tree : az_OV mX7_tree 0 := ⟨⟨az_in 792 (by decide +kernel) (by decide +kernel), az_in 101 (by decide +kernel) (by decide +kernel), ⟨by decide +kernel, by decide +kernel, by decide +kernel⟩, by decide +kernel⟩, az_in 790 (by decide +kernel) (by decide +kernel), az_in 791 (by decide +kernel) (by decide +kernel)⟩
theorem okX7_undo : az_OV mX7_undo 1 := ⟨⟨az_in 815 (by decide +kernel) (by decide +kernel), az_in 101 (by decide +kernel) (by decide +kernel), ⟨by decide +kernel, by decide +kernel, by decide +kernel⟩, by decide +kernel⟩, az_in 813 (by decide +kernel) (by decide +kernel), az_in 814 (by decide +kernel) (by decide +kernel)⟩
theorem okX7_about : az_OV mX7_about 1 := ⟨⟨az_in 826 (by decide +kernel) (by decide +kernel), az_in 101 (by decide +kernel) (by decide +kernel), ⟨by decide +kernel, by decide +kernel, by decide +kernel⟩, by decide +kernel⟩, az_in 824 (by decide +kernel) (by decide +kernel), az_in 825 (by decide +kernel) (by decide +kernel)⟩
theorem okX7_beforeAct : az_OV mX7_beforeAct 0 := ⟨⟨az_in 385 (by decide +kernel) (by decide +kernel), az_in 101 (by decide +kernel) (by decide +kernel), ⟨by decide +kernel, by decide +kernel, by decide +kernel⟩, by decide +kernel⟩, az_in 384 (by decide +kernel) (by decide +kernel), az_in 0 (by decide +kernel) (by decide +kernel)⟩
theorem okX7_freshSight : az_OV mX7_freshSight 0 := ⟨⟨az_in 481 (by decide +kernel) (by decide +kernel), az_in 101 (by decide +kernel) (by decide +kernel), ⟨by decide +kernel, by decide +kernel, by decide +kernel⟩, by decide +kernel⟩, az_in 480 (by decide +kernel) (by decide +kernel), az_in 11 (by decide +kernel) (by decide +kernel)⟩
theorem okX7_tellChoice : az_OV mX7_tellChoice 0 := ⟨⟨az_in 622 (by decide +kernel) (by decide +kernel), az_in 101 (by decide +kernel) (by decide +kernel), ⟨by decide +kernel, by decide +kernel, by decide +kernel⟩, by decide +kernel⟩, az_in 621 (by decide +kernel) (by decide +kernel), az_in 34 (by decide +kernel) (by decide +kernel)⟩
theorem okX7_wordsAgainst : az_OV mX7_wordsAgainst 1 := ⟨⟨az_in 698 (by decide +kernel) (by decide +kernel), az_in 101 (by decide +kernel) (by decide +kernel), ⟨by decide +kernel, by decide +kernel, by decide +kernel⟩, by decide +kernel⟩, az_in 697 (by decide +kernel) (by decide +kernel), az_in 44 (by decide +kernel) (by decide +kernel)⟩
theorem okX7_fitsWords : az_OV mX7_fitsWords 1 := ⟨⟨az_in 694 (by decide +kernel) (by decide +kernel), az_in 101 (by decide +kernel) (by decide +kernel), ⟨by decide +kernel, by decide +kernel, by decide +kernel⟩, by decide +kernel⟩, az_in 693 (by decide +kernel) (by decide +kernel), az_in 43 (by decide +kernel) (by decide +kernel)⟩
theorem okX7_canBeAsked : az_OV mX7_canBeAsked 1 := ⟨⟨az_in 714 (by decide +kernel) (by decide +kernel), az_in 101 (by decide +kernel) (by decide +kernel), ⟨by decide +kernel, by decide +kernel, by decide +kernel⟩, by decide +kernel⟩, az_in 713 (by decide +kernel) (by decide +kernel), az_in 45 (by decide +kernel) (by decide +kernel)⟩
theorem okX8_first : az_OV mX8_first 1 := ⟨⟨az_in 838 (by decide +kernel) (by decide +kernel), az_in 110 (by decide +kernel) (by decide +kernel), ⟨by decide +kernel, by decide +kernel, by decide +kernel⟩, by decide +kernel⟩, az_in 837 (by decide +kernel) (by decide +kernel), az_in 65 (by decide +kernel) (by decide +kernel)⟩
theorem okX8_act : az_OV mX8_act 0 := ⟨⟨az_in 916 (by decide +kernel) (by decide +kernel), az_in 110 (by decide +kernel) (by decide +kernel), ⟨by decide +kernel, by decide +kernel, by decide +kernel⟩, by decide +kernel⟩, az_in 915 (by decide +kernel) (by decide +kernel), az_in 70 (by decide +kernel) (by decide +kernel)⟩
theorem okX8_undo : az_OV mX8_undo 1 := ⟨⟨az_in 908 (by decide +kernel) (by decide +kernel), az_in 110 (by decide +kernel) (by decide +kernel), ⟨by decide +kernel, by decide +kernel, by decide +kernel⟩, by decide +kernel⟩, az_in 906 (by decide +kernel) (by decide +kernel), az_in 907 (by decide +kernel) (by decide +kernel)⟩
theorem okX8_n : az_OV mX8_n 0 := ⟨⟨az_in 851 (by decide +kernel) (by decide +kernel), az_in 110 (by decide +kernel) (by decide +kernel), ⟨by decide +kernel, by decide +kernel, by decide +kernel⟩, by decide +kernel⟩, az_in 850 (by decide +kernel) (by decide +kernel), az_in 68 (by decide +kernel) (by decide +kernel)⟩
theorem okX8_isPost : az_OV mX8_isPost 1 := ⟨⟨az_in 928 (by decide +kernel) (by decide +kernel), az_in 110 (by decide +kernel) (by decide +kernel), ⟨by decide +kernel, by decide +kernel, by decide +kernel⟩, by decide +kernel⟩, az_in 927 (by decide +kernel) (by decide +kernel), az_in 72 (by decide +kernel) (by decide +kernel)⟩
theorem okX8_isSet : az_OV mX8_isSet 1 := ⟨⟨az_in 1007 (by decide +kernel) (by decide +kernel), az_in 110 (by decide +kernel) (by decide +kernel), ⟨by decide +kernel, by decide +kernel, by decide +kernel⟩, by decide +kernel⟩, az_in 1006 (by decide +kernel) (by decide +kernel), az_in 78 (by decide +kernel) (by decide +kernel)⟩
theorem okX8_length : az_OV mX8_length 2 := ⟨⟨az_in 846 (by decide +kernel) (by decide +kernel), az_in 110 (by decide +kernel) (by decide +kernel), ⟨by decide +kernel, by decide +kernel, by decide +kernel⟩, by decide +kernel⟩, az_in 845 (by decide +kernel) (by decide +kernel), az_in 67 (by decide +kernel) (by decide +kernel)⟩
theorem okX8_isRoad : az_OV mX8_isRoad 3 := ⟨⟨az_in 924 (by decide +kernel) (by decide +kernel), az_in 110 (by decide +kernel) (by decide +kernel), ⟨by decide +kernel, by decide +kernel, by decide +kernel⟩, by decide +kernel⟩, az_in 923 (by decide +kernel) (by decide +kernel), az_in 71 (by decide +kernel) (by decide +kernel)⟩
theorem okX8_lay : az_OV mX8_lay 3 := ⟨⟨az_in 932 (by decide +kernel) (by decide +kernel), az_in 110 (by decide +kernel) (by decide +kernel), ⟨by decide +kernel, by decide +kernel, by decide +kernel⟩, by decide +kernel⟩, az_in 931 (by decide +kernel) (by decide +kernel), az_in 73 (by decide +kernel) (by decide +kernel)⟩
theorem okX8_walk : az_OV mX8_walk 0 := ⟨⟨az_in 842 (by decide +kernel) (by decide +kernel), az_in 110 (by decide +kernel) (by decide +kernel), ⟨by decide +kernel, by decide +kernel, by decide +kernel⟩, by decide +kernel⟩, az_in 841 (by decide +kernel) (by decide +kernel), az_in 66 (by decide +kernel) (by decide +kernel)⟩
theorem okX8_says : az_OV mX8_says 2 := ⟨⟨az_in 855 (by decide +kernel) (by decide +kernel), az_in 110 (by decide +kernel) (by decide +kernel), ⟨by decide +kernel, by decide +kernel, by decide +kernel⟩, by decide +kernel⟩, az_in 854 (by decide +kernel) (by decide +kernel), az_in 69 (by decide +kernel) (by decide +kernel)⟩
theorem okX8_answerOf : az_OV mX8_answerOf 2 := ⟨⟨az_in 999 (by decide +kernel) (by decide +kernel), az_in 110 (by decide +kernel) (by decide +kernel), ⟨by decide +kernel, by decide +kernel, by decide +kernel⟩, by decide +kernel⟩, az_in 998 (by decide +kernel) (by decide +kernel), az_in 77 (by decide +kernel) (by decide +kernel)⟩
theorem okX8_post : az_OV mX8_post 0 := ⟨⟨az_in 912 (by decide +kernel) (by decide +kernel), az_in 110 (by decide +kernel) (by decide +kernel), ⟨by decide +kernel, by decide +kernel, by decide +kernel⟩, by decide +kernel⟩, az_in 910 (by decide +kernel) (by decide +kernel), az_in 911 (by decide +kernel) (by decide +kernel)⟩
theorem okX8_road : az_OV mX8_road 3 := ⟨⟨az_in 920 (by decide +kernel) (by decide +kernel), az_in 110 (by decide +kernel) (by decide +kernel), ⟨by decide +kernel, by decide +kernel, by decide +kernel⟩, by decide +kernel⟩, az_in 918 (by decide +kernel) (by decide +kernel), az_in 919 (by decide +kernel) (by decide +kernel)⟩
theorem okX8_cut : az_OV mX8_cut 2 := ⟨⟨az_in 936 (by decide +kernel) (by decide +kernel), az_in 110 (by decide +kernel) (by decide +kernel), ⟨by decide +kernel, by decide +kernel, by decide +kernel⟩, by decide +kernel⟩, az_in 934 (by decide +kernel) (by decide +kernel), az_in 935 (by decide +kernel) (by decide +kernel)⟩
theorem okX8_feed : az_OV mX8_feed 5 := ⟨⟨az_in 940 (by decide +kernel) (by decide +kernel), az_in 110 (by decide +kernel) (by decide +kernel), ⟨by decide +kernel, by decide +kernel, by decide +kernel⟩, by decide +kernel⟩, az_in 938 (by decide +kernel) (by decide +kernel), az_in 939 (by decide +kernel) (by decide +kernel)⟩
theorem okX8_four : az_OV mX8_four 1 := ⟨⟨az_in 944 (by decide +kernel) (by decide +kernel), az_in 110 (by decide +kernel) (by decide +kernel), ⟨by decide +kernel, by decide +kernel, by decide +kernel⟩, by decide +kernel⟩, az_in 943 (by decide +kernel) (by decide +kernel), az_in 74 (by decide +kernel) (by decide +kernel)⟩
theorem okX8_roads : az_OV mX8_roads 1 := ⟨⟨az_in 948 (by decide +kernel) (by decide +kernel), az_in 110 (by decide +kernel) (by decide +kernel), ⟨by decide +kernel, by decide +kernel, by decide +kernel⟩, by decide +kernel⟩, az_in 946 (by decide +kernel) (by decide +kernel), az_in 947 (by decide +kernel) (by decide +kernel)⟩
theorem okX8_reach : az_OV mX8_reach 2 := ⟨⟨az_in 952 (by decide +kernel) (by decide +kernel), az_in 110 (by decide +kernel) (by decide +kernel), ⟨by decide +kernel, by decide +kernel, by decide +kernel⟩, by decide +kernel⟩, az_in 950 (by decide +kernel) (by decide +kernel), az_in 951 (by decide +kernel) (by decide +kernel)⟩
theorem okX8_price : az_OV mX8_price 2 := ⟨⟨az_in 956 (by decide +kernel) (by decide +kernel), az_in 110 (by decide +kernel) (by decide +kernel), ⟨by decide +kernel, by decide +kernel, by decide +kernel⟩, by decide +kernel⟩, az_in 954 (by decide +kernel) (by decide +kernel), az_in 955 (by decide +kernel) (by decide +kernel)⟩
theorem okX8_chance : az_OV mX8_chance 2 := ⟨⟨az_in 960 (by decide +kernel) (by decide +kernel), az_in 110 (by decide +kernel) (by decide +kernel), ⟨by decide +kernel, by decide +kernel, by decide +kernel⟩, by decide +kernel⟩, az_in 958 (by decide +kernel) (by decide +kernel), az_in 959 (by decide +kernel) (by decide +kernel)⟩
theorem okX8_rule : az_OV mX8_rule 2 := ⟨⟨az_in 964 (by decide +kernel) (by decide +kernel), az_in 110 (by decide +kernel) (by decide +kernel), ⟨by decide +kernel, by decide +kernel, by decide +kernel⟩, by decide +kernel⟩, az_in 962 (by decide +kernel) (by decide +kernel), az_in 963 (by decide +kernel) (by decide +kernel)⟩
theorem okX8_need : az_OV mX8_need 0 := ⟨⟨az_in 972 (by decide +kernel) (by decide +kernel), az_in 110 (by decide +kernel) (by decide +kernel), ⟨by decide +kernel, by decide +kernel, by decide +kernel⟩, by decide +kernel⟩, az_in 971 (by decide +kernel) (by decide +kernel), az_in 75 (by decide +kernel) (by decide +kernel)⟩
theorem okX8_may : az_OV mX8_may 2 := ⟨⟨az_in 968 (by decide +kernel) (by decide +kernel), az_in 110 (by decide +kernel) (by decide +kernel), ⟨by decide +kernel, by decide +kernel, by decide +kernel⟩, by decide +kernel⟩, az_in 966 (by decide +kernel) (by decide +kernel), az_in 967 (by decide +kernel) (by decide +kernel)⟩
theorem okX8_want : az_OV mX8_want 1 := ⟨⟨az_in 976 (by decide +kernel) (by decide +kernel), az_in 110 (by decide +kernel) (by decide +kernel), ⟨by decide +kernel, by decide +kernel, by decide +kernel⟩, by decide +kernel⟩, az_in 974 (by decide +kernel) (by decide +kernel), az_in 975 (by decide +kernel) (by decide +kernel)⟩
theorem okX8_way : az_OV mX8_way 2 := ⟨⟨az_in 980 (by decide +kernel) (by decide +kernel), az_in 110 (by decide +kernel) (by decide +kernel), ⟨by decide +kernel, by decide +kernel, by decide +kernel⟩, by decide +kernel⟩, az_in 978 (by decide +kernel) (by decide +kernel), az_in 979 (by decide +kernel) (by decide +kernel)⟩
theorem okX8_besideBits : az_OV mX8_besideBits 1 := ⟨⟨az_in 988 (by decide +kernel) (by decide +kernel), az_in 110 (by decide +kernel) (by decide +kernel), ⟨by decide +kernel, by decide +kernel, by decide +kernel⟩, by decide +kernel⟩, az_in 987 (by decide +kernel) (by decide +kernel), az_in 76 (by decide +kernel) (by decide +kernel)⟩
theorem okX8_many : az_OS mX8_many 1 := ⟨⟨az_in 991 (by decide +kernel) (by decide +kernel), az_in 110 (by decide +kernel) (by decide +kernel), ⟨by decide +kernel, by decide +kernel, by decide +kernel⟩, by decide +kernel⟩, az_in 990 (by decide +kernel) (by decide +kernel)⟩
theorem okX8_of : az_OV mX8_of 2 := ⟨⟨az_in 984 (by decide +kernel) (by decide +kernel), az_in 110 (by decide +kernel) (by decide +kernel), ⟨by decide +kernel, by decide +kernel, by decide +kernel⟩, by decide +kernel⟩, az_in 982 (by decide +kernel) (by decide +kernel), az_in 983 (by decide +kernel) (by decide +kernel)⟩
theorem okX8_answer : az_OV mX8_answer 2 := ⟨⟨az_in 995 (by decide +kernel) (by decide +kernel), az_in 110 (by decide +kernel) (by decide +kernel), ⟨by decide +kernel, by decide +kernel, by decide +kernel⟩, by decide +kernel⟩, az_in 993 (by decide +kernel) (by decide +kernel), az_in 994 (by decide +kernel) (by decide +kernel)⟩
theorem okX8_isParting : az_OV mX8_isParting 3 := ⟨⟨az_in 1015 (by decide +kernel) (by decide +kernel), az_in 110 (by decide +kernel) (by decide +kernel), ⟨by decide +kernel, by decide +kernel, by decide +kernel⟩, by decide +kernel⟩, az_in 1014 (by decide +kernel) (by decide +kernel), az_in 80 (by decide +kernel) (by decide +kernel)⟩
theorem okX8_parting : az_OV mX8_parting 2 := ⟨⟨az_in 1011 (by decide +kernel) (by decide +kernel), az_in 110 (by decide +kernel) (by decide +kernel), ⟨by decide +kernel, by decide +kernel, by decide +kernel⟩, by decide +kernel⟩, az_in 1010 (by decide +kernel) (by decide +kernel), az_in 79 (by decide +kernel) (by decide +kernel)⟩
theorem okX8_areTwins : az_OV mX8_areTwins 2 := ⟨⟨az_in 1043 (by decide +kernel) (by decide +kernel), az_in 110 (by decide +kernel) (by decide +kernel), ⟨by decide +kernel, by decide +kernel, by decide +kernel⟩, by decide +kernel⟩, az_in 1042 (by decide +kernel) (by decide +kernel), az_in 85 (by decide +kernel) (by decide +kernel)⟩
theorem okX8_isYes : az_OV mX8_isYes 2 := ⟨⟨az_in 1031 (by decide +kernel) (by decide +kernel), az_in 110 (by decide +kernel) (by decide +kernel), ⟨by decide +kernel, by decide +kernel, by decide +kernel⟩, by decide +kernel⟩, az_in 1030 (by decide +kernel) (by decide +kernel), az_in 83 (by decide +kernel) (by decide +kernel)⟩
theorem okX8_yes : az_OV mX8_yes 1 := ⟨⟨az_in 1027 (by decide +kernel) (by decide +kernel), az_in 110 (by decide +kernel) (by decide +kernel), ⟨by decide +kernel, by decide +kernel, by decide +kernel⟩, by decide +kernel⟩, az_in 1026 (by decide +kernel) (by decide +kernel), az_in 82 (by decide +kernel) (by decide +kernel)⟩
theorem okX8_parts : az_OV mX8_parts 3 := ⟨⟨az_in 1003 (by decide +kernel) (by decide +kernel), az_in 110 (by decide +kernel) (by decide +kernel), ⟨by decide +kernel, by decide +kernel, by decide +kernel⟩, by decide +kernel⟩, az_in 1001 (by decide +kernel) (by decide +kernel), az_in 1002 (by decide +kernel) (by decide +kernel)⟩
theorem okX8_gather : az_OV mX8_gather 0 := ⟨⟨az_in 1023 (by decide +kernel) (by decide +kernel), az_in 110 (by decide +kernel) (by decide +kernel), ⟨by decide +kernel, by decide +kernel, by decide +kernel⟩, by decide +kernel⟩, az_in 1022 (by decide +kernel) (by decide +kernel), az_in 81 (by decide +kernel) (by decide +kernel)⟩
theorem okX8_clashOf : az_OV mX8_clashOf 1 := ⟨⟨az_in 1035 (by decide +kernel) (by decide +kernel), az_in 110 (by decide +kernel) (by decide +kernel), ⟨by decide +kernel, by decide +kernel, by decide +kernel⟩, by decide +kernel⟩, az_in 1034 (by decide +kernel) (by decide +kernel), az_in 84 (by decide +kernel) (by decide +kernel)⟩
theorem okX8_clash : az_OV mX8_clash 1 := ⟨⟨az_in 1019 (by decide +kernel) (by decide +kernel), az_in 110 (by decide +kernel) (by decide +kernel), ⟨by decide +kernel, by decide +kernel, by decide +kernel⟩, by decide +kernel⟩, az_in 1017 (by decide +kernel) (by decide +kernel), az_in 1018 (by decide +kernel) (by decide +kernel)⟩
theorem okX8_twins : az_OV mX8_twins 1 := ⟨⟨az_in 1039 (by decide +kernel) (by decide +kernel), az_in 110 (by decide +kernel) (by decide +kernel), ⟨by decide +kernel, by decide +kernel, by decide +kernel⟩, by decide +kernel⟩, az_in 1037 (by decide +kernel) (by decide +kernel), az_in 1038 (by decide +kernel) (by decide +kernel)⟩
theorem okX8_best : az_OV mX8_best 1 := ⟨⟨az_in 1051 (by decide +kernel) (by decide +kernel), az_in 110 (by decide +kernel) (by decide +kernel), ⟨by decide +kernel, by decide +kernel, by decide +kernel⟩, by decide +kernel⟩, az_in 1050 (by decide +kernel) (by decide +kernel), az_in 86 (by decide +kernel) (by decide +kernel)⟩
theorem okX8_price_ : az_OV mX8_price_ 1 := ⟨⟨az_in 1055 (by decide +kernel) (by decide +kernel), az_in 110 (by decide +kernel) (by decide +kernel), ⟨by decide +kernel, by decide +kernel, by decide +kernel⟩, by decide +kernel⟩, az_in 1054 (by decide +kernel) (by decide +kernel), az_in 87 (by decide +kernel) (by decide +kernel)⟩
theorem okX8_least : az_OV mX8_least 0 := ⟨⟨az_in 1047 (by decide +kernel) (by decide +kernel), az_in 110 (by decide +kernel) (by decide +kernel), ⟨by decide +kernel, by decide +kernel, by decide +kernel⟩, by decide +kernel⟩, az_in 1045 (by decide +kernel) (by decide +kernel), az_in 1046 (by decide +kernel) (by decide +kernel)⟩
theorem okX8_every : az_OV mX8_every 0 := ⟨⟨az_in 1059 (by decide +kernel) (by decide +kernel), az_in 110 (by decide +kernel) (by decide +kernel), ⟨by decide +kernel, by decide +kernel, by decide +kernel⟩, by decide +kernel⟩, az_in 1057 (by decide +kernel) (by decide +kernel), az_in 1058 (by decide +kernel) (by decide +kernel)⟩
theorem okX8_cheapest : az_OV mX8_cheapest 0 := ⟨⟨az_in 1063 (by decide +kernel) (by decide +kernel), az_in 110 (by decide +kernel) (by decide +kernel), ⟨by decide +kernel, by decide +kernel, by decide +kernel⟩, by decide +kernel⟩, az_in 1061 (by decide +kernel) (by decide +kernel), az_in 1062 (by decide +kernel) (by decide +kernel)⟩
theorem okX8_set : az_OV mX8_set 0 := ⟨⟨az_in 1067 (by decide +kernel) (by decide +kernel), az_in 110 (by decide +kernel) (by decide +kernel), ⟨by decide +kernel, by decide +kernel, by decide +kernel⟩, by decide +kernel⟩, az_in 1065 (by decide +kernel) (by decide +kernel), az_in 1066 (by decide +kernel) (by decide +kernel)⟩
theorem okX8_show : az_OV mX8_show 0 := ⟨⟨az_in 1075 (by decide +kernel) (by decide +kernel), az_in 110 (by decide +kernel) (by decide +kernel), ⟨by decide +kernel, by decide +kernel, by decide +kernel⟩, by decide +kernel⟩, az_in 1074 (by decide +kernel) (by decide +kernel), az_in 88 (by decide +kernel) (by decide +kernel)⟩
theorem okX8_shown : az_OV mX8_shown 0 := ⟨⟨az_in 1071 (by decide +kernel) (by decide +kernel), az_in 110 (by decide +kernel) (by decide +kernel), ⟨by decide +kernel, by decide +kernel, by decide +kernel⟩, by decide +kernel⟩, az_in 1069 (by decide +kernel) (by decide +kernel), az_in 1070 (by decide +kernel) (by decide +kernel)⟩
theorem okX8_pair : az_OV mX8_pair 1 := ⟨⟨az_in 1079 (by decide +kernel) (by decide +kernel), az_in 110 (by decide +kernel) (by decide +kernel), ⟨by decide +kernel, by decide +kernel, by decide +kernel⟩, by decide +kernel⟩, az_in 1077 (by decide +kernel) (by decide +kernel), az_in 1078 (by decide +kernel) (by decide +kernel)⟩
theorem okX8_lacks : az_OV mX8_lacks 2 := ⟨⟨az_in 1087 (by decide +kernel) (by decide +kernel), az_in 110 (by decide +kernel) (by decide +kernel), ⟨by decide +kernel, by decide +kernel, by decide +kernel⟩, by decide +kernel⟩, az_in 1086 (by decide +kernel) (by decide +kernel), az_in 89 (by decide +kernel) (by decide +kernel)⟩
theorem okX8_greedy : az_OV mX8_greedy 0 := ⟨⟨az_in 1083 (by decide +kernel) (by decide +kernel), az_in 110 (by decide +kernel) (by decide +kernel), ⟨by decide +kernel, by decide +kernel, by decide +kernel⟩, by decide +kernel⟩, az_in 1081 (by decide +kernel) (by decide +kernel), az_in 1082 (by decide +kernel) (by decide +kernel)⟩
theorem okX8_word : az_OV mX8_word 2 := ⟨⟨az_in 1091 (by decide +kernel) (by decide +kernel), az_in 110 (by decide +kernel) (by decide +kernel), ⟨by decide +kernel, by decide +kernel, by decide +kernel⟩, by decide +kernel⟩, az_in 1089 (by decide +kernel) (by decide +kernel), az_in 1090 (by decide +kernel) (by decide +kernel)⟩
theorem okX8_clear : az_OV mX8_clear 0 := ⟨⟨az_in 1095 (by decide +kernel) (by decide +kernel), az_in 110 (by decide +kernel) (by decide +kernel), ⟨by decide +kernel, by decide +kernel, by decide +kernel⟩, by decide +kernel⟩, az_in 1093 (by decide +kernel) (by decide +kernel), az_in 1094 (by decide +kernel) (by decide +kernel)⟩
theorem okX8_againstBits : az_OV mX8_againstBits 1 := ⟨⟨az_in 1107 (by decide +kernel) (by decide +kernel), az_in 110 (by decide +kernel) (by decide +kernel), ⟨by decide +kernel, by decide +kernel, by decide +kernel⟩, by decide +kernel⟩, az_in 1106 (by decide +kernel) (by decide +kernel), az_in 91 (by decide +kernel) (by decide +kernel)⟩
theorem okX8_isFit : az_OV mX8_isFit 1 := ⟨⟨az_in 1103 (by decide +kernel) (by decide +kernel), az_in 110 (by decide +kernel) (by decide +kernel), ⟨by decide +kernel, by decide +kernel, by decide +kernel⟩, by decide +kernel⟩, az_in 1102 (by decide +kernel) (by decide +kernel), az_in 90 (by decide +kernel) (by decide +kernel)⟩
theorem okX8_fits : az_OV mX8_fits 0 := ⟨⟨az_in 1099 (by decide +kernel) (by decide +kernel), az_in 110 (by decide +kernel) (by decide +kernel), ⟨by decide +kernel, by decide +kernel, by decide +kernel⟩, by decide +kernel⟩, az_in 1097 (by decide +kernel) (by decide +kernel), az_in 1098 (by decide +kernel) (by decide +kernel)⟩
theorem okX8_where : az_OV mX8_where 1 := ⟨⟨az_in 1111 (by decide +kernel) (by decide +kernel), az_in 110 (by decide +kernel) (by decide +kernel), ⟨by decide +kernel, by decide +kernel, by decide +kernel⟩, by decide +kernel⟩, az_in 1109 (by decide +kernel) (by decide +kernel), az_in 1110 (by decide +kernel) (by decide +kernel)⟩
theorem okX8_against : az_OV mX8_against 1 := ⟨⟨az_in 1115 (by decide +kernel) (by decide +kernel), az_in 110 (by decide +kernel) (by decide +kernel), ⟨by decide +kernel, by decide +kernel, by decide +kernel⟩, by decide +kernel⟩, az_in 1113 (by decide +kernel) (by decide +kernel), az_in 1114 (by decide +kernel) (by decide +kernel)⟩
theorem okX8_isDone : az_OV mX8_isDone 1 := ⟨⟨az_in 1135 (by decide +kernel) (by decide +kernel), az_in 110 (by decide +kernel) (by decide +kernel), ⟨by decide +kernel, by decide +kernel, by decide +kernel⟩, by decide +kernel⟩, az_in 1134 (by decide +kernel) (by decide +kernel), az_in 95 (by decide +kernel) (by decide +kernel)⟩
theorem okX8_staying : az_OV mX8_staying 3 := ⟨⟨az_in 1140 (by decide +kernel) (by decide +kernel), az_in 110 (by decide +kernel) (by decide +kernel), ⟨by decide +kernel, by decide +kernel, by decide +kernel⟩, by decide +kernel⟩, az_in 1139 (by decide +kernel) (by decide +kernel), az_in 96 (by decide +kernel) (by decide +kernel)⟩
theorem okX8_isAsked : az_OV mX8_isAsked 1 := ⟨⟨az_in 1123 (by decide +kernel) (by decide +kernel), az_in 110 (by decide +kernel) (by decide +kernel), ⟨by decide +kernel, by decide +kernel, by decide +kernel⟩, by decide +kernel⟩, az_in 1122 (by decide +kernel) (by decide +kernel), az_in 92 (by decide +kernel) (by decide +kernel)⟩
theorem okX8_fill : az_OV mX8_fill 1 := ⟨⟨az_in 1127 (by decide +kernel) (by decide +kernel), az_in 110 (by decide +kernel) (by decide +kernel), ⟨by decide +kernel, by decide +kernel, by decide +kernel⟩, by decide +kernel⟩, az_in 1126 (by decide +kernel) (by decide +kernel), az_in 93 (by decide +kernel) (by decide +kernel)⟩
theorem okX8_fillOne : az_OV mX8_fillOne 1 := ⟨⟨az_in 1131 (by decide +kernel) (by decide +kernel), az_in 110 (by decide +kernel) (by decide +kernel), ⟨by decide +kernel, by decide +kernel, by decide +kernel⟩, by decide +kernel⟩, az_in 1130 (by decide +kernel) (by decide +kernel), az_in 94 (by decide +kernel) (by decide +kernel)⟩
theorem okX8_worst : az_OV mX8_worst 1 := ⟨⟨az_in 1119 (by decide +kernel) (by decide +kernel), az_in 110 (by decide +kernel) (by decide +kernel), ⟨by decide +kernel, by decide +kernel, by decide +kernel⟩, by decide +kernel⟩, az_in 1117 (by decide +kernel) (by decide +kernel), az_in 1118 (by decide +kernel) (by decide +kernel)⟩
theorem okX8_next : az_OV mX8_next 1 := ⟨⟨az_in 1144 (by decide +kernel) (by decide +kernel), az_in 110 (by decide +kernel) (by decide +kernel), ⟨by decide +kernel, by decide +kernel, by decide +kernel⟩, by decide +kernel⟩, az_in 1142 (by decide +kernel) (by decide +kernel), az_in 1143 (by decide +kernel) (by decide +kernel)⟩
theorem okX8_mean : az_OV mX8_mean 1 := ⟨⟨az_in 1148 (by decide +kernel) (by decide +kernel), az_in 110 (by decide +kernel) (by decide +kernel), ⟨by decide +kernel, by decide +kernel, by decide +kernel⟩, by decide +kernel⟩, az_in 1146 (by decide +kernel) (by decide +kernel), az_in 1147 (by decide +kernel) (by decide +kernel)⟩
theorem okX8_moved : az_OV mX8_moved 1 := ⟨⟨az_in 1160 (by decide +kernel) (by decide +kernel), az_in 110 (by decide +kernel) (by decide +kernel), ⟨by decide +kernel, by decide +kernel, by decide +kernel⟩, by decide +kernel⟩, az_in 1159 (by decide +kernel) (by decide +kernel), az_in 98 (by decide +kernel) (by decide +kernel)⟩
theorem okX8_seek : az_OV mX8_seek 1 := ⟨⟨az_in 1152 (by decide +kernel) (by decide +kernel), az_in 110 (by decide +kernel) (by decide +kernel), ⟨by decide +kernel, by decide +kernel, by decide +kernel⟩, by decide +kernel⟩, az_in 1150 (by decide +kernel) (by decide +kernel), az_in 1151 (by decide +kernel) (by decide +kernel)⟩
theorem okX8_isFoundIn : az_OV mX8_isFoundIn 2 := ⟨⟨az_in 1156 (by decide +kernel) (by decide +kernel), az_in 110 (by decide +kernel) (by decide +kernel), ⟨by decide +kernel, by decide +kernel, by decide +kernel⟩, by decide +kernel⟩, az_in 1155 (by decide +kernel) (by decide +kernel), az_in 97 (by decide +kernel) (by decide +kernel)⟩
theorem okX8_tree : az_OV mX8_tree 0 := ⟨⟨az_in 1164 (by decide +kernel) (by decide +kernel), az_in 110 (by decide +kernel) (by decide +kernel), ⟨by decide +kernel, by decide +kernel, by decide +kernel⟩, by decide +kernel⟩, az_in 1162 (by decide +kernel) (by decide +kernel), az_in 1163 (by decide +kernel) (by decide +kernel)⟩
theorem okX8_isLed : az_OV mX8_isLed 1 := ⟨⟨az_in 1169 (by decide +kernel) (by decide +kernel), az_in 110 (by decide +kernel) (by decide +kernel), ⟨by decide +kernel, by decide +kernel, by decide +kernel⟩, by decide +kernel⟩, az_in 1168 (by decide +kernel) (by decide +kernel), az_in 99 (by decide +kernel) (by decide +kernel)⟩
theorem okX8_only : az_OS mX8_only 1 := ⟨⟨az_in 1172 (by decide +kernel) (by decide +kernel), az_in 110 (by decide +kernel) (by decide +kernel), ⟨by decide +kernel, by decide +kernel, by decide +kernel⟩, by decide +kernel⟩, az_in 1171 (by decide +kernel) (by decide +kernel)⟩
theorem okX8_about : az_OV mX8_about 1 := ⟨⟨az_in 1176 (by decide +kernel) (by decide +kernel), az_in 110 (by decide +kernel) (by decide +kernel), ⟨by decide +kernel, by decide +kernel, by decide +kernel⟩, by decide +kernel⟩, az_in 1174 (by decide +kernel) (by decide +kernel), az_in 1175 (by decide +kernel) (by decide +kernel)⟩
theorem okJ6_numberOfTrailingZeros_0f7a4 : az_OS mJ6_numberOfTrailingZeros_0f7a4 1 := ⟨⟨az_in 617 (by decide +kernel) (by decide +kernel), az_in 113 (by decide +kernel) (by decide +kernel), ⟨by decide +kernel, by decide +kernel, by decide +kernel⟩, by decide +kernel⟩, az_in 616 (by decide +kernel) (by decide +kernel)⟩
theorem okJ6_bitCount_0f7a4 : az_OS mJ6_bitCount_0f7a4 1 := ⟨⟨az_in 527 (by decide +kernel) (by decide +kernel), az_in 113 (by decide +kernel) (by decide +kernel), ⟨by decide +kernel, by decide +kernel, by decide +kernel⟩, by decide +kernel⟩, az_in 526 (by decide +kernel) (by decide +kernel)⟩
theorem okJ9_floorMod_7cf53 : az_OS mJ9_floorMod_7cf53 2 := ⟨⟨az_in 822 (by decide +kernel) (by decide +kernel), az_in 112 (by decide +kernel) (by decide +kernel), ⟨by decide +kernel, by decide +kernel, by decide +kernel⟩, by decide +kernel⟩, az_in 821 (by decide +kernel) (by decide +kernel)⟩
theorem okJ9_max_7cf53 : az_OS mJ9_max_7cf53 2 := ⟨⟨az_in 550 (by decide +kernel) (by decide +kernel), az_in 112 (by decide +kernel) (by decide +kernel), ⟨by decide +kernel, by decide +kernel, by decide +kernel⟩, by decide +kernel⟩, az_in 549 (by decide +kernel) (by decide +kernel)⟩
theorem okJ9_min_7cf53 : az_OS mJ9_min_7cf53 2 := ⟨⟨az_in 399 (by decide +kernel) (by decide +kernel), az_in 112 (by decide +kernel) (by decide +kernel), ⟨by decide +kernel, by decide +kernel, by decide +kernel⟩, by decide +kernel⟩, az_in 398 (by decide +kernel) (by decide +kernel)⟩
theorem okJ7_fill_53178 : az_OS mJ7_fill_53178 2 := ⟨⟨az_in 130 (by decide +kernel) (by decide +kernel), az_in 103 (by decide +kernel) (by decide +kernel), ⟨by decide +kernel, by decide +kernel, by decide +kernel⟩, by decide +kernel⟩, az_in 129 (by decide +kernel) (by decide +kernel)⟩
set_option maxRecDepth 100000 in
theorem iaX0 : ∀ w ∈ u_ws RX0 TX0 8, w ∈ az_tb := by decide +kernel
set_option maxRecDepth 100000 in
theorem iaX1 : ∀ w ∈ u_ws RX1 TX1 10, w ∈ az_tb := by decide +kernel
set_option maxRecDepth 100000 in
theorem iaX2 : ∀ w ∈ u_ws RX2 TX2 12, w ∈ az_tb := by decide +kernel
set_option maxRecDepth 100000 in
theorem iaX3 : ∀ w ∈ u_ws RX3 TX3 3, w ∈ az_tb := by decide +kernel
set_option maxRecDepth 100000 in
theorem iaX4 : ∀ w ∈ u_ws RX4 TX4 2, w ∈ az_tb := by decide +kernel
set_option maxRecDepth 100000 in
theorem iaX5 : ∀ w ∈ u_ws RX5 TX5 8, w ∈ az_tb := by decide +kernel
set_option maxRecDepth 100000 in
theorem iaX6 : ∀ w ∈ u_ws RX6 TX6 2, w ∈ az_tb := by decide +kernel
set_option maxRecDepth 100000 in
theorem iaX7 : ∀ w ∈ u_ws RX7 TX7 9, w ∈ az_tb := by decide +kernel
set_option maxRecDepth 100000 in
theorem iaX8 : ∀ w ∈ u_ws RX8 TX8 16, w ∈ az_tb := by decide +kernel
theorem flX2_9 : az_FL RX2 9 2 0 := ⟨RX2, TX2, 12, rfl, by decide +kernel, iaX2, rfl, Or.inl (az_in 131 (by decide +kernel) (by decide +kernel))⟩
theorem plX2_9 : az_PL RX2 9 2 0 .int := ⟨RX2, TX2, 12, tyX2, rfl, by decide +kernel, iaX2, rfl, Or.inl (az_in 131 (by decide +kernel) (by decide +kernel)), tyX2_ok, nmX2, rfl, rfl⟩
theorem flX5_37 : az_FL RX5 37 2 0 := ⟨RX2, TX2, 12, rfl, by decide +kernel, iaX2, rfl, Or.inr ⟨"WayMarks", az_inN 132 (by decide +kernel) (by decide +kernel)⟩⟩
theorem plX5_37 : az_PL RX5 37 2 0 .int := ⟨RX2, TX2, 12, tyX2, rfl, by decide +kernel, iaX2, rfl, Or.inr ⟨"WayMarks", az_inN 132 (by decide +kernel) (by decide +kernel)⟩, tyX2_ok, nmX2, rfl, rfl⟩
theorem flX7_66 : az_FL RX7 66 2 0 := ⟨RX2, TX2, 12, rfl, by decide +kernel, iaX2, rfl, Or.inr ⟨"WayMarks", az_inN 133 (by decide +kernel) (by decide +kernel)⟩⟩
theorem plX7_66 : az_PL RX7 66 2 0 .int := ⟨RX2, TX2, 12, tyX2, rfl, by decide +kernel, iaX2, rfl, Or.inr ⟨"WayMarks", az_inN 133 (by decide +kernel) (by decide +kernel)⟩, tyX2_ok, nmX2, rfl, rfl⟩
theorem flX0_38 : az_FL RX0 38 2 0 := ⟨RX2, TX2, 12, rfl, by decide +kernel, iaX2, rfl, Or.inr ⟨"WayMarks", az_inN 134 (by decide +kernel) (by decide +kernel)⟩⟩
theorem plX0_38 : az_PL RX0 38 2 0 .int := ⟨RX2, TX2, 12, tyX2, rfl, by decide +kernel, iaX2, rfl, Or.inr ⟨"WayMarks", az_inN 134 (by decide +kernel) (by decide +kernel)⟩, tyX2_ok, nmX2, rfl, rfl⟩
theorem flX1_48 : az_FL RX1 48 2 0 := ⟨RX2, TX2, 12, rfl, by decide +kernel, iaX2, rfl, Or.inr ⟨"WayMarks", az_inN 135 (by decide +kernel) (by decide +kernel)⟩⟩
theorem plX1_48 : az_PL RX1 48 2 0 .int := ⟨RX2, TX2, 12, tyX2, rfl, by decide +kernel, iaX2, rfl, Or.inr ⟨"WayMarks", az_inN 135 (by decide +kernel) (by decide +kernel)⟩, tyX2_ok, nmX2, rfl, rfl⟩
theorem flX2_15 : az_FL RX2 15 2 1 := ⟨RX2, TX2, 12, rfl, by decide +kernel, iaX2, rfl, Or.inl (az_in 136 (by decide +kernel) (by decide +kernel))⟩
theorem plX2_15 : az_PL RX2 15 2 1 .int := ⟨RX2, TX2, 12, tyX2, rfl, by decide +kernel, iaX2, rfl, Or.inl (az_in 136 (by decide +kernel) (by decide +kernel)), tyX2_ok, nmX2, rfl, rfl⟩
theorem flX5_59 : az_FL RX5 59 2 1 := ⟨RX2, TX2, 12, rfl, by decide +kernel, iaX2, rfl, Or.inr ⟨"WayMarks", az_inN 137 (by decide +kernel) (by decide +kernel)⟩⟩
theorem plX5_59 : az_PL RX5 59 2 1 .int := ⟨RX2, TX2, 12, tyX2, rfl, by decide +kernel, iaX2, rfl, Or.inr ⟨"WayMarks", az_inN 137 (by decide +kernel) (by decide +kernel)⟩, tyX2_ok, nmX2, rfl, rfl⟩
theorem flX7_112 : az_FL RX7 112 2 1 := ⟨RX2, TX2, 12, rfl, by decide +kernel, iaX2, rfl, Or.inr ⟨"WayMarks", az_inN 138 (by decide +kernel) (by decide +kernel)⟩⟩
theorem plX7_112 : az_PL RX7 112 2 1 .int := ⟨RX2, TX2, 12, tyX2, rfl, by decide +kernel, iaX2, rfl, Or.inr ⟨"WayMarks", az_inN 138 (by decide +kernel) (by decide +kernel)⟩, tyX2_ok, nmX2, rfl, rfl⟩
theorem flX2_18 : az_FL RX2 18 2 2 := ⟨RX2, TX2, 12, rfl, by decide +kernel, iaX2, rfl, Or.inl (az_in 139 (by decide +kernel) (by decide +kernel))⟩
theorem plX2_18 : az_PL RX2 18 2 2 .int := ⟨RX2, TX2, 12, tyX2, rfl, by decide +kernel, iaX2, rfl, Or.inl (az_in 139 (by decide +kernel) (by decide +kernel)), tyX2_ok, nmX2, rfl, rfl⟩
theorem flX5_77 : az_FL RX5 77 2 2 := ⟨RX2, TX2, 12, rfl, by decide +kernel, iaX2, rfl, Or.inr ⟨"WayMarks", az_inN 140 (by decide +kernel) (by decide +kernel)⟩⟩
theorem plX5_77 : az_PL RX5 77 2 2 .int := ⟨RX2, TX2, 12, tyX2, rfl, by decide +kernel, iaX2, rfl, Or.inr ⟨"WayMarks", az_inN 140 (by decide +kernel) (by decide +kernel)⟩, tyX2_ok, nmX2, rfl, rfl⟩
theorem flX7_115 : az_FL RX7 115 2 2 := ⟨RX2, TX2, 12, rfl, by decide +kernel, iaX2, rfl, Or.inr ⟨"WayMarks", az_inN 141 (by decide +kernel) (by decide +kernel)⟩⟩
theorem plX7_115 : az_PL RX7 115 2 2 .int := ⟨RX2, TX2, 12, tyX2, rfl, by decide +kernel, iaX2, rfl, Or.inr ⟨"WayMarks", az_inN 141 (by decide +kernel) (by decide +kernel)⟩, tyX2_ok, nmX2, rfl, rfl⟩
theorem flX2_21 : az_FL RX2 21 2 3 := ⟨RX2, TX2, 12, rfl, by decide +kernel, iaX2, rfl, Or.inl (az_in 142 (by decide +kernel) (by decide +kernel))⟩
theorem plX2_21 : az_PL RX2 21 2 3 .int := ⟨RX2, TX2, 12, tyX2, rfl, by decide +kernel, iaX2, rfl, Or.inl (az_in 142 (by decide +kernel) (by decide +kernel)), tyX2_ok, nmX2, rfl, rfl⟩
theorem flX7_118 : az_FL RX7 118 2 3 := ⟨RX2, TX2, 12, rfl, by decide +kernel, iaX2, rfl, Or.inr ⟨"WayMarks", az_inN 143 (by decide +kernel) (by decide +kernel)⟩⟩
theorem plX7_118 : az_PL RX7 118 2 3 .int := ⟨RX2, TX2, 12, tyX2, rfl, by decide +kernel, iaX2, rfl, Or.inr ⟨"WayMarks", az_inN 143 (by decide +kernel) (by decide +kernel)⟩, tyX2_ok, nmX2, rfl, rfl⟩
theorem flX2_24 : az_FL RX2 24 2 4 := ⟨RX2, TX2, 12, rfl, by decide +kernel, iaX2, rfl, Or.inl (az_in 144 (by decide +kernel) (by decide +kernel))⟩
theorem plX2_24 : az_PL RX2 24 2 4 .boolean := ⟨RX2, TX2, 12, tyX2, rfl, by decide +kernel, iaX2, rfl, Or.inl (az_in 144 (by decide +kernel) (by decide +kernel)), tyX2_ok, nmX2, rfl, rfl⟩
theorem flX7_121 : az_FL RX7 121 2 4 := ⟨RX2, TX2, 12, rfl, by decide +kernel, iaX2, rfl, Or.inr ⟨"WayMarks", az_inN 145 (by decide +kernel) (by decide +kernel)⟩⟩
theorem plX7_121 : az_PL RX7 121 2 4 .boolean := ⟨RX2, TX2, 12, tyX2, rfl, by decide +kernel, iaX2, rfl, Or.inr ⟨"WayMarks", az_inN 145 (by decide +kernel) (by decide +kernel)⟩, tyX2_ok, nmX2, rfl, rfl⟩
theorem flX2_28 : az_FL RX2 28 2 5 := ⟨RX2, TX2, 12, rfl, by decide +kernel, iaX2, rfl, Or.inl (az_in 146 (by decide +kernel) (by decide +kernel))⟩
theorem plX2_28 : az_PL RX2 28 2 5 .boolean := ⟨RX2, TX2, 12, tyX2, rfl, by decide +kernel, iaX2, rfl, Or.inl (az_in 146 (by decide +kernel) (by decide +kernel)), tyX2_ok, nmX2, rfl, rfl⟩
theorem flX1_82 : az_FL RX1 82 2 5 := ⟨RX2, TX2, 12, rfl, by decide +kernel, iaX2, rfl, Or.inr ⟨"WayMarks", az_inN 147 (by decide +kernel) (by decide +kernel)⟩⟩
theorem plX1_82 : az_PL RX1 82 2 5 .boolean := ⟨RX2, TX2, 12, tyX2, rfl, by decide +kernel, iaX2, rfl, Or.inr ⟨"WayMarks", az_inN 147 (by decide +kernel) (by decide +kernel)⟩, tyX2_ok, nmX2, rfl, rfl⟩
theorem flX7_128 : az_FL RX7 128 2 5 := ⟨RX2, TX2, 12, rfl, by decide +kernel, iaX2, rfl, Or.inr ⟨"WayMarks", az_inN 148 (by decide +kernel) (by decide +kernel)⟩⟩
theorem plX7_128 : az_PL RX7 128 2 5 .boolean := ⟨RX2, TX2, 12, tyX2, rfl, by decide +kernel, iaX2, rfl, Or.inr ⟨"WayMarks", az_inN 148 (by decide +kernel) (by decide +kernel)⟩, tyX2_ok, nmX2, rfl, rfl⟩
theorem flX2_31 : az_FL RX2 31 2 6 := ⟨RX2, TX2, 12, rfl, by decide +kernel, iaX2, rfl, Or.inl (az_in 149 (by decide +kernel) (by decide +kernel))⟩
theorem plX2_31 : az_PL RX2 31 2 6 .int := ⟨RX2, TX2, 12, tyX2, rfl, by decide +kernel, iaX2, rfl, Or.inl (az_in 149 (by decide +kernel) (by decide +kernel)), tyX2_ok, nmX2, rfl, rfl⟩
theorem flX7_201 : az_FL RX7 201 2 6 := ⟨RX2, TX2, 12, rfl, by decide +kernel, iaX2, rfl, Or.inr ⟨"WayMarks", az_inN 150 (by decide +kernel) (by decide +kernel)⟩⟩
theorem plX7_201 : az_PL RX7 201 2 6 .int := ⟨RX2, TX2, 12, tyX2, rfl, by decide +kernel, iaX2, rfl, Or.inr ⟨"WayMarks", az_inN 150 (by decide +kernel) (by decide +kernel)⟩, tyX2_ok, nmX2, rfl, rfl⟩
theorem flX2_34 : az_FL RX2 34 2 7 := ⟨RX2, TX2, 12, rfl, by decide +kernel, iaX2, rfl, Or.inl (az_in 151 (by decide +kernel) (by decide +kernel))⟩
theorem flX5_70 : az_FL RX5 70 2 7 := ⟨RX2, TX2, 12, rfl, by decide +kernel, iaX2, rfl, Or.inr ⟨"WayMarks", az_inN 152 (by decide +kernel) (by decide +kernel)⟩⟩
theorem flX2_38 : az_FL RX2 38 2 8 := ⟨RX2, TX2, 12, rfl, by decide +kernel, iaX2, rfl, Or.inl (az_in 153 (by decide +kernel) (by decide +kernel))⟩
theorem flX5_80 : az_FL RX5 80 2 8 := ⟨RX2, TX2, 12, rfl, by decide +kernel, iaX2, rfl, Or.inr ⟨"WayMarks", az_inN 154 (by decide +kernel) (by decide +kernel)⟩⟩
theorem flX7_102 : az_FL RX7 102 2 8 := ⟨RX2, TX2, 12, rfl, by decide +kernel, iaX2, rfl, Or.inr ⟨"WayMarks", az_inN 155 (by decide +kernel) (by decide +kernel)⟩⟩
theorem flX2_41 : az_FL RX2 41 2 9 := ⟨RX2, TX2, 12, rfl, by decide +kernel, iaX2, rfl, Or.inl (az_in 156 (by decide +kernel) (by decide +kernel))⟩
theorem flX1_51 : az_FL RX1 51 2 9 := ⟨RX2, TX2, 12, rfl, by decide +kernel, iaX2, rfl, Or.inr ⟨"WayMarks", az_inN 157 (by decide +kernel) (by decide +kernel)⟩⟩
theorem flX7_106 : az_FL RX7 106 2 9 := ⟨RX2, TX2, 12, rfl, by decide +kernel, iaX2, rfl, Or.inr ⟨"WayMarks", az_inN 158 (by decide +kernel) (by decide +kernel)⟩⟩
theorem flX2_44 : az_FL RX2 44 2 10 := ⟨RX2, TX2, 12, rfl, by decide +kernel, iaX2, rfl, Or.inl (az_in 159 (by decide +kernel) (by decide +kernel))⟩
theorem flX0_55 : az_FL RX0 55 2 10 := ⟨RX2, TX2, 12, rfl, by decide +kernel, iaX2, rfl, Or.inr ⟨"WayMarks", az_inN 160 (by decide +kernel) (by decide +kernel)⟩⟩
theorem flX7_109 : az_FL RX7 109 2 10 := ⟨RX2, TX2, 12, rfl, by decide +kernel, iaX2, rfl, Or.inr ⟨"WayMarks", az_inN 161 (by decide +kernel) (by decide +kernel)⟩⟩
theorem flX2_47 : az_FL RX2 47 2 11 := ⟨RX2, TX2, 12, rfl, by decide +kernel, iaX2, rfl, Or.inl (az_in 162 (by decide +kernel) (by decide +kernel))⟩
theorem flX7_204 : az_FL RX7 204 2 11 := ⟨RX2, TX2, 12, rfl, by decide +kernel, iaX2, rfl, Or.inr ⟨"WayMarks", az_inN 163 (by decide +kernel) (by decide +kernel)⟩⟩
theorem flX3_11 : az_FL RX3 11 3 0 := ⟨RX3, TX3, 3, rfl, by decide +kernel, iaX3, rfl, Or.inl (az_in 199 (by decide +kernel) (by decide +kernel))⟩
theorem flX3_17 : az_FL RX3 17 3 1 := ⟨RX3, TX3, 3, rfl, by decide +kernel, iaX3, rfl, Or.inl (az_in 200 (by decide +kernel) (by decide +kernel))⟩
theorem plX3_17 : az_PL RX3 17 3 1 .int := ⟨RX3, TX3, 3, tyX3, rfl, by decide +kernel, iaX3, rfl, Or.inl (az_in 200 (by decide +kernel) (by decide +kernel)), tyX3_ok, nmX3, rfl, rfl⟩
theorem flX3_21 : az_FL RX3 21 3 2 := ⟨RX3, TX3, 3, rfl, by decide +kernel, iaX3, rfl, Or.inl (az_in 201 (by decide +kernel) (by decide +kernel))⟩
theorem plX3_21 : az_PL RX3 21 3 2 .int := ⟨RX3, TX3, 3, tyX3, rfl, by decide +kernel, iaX3, rfl, Or.inl (az_in 201 (by decide +kernel) (by decide +kernel)), tyX3_ok, nmX3, rfl, rfl⟩
theorem flX7_236 : az_FL RX7 236 3 2 := ⟨RX3, TX3, 3, rfl, by decide +kernel, iaX3, rfl, Or.inr ⟨"WayMarks", az_inN 202 (by decide +kernel) (by decide +kernel)⟩⟩
theorem plX7_236 : az_PL RX7 236 3 2 .int := ⟨RX3, TX3, 3, tyX3, rfl, by decide +kernel, iaX3, rfl, Or.inr ⟨"WayMarks", az_inN 202 (by decide +kernel) (by decide +kernel)⟩, tyX3_ok, nmX3, rfl, rfl⟩
theorem flX6_9 : az_FL RX6 9 6 0 := ⟨RX6, TX6, 2, rfl, by decide +kernel, iaX6, rfl, Or.inl (az_in 216 (by decide +kernel) (by decide +kernel))⟩
theorem flX6_15 : az_FL RX6 15 6 1 := ⟨RX6, TX6, 2, rfl, by decide +kernel, iaX6, rfl, Or.inl (az_in 217 (by decide +kernel) (by decide +kernel))⟩
theorem plX6_15 : az_PL RX6 15 6 1 .int := ⟨RX6, TX6, 2, tyX6, rfl, by decide +kernel, iaX6, rfl, Or.inl (az_in 217 (by decide +kernel) (by decide +kernel)), tyX6_ok, nmX6, rfl, rfl⟩
theorem flX7_95 : az_FL RX7 95 6 1 := ⟨RX6, TX6, 2, rfl, by decide +kernel, iaX6, rfl, Or.inr ⟨"WayMarks", az_inN 218 (by decide +kernel) (by decide +kernel)⟩⟩
theorem plX7_95 : az_PL RX7 95 6 1 .int := ⟨RX6, TX6, 2, tyX6, rfl, by decide +kernel, iaX6, rfl, Or.inr ⟨"WayMarks", az_inN 218 (by decide +kernel) (by decide +kernel)⟩, tyX6_ok, nmX6, rfl, rfl⟩
theorem flX5_9 : az_FL RX5 9 5 0 := ⟨RX5, TX5, 8, rfl, by decide +kernel, iaX5, rfl, Or.inl (az_in 230 (by decide +kernel) (by decide +kernel))⟩
theorem plX5_9 : az_PL RX5 9 5 0 .int := ⟨RX5, TX5, 8, tyX5, rfl, by decide +kernel, iaX5, rfl, Or.inl (az_in 230 (by decide +kernel) (by decide +kernel)), tyX5_ok, nmX5, rfl, rfl⟩
theorem flX4_18 : az_FL RX4 18 5 0 := ⟨RX5, TX5, 8, rfl, by decide +kernel, iaX5, rfl, Or.inr ⟨"WayMarks", az_inN 231 (by decide +kernel) (by decide +kernel)⟩⟩
theorem plX4_18 : az_PL RX4 18 5 0 .int := ⟨RX5, TX5, 8, tyX5, rfl, by decide +kernel, iaX5, rfl, Or.inr ⟨"WayMarks", az_inN 231 (by decide +kernel) (by decide +kernel)⟩, tyX5_ok, nmX5, rfl, rfl⟩
theorem flX5_15 : az_FL RX5 15 5 1 := ⟨RX5, TX5, 8, rfl, by decide +kernel, iaX5, rfl, Or.inl (az_in 232 (by decide +kernel) (by decide +kernel))⟩
theorem flX4_44 : az_FL RX4 44 5 1 := ⟨RX5, TX5, 8, rfl, by decide +kernel, iaX5, rfl, Or.inr ⟨"WayMarks", az_inN 233 (by decide +kernel) (by decide +kernel)⟩⟩
theorem flX5_19 : az_FL RX5 19 5 2 := ⟨RX5, TX5, 8, rfl, by decide +kernel, iaX5, rfl, Or.inl (az_in 234 (by decide +kernel) (by decide +kernel))⟩
theorem flX7_135 : az_FL RX7 135 5 2 := ⟨RX5, TX5, 8, rfl, by decide +kernel, iaX5, rfl, Or.inr ⟨"WayMarks", az_inN 235 (by decide +kernel) (by decide +kernel)⟩⟩
theorem flX5_22 : az_FL RX5 22 5 3 := ⟨RX5, TX5, 8, rfl, by decide +kernel, iaX5, rfl, Or.inl (az_in 236 (by decide +kernel) (by decide +kernel))⟩
theorem flX7_149 : az_FL RX7 149 5 3 := ⟨RX5, TX5, 8, rfl, by decide +kernel, iaX5, rfl, Or.inr ⟨"WayMarks", az_inN 237 (by decide +kernel) (by decide +kernel)⟩⟩
theorem flX5_25 : az_FL RX5 25 5 4 := ⟨RX5, TX5, 8, rfl, by decide +kernel, iaX5, rfl, Or.inl (az_in 238 (by decide +kernel) (by decide +kernel))⟩
theorem flX1_75 : az_FL RX1 75 5 4 := ⟨RX5, TX5, 8, rfl, by decide +kernel, iaX5, rfl, Or.inr ⟨"WayMarks", az_inN 239 (by decide +kernel) (by decide +kernel)⟩⟩
theorem flX7_164 : az_FL RX7 164 5 4 := ⟨RX5, TX5, 8, rfl, by decide +kernel, iaX5, rfl, Or.inr ⟨"WayMarks", az_inN 240 (by decide +kernel) (by decide +kernel)⟩⟩
theorem flX5_28 : az_FL RX5 28 5 5 := ⟨RX5, TX5, 8, rfl, by decide +kernel, iaX5, rfl, Or.inl (az_in 241 (by decide +kernel) (by decide +kernel))⟩
theorem flX1_86 : az_FL RX1 86 5 5 := ⟨RX5, TX5, 8, rfl, by decide +kernel, iaX5, rfl, Or.inr ⟨"WayMarks", az_inN 242 (by decide +kernel) (by decide +kernel)⟩⟩
theorem flX5_31 : az_FL RX5 31 5 6 := ⟨RX5, TX5, 8, rfl, by decide +kernel, iaX5, rfl, Or.inl (az_in 243 (by decide +kernel) (by decide +kernel))⟩
theorem flX0_63 : az_FL RX0 63 5 6 := ⟨RX5, TX5, 8, rfl, by decide +kernel, iaX5, rfl, Or.inr ⟨"WayMarks", az_inN 244 (by decide +kernel) (by decide +kernel)⟩⟩
theorem flX4_57 : az_FL RX4 57 5 6 := ⟨RX5, TX5, 8, rfl, by decide +kernel, iaX5, rfl, Or.inr ⟨"WayMarks", az_inN 245 (by decide +kernel) (by decide +kernel)⟩⟩
theorem flX5_34 : az_FL RX5 34 5 7 := ⟨RX5, TX5, 8, rfl, by decide +kernel, iaX5, rfl, Or.inl (az_in 246 (by decide +kernel) (by decide +kernel))⟩
theorem flX0_62 : az_FL RX0 62 5 7 := ⟨RX5, TX5, 8, rfl, by decide +kernel, iaX5, rfl, Or.inr ⟨"WayMarks", az_inN 247 (by decide +kernel) (by decide +kernel)⟩⟩
theorem flX4_54 : az_FL RX4 54 5 7 := ⟨RX5, TX5, 8, rfl, by decide +kernel, iaX5, rfl, Or.inr ⟨"WayMarks", az_inN 248 (by decide +kernel) (by decide +kernel)⟩⟩
theorem flX1_9 : az_FL RX1 9 1 0 := ⟨RX1, TX1, 10, rfl, by decide +kernel, iaX1, rfl, Or.inl (az_in 272 (by decide +kernel) (by decide +kernel))⟩
theorem flX1_15 : az_FL RX1 15 1 1 := ⟨RX1, TX1, 10, rfl, by decide +kernel, iaX1, rfl, Or.inl (az_in 273 (by decide +kernel) (by decide +kernel))⟩
theorem plX1_15 : az_PL RX1 15 1 1 .int := ⟨RX1, TX1, 10, tyX1, rfl, by decide +kernel, iaX1, rfl, Or.inl (az_in 273 (by decide +kernel) (by decide +kernel)), tyX1_ok, nmX1, rfl, rfl⟩
theorem flX1_19 : az_FL RX1 19 1 2 := ⟨RX1, TX1, 10, rfl, by decide +kernel, iaX1, rfl, Or.inl (az_in 274 (by decide +kernel) (by decide +kernel))⟩
theorem plX1_19 : az_PL RX1 19 1 2 .int := ⟨RX1, TX1, 10, tyX1, rfl, by decide +kernel, iaX1, rfl, Or.inl (az_in 274 (by decide +kernel) (by decide +kernel)), tyX1_ok, nmX1, rfl, rfl⟩
theorem flX1_22 : az_FL RX1 22 1 3 := ⟨RX1, TX1, 10, rfl, by decide +kernel, iaX1, rfl, Or.inl (az_in 275 (by decide +kernel) (by decide +kernel))⟩
theorem flX1_25 : az_FL RX1 25 1 4 := ⟨RX1, TX1, 10, rfl, by decide +kernel, iaX1, rfl, Or.inl (az_in 276 (by decide +kernel) (by decide +kernel))⟩
theorem plX1_25 : az_PL RX1 25 1 4 .int := ⟨RX1, TX1, 10, tyX1, rfl, by decide +kernel, iaX1, rfl, Or.inl (az_in 276 (by decide +kernel) (by decide +kernel)), tyX1_ok, nmX1, rfl, rfl⟩
theorem flX1_28 : az_FL RX1 28 1 5 := ⟨RX1, TX1, 10, rfl, by decide +kernel, iaX1, rfl, Or.inl (az_in 277 (by decide +kernel) (by decide +kernel))⟩
theorem plX1_28 : az_PL RX1 28 1 5 .int := ⟨RX1, TX1, 10, tyX1, rfl, by decide +kernel, iaX1, rfl, Or.inl (az_in 277 (by decide +kernel) (by decide +kernel)), tyX1_ok, nmX1, rfl, rfl⟩
theorem flX1_31 : az_FL RX1 31 1 6 := ⟨RX1, TX1, 10, rfl, by decide +kernel, iaX1, rfl, Or.inl (az_in 278 (by decide +kernel) (by decide +kernel))⟩
theorem plX1_31 : az_PL RX1 31 1 6 .int := ⟨RX1, TX1, 10, tyX1, rfl, by decide +kernel, iaX1, rfl, Or.inl (az_in 278 (by decide +kernel) (by decide +kernel)), tyX1_ok, nmX1, rfl, rfl⟩
theorem flX1_34 : az_FL RX1 34 1 7 := ⟨RX1, TX1, 10, rfl, by decide +kernel, iaX1, rfl, Or.inl (az_in 279 (by decide +kernel) (by decide +kernel))⟩
theorem plX1_34 : az_PL RX1 34 1 7 .int := ⟨RX1, TX1, 10, tyX1, rfl, by decide +kernel, iaX1, rfl, Or.inl (az_in 279 (by decide +kernel) (by decide +kernel)), tyX1_ok, nmX1, rfl, rfl⟩
theorem flX7_251 : az_FL RX7 251 1 7 := ⟨RX1, TX1, 10, rfl, by decide +kernel, iaX1, rfl, Or.inr ⟨"WayMarks", az_inN 280 (by decide +kernel) (by decide +kernel)⟩⟩
theorem plX7_251 : az_PL RX7 251 1 7 .int := ⟨RX1, TX1, 10, tyX1, rfl, by decide +kernel, iaX1, rfl, Or.inr ⟨"WayMarks", az_inN 280 (by decide +kernel) (by decide +kernel)⟩, tyX1_ok, nmX1, rfl, rfl⟩
theorem flX1_37 : az_FL RX1 37 1 8 := ⟨RX1, TX1, 10, rfl, by decide +kernel, iaX1, rfl, Or.inl (az_in 281 (by decide +kernel) (by decide +kernel))⟩
theorem plX1_37 : az_PL RX1 37 1 8 .int := ⟨RX1, TX1, 10, tyX1, rfl, by decide +kernel, iaX1, rfl, Or.inl (az_in 281 (by decide +kernel) (by decide +kernel)), tyX1_ok, nmX1, rfl, rfl⟩
theorem flX7_248 : az_FL RX7 248 1 8 := ⟨RX1, TX1, 10, rfl, by decide +kernel, iaX1, rfl, Or.inr ⟨"WayMarks", az_inN 282 (by decide +kernel) (by decide +kernel)⟩⟩
theorem plX7_248 : az_PL RX7 248 1 8 .int := ⟨RX1, TX1, 10, tyX1, rfl, by decide +kernel, iaX1, rfl, Or.inr ⟨"WayMarks", az_inN 282 (by decide +kernel) (by decide +kernel)⟩, tyX1_ok, nmX1, rfl, rfl⟩
theorem flX1_40 : az_FL RX1 40 1 9 := ⟨RX1, TX1, 10, rfl, by decide +kernel, iaX1, rfl, Or.inl (az_in 283 (by decide +kernel) (by decide +kernel))⟩
theorem plX1_40 : az_PL RX1 40 1 9 .int := ⟨RX1, TX1, 10, tyX1, rfl, by decide +kernel, iaX1, rfl, Or.inl (az_in 283 (by decide +kernel) (by decide +kernel)), tyX1_ok, nmX1, rfl, rfl⟩
theorem flX7_183 : az_FL RX7 183 1 9 := ⟨RX1, TX1, 10, rfl, by decide +kernel, iaX1, rfl, Or.inr ⟨"WayMarks", az_inN 284 (by decide +kernel) (by decide +kernel)⟩⟩
theorem plX7_183 : az_PL RX7 183 1 9 .int := ⟨RX1, TX1, 10, tyX1, rfl, by decide +kernel, iaX1, rfl, Or.inr ⟨"WayMarks", az_inN 284 (by decide +kernel) (by decide +kernel)⟩, tyX1_ok, nmX1, rfl, rfl⟩
theorem flX0_9 : az_FL RX0 9 0 0 := ⟨RX0, TX0, 8, rfl, by decide +kernel, iaX0, rfl, Or.inl (az_in 312 (by decide +kernel) (by decide +kernel))⟩
theorem flX0_15 : az_FL RX0 15 0 1 := ⟨RX0, TX0, 8, rfl, by decide +kernel, iaX0, rfl, Or.inl (az_in 313 (by decide +kernel) (by decide +kernel))⟩
theorem flX0_18 : az_FL RX0 18 0 2 := ⟨RX0, TX0, 8, rfl, by decide +kernel, iaX0, rfl, Or.inl (az_in 314 (by decide +kernel) (by decide +kernel))⟩
theorem flX0_21 : az_FL RX0 21 0 3 := ⟨RX0, TX0, 8, rfl, by decide +kernel, iaX0, rfl, Or.inl (az_in 315 (by decide +kernel) (by decide +kernel))⟩
theorem plX0_21 : az_PL RX0 21 0 3 .int := ⟨RX0, TX0, 8, tyX0, rfl, by decide +kernel, iaX0, rfl, Or.inl (az_in 315 (by decide +kernel) (by decide +kernel)), tyX0_ok, nmX0, rfl, rfl⟩
theorem flX0_25 : az_FL RX0 25 0 4 := ⟨RX0, TX0, 8, rfl, by decide +kernel, iaX0, rfl, Or.inl (az_in 316 (by decide +kernel) (by decide +kernel))⟩
theorem plX0_25 : az_PL RX0 25 0 4 .int := ⟨RX0, TX0, 8, tyX0, rfl, by decide +kernel, iaX0, rfl, Or.inl (az_in 316 (by decide +kernel) (by decide +kernel)), tyX0_ok, nmX0, rfl, rfl⟩
theorem flX0_28 : az_FL RX0 28 0 5 := ⟨RX0, TX0, 8, rfl, by decide +kernel, iaX0, rfl, Or.inl (az_in 317 (by decide +kernel) (by decide +kernel))⟩
theorem plX0_28 : az_PL RX0 28 0 5 .boolean := ⟨RX0, TX0, 8, tyX0, rfl, by decide +kernel, iaX0, rfl, Or.inl (az_in 317 (by decide +kernel) (by decide +kernel)), tyX0_ok, nmX0, rfl, rfl⟩
theorem flX0_32 : az_FL RX0 32 0 6 := ⟨RX0, TX0, 8, rfl, by decide +kernel, iaX0, rfl, Or.inl (az_in 318 (by decide +kernel) (by decide +kernel))⟩
theorem flX0_35 : az_FL RX0 35 0 7 := ⟨RX0, TX0, 8, rfl, by decide +kernel, iaX0, rfl, Or.inl (az_in 319 (by decide +kernel) (by decide +kernel))⟩
theorem flX4_11 : az_FL RX4 11 4 0 := ⟨RX4, TX4, 2, rfl, by decide +kernel, iaX4, rfl, Or.inl (az_in 343 (by decide +kernel) (by decide +kernel))⟩
theorem flX4_15 : az_FL RX4 15 4 1 := ⟨RX4, TX4, 2, rfl, by decide +kernel, iaX4, rfl, Or.inl (az_in 344 (by decide +kernel) (by decide +kernel))⟩
theorem flX7_12 : az_FL RX7 12 7 0 := ⟨RX7, TX7, 9, rfl, by decide +kernel, iaX7, rfl, Or.inl (az_in 350 (by decide +kernel) (by decide +kernel))⟩
theorem flX7_19 : az_FL RX7 19 7 1 := ⟨RX7, TX7, 9, rfl, by decide +kernel, iaX7, rfl, Or.inl (az_in 351 (by decide +kernel) (by decide +kernel))⟩
theorem flX7_26 : az_FL RX7 26 7 2 := ⟨RX7, TX7, 9, rfl, by decide +kernel, iaX7, rfl, Or.inl (az_in 352 (by decide +kernel) (by decide +kernel))⟩
theorem flX7_33 : az_FL RX7 33 7 3 := ⟨RX7, TX7, 9, rfl, by decide +kernel, iaX7, rfl, Or.inl (az_in 353 (by decide +kernel) (by decide +kernel))⟩
theorem flX7_40 : az_FL RX7 40 7 4 := ⟨RX7, TX7, 9, rfl, by decide +kernel, iaX7, rfl, Or.inl (az_in 354 (by decide +kernel) (by decide +kernel))⟩
theorem flX7_47 : az_FL RX7 47 7 5 := ⟨RX7, TX7, 9, rfl, by decide +kernel, iaX7, rfl, Or.inl (az_in 355 (by decide +kernel) (by decide +kernel))⟩
theorem flX7_54 : az_FL RX7 54 7 6 := ⟨RX7, TX7, 9, rfl, by decide +kernel, iaX7, rfl, Or.inl (az_in 356 (by decide +kernel) (by decide +kernel))⟩
theorem flX7_58 : az_FL RX7 58 7 7 := ⟨RX7, TX7, 9, rfl, by decide +kernel, iaX7, rfl, Or.inl (az_in 357 (by decide +kernel) (by decide +kernel))⟩
theorem plX7_58 : az_PL RX7 58 7 7 .boolean := ⟨RX7, TX7, 9, tyX7, rfl, by decide +kernel, iaX7, rfl, Or.inl (az_in 357 (by decide +kernel) (by decide +kernel)), tyX7_ok, nmX7, rfl, rfl⟩
theorem flX7_62 : az_FL RX7 62 7 8 := ⟨RX7, TX7, 9, rfl, by decide +kernel, iaX7, rfl, Or.inl (az_in 358 (by decide +kernel) (by decide +kernel))⟩
theorem plX7_62 : az_PL RX7 62 7 8 .int := ⟨RX7, TX7, 9, tyX7, rfl, by decide +kernel, iaX7, rfl, Or.inl (az_in 358 (by decide +kernel) (by decide +kernel)), tyX7_ok, nmX7, rfl, rfl⟩
theorem flX8_7 : az_FL RX8 7 8 0 := ⟨RX8, TX8, 16, rfl, by decide +kernel, iaX8, rfl, Or.inl (az_in 856 (by decide +kernel) (by decide +kernel))⟩
theorem flX8_14 : az_FL RX8 14 8 1 := ⟨RX8, TX8, 16, rfl, by decide +kernel, iaX8, rfl, Or.inl (az_in 857 (by decide +kernel) (by decide +kernel))⟩
theorem flX8_59 : az_FL RX8 59 8 2 := ⟨RX8, TX8, 16, rfl, by decide +kernel, iaX8, rfl, Or.inl (az_in 858 (by decide +kernel) (by decide +kernel))⟩
theorem plX8_59 : az_PL RX8 59 8 2 .int := ⟨RX8, TX8, 16, tyX8, rfl, by decide +kernel, iaX8, rfl, Or.inl (az_in 858 (by decide +kernel) (by decide +kernel)), tyX8_ok, nmX8, rfl, rfl⟩
theorem flX8_55 : az_FL RX8 55 8 3 := ⟨RX8, TX8, 16, rfl, by decide +kernel, iaX8, rfl, Or.inl (az_in 859 (by decide +kernel) (by decide +kernel))⟩
theorem plX8_55 : az_PL RX8 55 8 3 .int := ⟨RX8, TX8, 16, tyX8, rfl, by decide +kernel, iaX8, rfl, Or.inl (az_in 859 (by decide +kernel) (by decide +kernel)), tyX8_ok, nmX8, rfl, rfl⟩
theorem flX8_17 : az_FL RX8 17 8 4 := ⟨RX8, TX8, 16, rfl, by decide +kernel, iaX8, rfl, Or.inl (az_in 860 (by decide +kernel) (by decide +kernel))⟩
theorem flX8_89 : az_FL RX8 89 8 5 := ⟨RX8, TX8, 16, rfl, by decide +kernel, iaX8, rfl, Or.inl (az_in 861 (by decide +kernel) (by decide +kernel))⟩
theorem plX8_89 : az_PL RX8 89 8 5 .int := ⟨RX8, TX8, 16, tyX8, rfl, by decide +kernel, iaX8, rfl, Or.inl (az_in 861 (by decide +kernel) (by decide +kernel)), tyX8_ok, nmX8, rfl, rfl⟩
theorem flX8_140 : az_FL RX8 140 8 6 := ⟨RX8, TX8, 16, rfl, by decide +kernel, iaX8, rfl, Or.inl (az_in 862 (by decide +kernel) (by decide +kernel))⟩
theorem plX8_140 : az_PL RX8 140 8 6 .int := ⟨RX8, TX8, 16, tyX8, rfl, by decide +kernel, iaX8, rfl, Or.inl (az_in 862 (by decide +kernel) (by decide +kernel)), tyX8_ok, nmX8, rfl, rfl⟩
theorem flX8_20 : az_FL RX8 20 8 7 := ⟨RX8, TX8, 16, rfl, by decide +kernel, iaX8, rfl, Or.inl (az_in 863 (by decide +kernel) (by decide +kernel))⟩
theorem flX8_23 : az_FL RX8 23 8 8 := ⟨RX8, TX8, 16, rfl, by decide +kernel, iaX8, rfl, Or.inl (az_in 864 (by decide +kernel) (by decide +kernel))⟩
theorem flX8_26 : az_FL RX8 26 8 9 := ⟨RX8, TX8, 16, rfl, by decide +kernel, iaX8, rfl, Or.inl (az_in 865 (by decide +kernel) (by decide +kernel))⟩
theorem flX8_29 : az_FL RX8 29 8 10 := ⟨RX8, TX8, 16, rfl, by decide +kernel, iaX8, rfl, Or.inl (az_in 866 (by decide +kernel) (by decide +kernel))⟩
theorem flX8_32 : az_FL RX8 32 8 11 := ⟨RX8, TX8, 16, rfl, by decide +kernel, iaX8, rfl, Or.inl (az_in 867 (by decide +kernel) (by decide +kernel))⟩
theorem flX8_36 : az_FL RX8 36 8 12 := ⟨RX8, TX8, 16, rfl, by decide +kernel, iaX8, rfl, Or.inl (az_in 868 (by decide +kernel) (by decide +kernel))⟩
theorem flX8_39 : az_FL RX8 39 8 13 := ⟨RX8, TX8, 16, rfl, by decide +kernel, iaX8, rfl, Or.inl (az_in 869 (by decide +kernel) (by decide +kernel))⟩
theorem flX8_42 : az_FL RX8 42 8 14 := ⟨RX8, TX8, 16, rfl, by decide +kernel, iaX8, rfl, Or.inl (az_in 870 (by decide +kernel) (by decide +kernel))⟩
theorem flX8_45 : az_FL RX8 45 8 15 := ⟨RX8, TX8, 16, rfl, by decide +kernel, iaX8, rfl, Or.inl (az_in 871 (by decide +kernel) (by decide +kernel))⟩
theorem lsX2_50 : Cond.methodLink RX2 50 yJ7_fill_53178 ∈ az_tb := az_in 128 (by decide +kernel) (by decide +kernel)
theorem lkL_13 : az_Lk RL 13 yX7_post := Or.inl (az_in 378 (by decide +kernel) (by decide +kernel))
theorem lkX7_69 : az_Lk RX7 69 yX7_beforeAct := Or.inl (az_in 382 (by decide +kernel) (by decide +kernel))
theorem lkX7_241 : az_Lk RX7 241 yX3_keep := Or.inr ⟨"WayMarks", az_inN 386 (by decide +kernel) (by decide +kernel)⟩
theorem lkX3_25 : az_Lk RX3 25 yX2_become := Or.inr ⟨"WayMarks", az_inN 390 (by decide +kernel) (by decide +kernel)⟩
theorem lsX2_56 : Cond.methodLink RX2 56 arraycopyName ∈ az_tb := az_in 394 (by decide +kernel) (by decide +kernel)
theorem lsX3_29 : Cond.methodLink RX3 29 yJ9_min_7cf53 ∈ az_tb := az_in 397 (by decide +kernel) (by decide +kernel)
theorem lkL_18 : az_Lk RL 18 yX7_road := Or.inl (az_in 400 (by decide +kernel) (by decide +kernel))
theorem lkX7_72 : az_Lk RX7 72 yX2_roadCanBe := Or.inr ⟨"WayMarks", az_inN 404 (by decide +kernel) (by decide +kernel)⟩
theorem lkX2_62 : az_Lk RX2 62 yX2_isPost := Or.inl (az_in 408 (by decide +kernel) (by decide +kernel))
theorem lkX2_66 : az_Lk RX2 66 yX2_hasRoad := Or.inl (az_in 412 (by decide +kernel) (by decide +kernel))
theorem lkX7_76 : az_Lk RX7 76 yX2_layRoad := Or.inr ⟨"WayMarks", az_inN 416 (by decide +kernel) (by decide +kernel)⟩
theorem lkL_23 : az_Lk RL 23 yX7_cut := Or.inl (az_in 420 (by decide +kernel) (by decide +kernel))
theorem lkX7_80 : az_Lk RX7 80 yX2_isPost := Or.inr ⟨"WayMarks", az_inN 424 (by decide +kernel) (by decide +kernel)⟩
theorem lkX7_84 : az_Lk RX7 84 yX2_hasRoad := Or.inr ⟨"WayMarks", az_inN 425 (by decide +kernel) (by decide +kernel)⟩
theorem lkL_28 : az_Lk RL 28 yX7_feed := Or.inl (az_in 426 (by decide +kernel) (by decide +kernel))
theorem lkX7_88 : az_Lk RX7 88 yX6_hasRoomFor := Or.inr ⟨"WayMarks", az_inN 430 (by decide +kernel) (by decide +kernel)⟩
theorem lkX7_91 : az_Lk RX7 91 yX6_takeFour := Or.inr ⟨"WayMarks", az_inN 434 (by decide +kernel) (by decide +kernel)⟩
theorem lkL_33 : az_Lk RL 33 yX7_roads := Or.inl (az_in 438 (by decide +kernel) (by decide +kernel))
theorem lkX7_98 : az_Lk RX7 98 yX6_byteAt := Or.inr ⟨"WayMarks", az_inN 442 (by decide +kernel) (by decide +kernel)⟩
theorem lkL_38 : az_Lk RL 38 yX7_reach := Or.inl (az_in 446 (by decide +kernel) (by decide +kernel))
theorem lkL_42 : az_Lk RL 42 yX7_price := Or.inl (az_in 450 (by decide +kernel) (by decide +kernel))
theorem lkL_46 : az_Lk RL 46 yX7_chance := Or.inl (az_in 454 (by decide +kernel) (by decide +kernel))
theorem lkL_50 : az_Lk RL 50 yX7_rule := Or.inl (az_in 458 (by decide +kernel) (by decide +kernel))
theorem lkL_54 : az_Lk RL 54 yX7_may := Or.inl (az_in 462 (by decide +kernel) (by decide +kernel))
theorem lkX7_124 : az_Lk RX7 124 yX2_need := Or.inr ⟨"WayMarks", az_inN 466 (by decide +kernel) (by decide +kernel)⟩
theorem lkL_59 : az_Lk RL 59 yX7_want := Or.inl (az_in 470 (by decide +kernel) (by decide +kernel))
theorem lkL_64 : az_Lk RL 64 yX7_way := Or.inl (az_in 474 (by decide +kernel) (by decide +kernel))
theorem lkX7_131 : az_Lk RX7 131 yX7_freshSight := Or.inl (az_in 478 (by decide +kernel) (by decide +kernel))
theorem lkX7_245 : az_Lk RX7 245 yX5_look := Or.inr ⟨"WayMarks", az_inN 482 (by decide +kernel) (by decide +kernel)⟩
theorem lkX5_40 : az_Lk RX5 40 yX2_besideBits := Or.inr ⟨"WayMarks", az_inN 486 (by decide +kernel) (by decide +kernel)⟩
theorem lkX5_44 : az_Lk RX5 44 yX5_findWays := Or.inl (az_in 490 (by decide +kernel) (by decide +kernel))
theorem lkX5_66 : az_Lk RX5 66 yX2_hasRoad := Or.inr ⟨"WayMarks", az_inN 494 (by decide +kernel) (by decide +kernel)⟩
theorem lkX5_73 : az_Lk RX5 73 yX5_shortenWays := Or.inl (az_in 496 (by decide +kernel) (by decide +kernel))
theorem lkX5_48 : az_Lk RX5 48 yX5_answerOf := Or.inl (az_in 500 (by decide +kernel) (by decide +kernel))
theorem lkX5_52 : az_Lk RX5 52 yX5_groupPosts := Or.inl (az_in 504 (by decide +kernel) (by decide +kernel))
theorem lkX5_83 : az_Lk RX5 83 yX5_sameAnswer := Or.inl (az_in 508 (by decide +kernel) (by decide +kernel))
theorem lkX5_56 : az_Lk RX5 56 yX5_findParters := Or.inl (az_in 512 (by decide +kernel) (by decide +kernel))
theorem lkX5_63 : az_Lk RX5 63 yX5_findYes := Or.inl (az_in 516 (by decide +kernel) (by decide +kernel))
theorem lkL_69 : az_Lk RL 69 yX7_of := Or.inl (az_in 520 (by decide +kernel) (by decide +kernel))
theorem lkX7_138 : az_Lk RX7 138 yX2_besideBits := Or.inr ⟨"WayMarks", az_inN 524 (by decide +kernel) (by decide +kernel)⟩
theorem lsX7_141 : Cond.methodLink RX7 141 yJ6_bitCount_0f7a4 ∈ az_tb := az_in 525 (by decide +kernel) (by decide +kernel)
theorem lkX7_146 : az_Lk RX7 146 yX5_countReachedFrom := Or.inr ⟨"WayMarks", az_inN 531 (by decide +kernel) (by decide +kernel)⟩
theorem lkL_73 : az_Lk RL 73 yX7_answer := Or.inl (az_in 535 (by decide +kernel) (by decide +kernel))
theorem lkL_77 : az_Lk RL 77 yX7_parts := Or.inl (az_in 539 (by decide +kernel) (by decide +kernel))
theorem lkX7_152 : az_Lk RX7 152 yX2_isSet := Or.inr ⟨"WayMarks", az_inN 543 (by decide +kernel) (by decide +kernel)⟩
theorem lsX7_155 : Cond.methodLink RX7 155 yJ9_min_7cf53 ∈ az_tb := az_in 547 (by decide +kernel) (by decide +kernel)
theorem lsX7_161 : Cond.methodLink RX7 161 yJ9_max_7cf53 ∈ az_tb := az_in 548 (by decide +kernel) (by decide +kernel)
theorem lkL_82 : az_Lk RL 82 yX7_clash := Or.inl (az_in 551 (by decide +kernel) (by decide +kernel))
theorem lkX7_167 : az_Lk RX7 167 yX5_firstPairLacking := Or.inr ⟨"WayMarks", az_inN 555 (by decide +kernel) (by decide +kernel)⟩
theorem lkX5_112 : az_Lk RX5 112 yX5_pairLacks := Or.inl (az_in 559 (by decide +kernel) (by decide +kernel))
theorem lsX5_87 : Cond.methodLink RX5 87 yJ6_bitCount_0f7a4 ∈ az_tb := az_in 563 (by decide +kernel) (by decide +kernel)
theorem lkX7_170 : az_Lk RX7 170 yX5_firstPostLacking := Or.inr ⟨"WayMarks", az_inN 564 (by decide +kernel) (by decide +kernel)⟩
theorem lkL_86 : az_Lk RL 86 yX7_twins := Or.inl (az_in 568 (by decide +kernel) (by decide +kernel))
theorem lkX7_173 : az_Lk RX7 173 yX5_twinPair := Or.inr ⟨"WayMarks", az_inN 572 (by decide +kernel) (by decide +kernel)⟩
theorem lkX5_109 : az_Lk RX5 109 yX5_areTwins := Or.inl (az_in 576 (by decide +kernel) (by decide +kernel))
theorem lsX5_101 : Cond.methodLink RX5 101 yJ9_min_7cf53 ∈ az_tb := az_in 580 (by decide +kernel) (by decide +kernel)
theorem lsX5_106 : Cond.methodLink RX5 106 yJ9_max_7cf53 ∈ az_tb := az_in 581 (by decide +kernel) (by decide +kernel)
theorem lkL_90 : az_Lk RL 90 yX7_least := Or.inl (az_in 582 (by decide +kernel) (by decide +kernel))
theorem lkX7_176 : az_Lk RX7 176 yX1_search := Or.inr ⟨"WayMarks", az_inN 586 (by decide +kernel) (by decide +kernel)⟩
theorem lkX1_43 : az_Lk RX1 43 yX2_need := Or.inr ⟨"WayMarks", az_inN 590 (by decide +kernel) (by decide +kernel)⟩
theorem lsX1_54 : Cond.methodLink RX1 54 yJ9_min_7cf53 ∈ az_tb := az_in 591 (by decide +kernel) (by decide +kernel)
theorem lkX1_60 : az_Lk RX1 60 yX1_gatherDemands := Or.inl (az_in 592 (by decide +kernel) (by decide +kernel))
theorem lkX1_69 : az_Lk RX1 69 yX5_areTwins := Or.inr ⟨"WayMarks", az_inN 596 (by decide +kernel) (by decide +kernel)⟩
theorem lkX1_78 : az_Lk RX1 78 yX1_demand := Or.inl (az_in 597 (by decide +kernel) (by decide +kernel))
theorem lkX1_65 : az_Lk RX1 65 yX1_decide := Or.inl (az_in 602 (by decide +kernel) (by decide +kernel))
theorem lkX1_89 : az_Lk RX1 89 yX1_canBeMet := Or.inl (az_in 606 (by decide +kernel) (by decide +kernel))
theorem lsX1_102 : Cond.methodLink RX1 102 yJ6_bitCount_0f7a4 ∈ az_tb := az_in 610 (by decide +kernel) (by decide +kernel)
theorem lkX1_92 : az_Lk RX1 92 yX1_takeIfBest := Or.inl (az_in 611 (by decide +kernel) (by decide +kernel))
theorem lsX1_96 : Cond.methodLink RX1 96 yJ6_numberOfTrailingZeros_0f7a4 ∈ az_tb := az_in 615 (by decide +kernel) (by decide +kernel)
theorem lkX7_180 : az_Lk RX7 180 yX7_tellChoice := Or.inl (az_in 619 (by decide +kernel) (by decide +kernel))
theorem lkL_94 : az_Lk RL 94 yX7_every := Or.inl (az_in 623 (by decide +kernel) (by decide +kernel))
theorem lkL_98 : az_Lk RL 98 yX7_cheapest := Or.inl (az_in 627 (by decide +kernel) (by decide +kernel))
theorem lkL_102 : az_Lk RL 102 yX7_set := Or.inl (az_in 631 (by decide +kernel) (by decide +kernel))
theorem lkL_106 : az_Lk RL 106 yX7_shown := Or.inl (az_in 635 (by decide +kernel) (by decide +kernel))
theorem lkX7_186 : az_Lk RX7 186 yX5_countApartPairs := Or.inr ⟨"WayMarks", az_inN 639 (by decide +kernel) (by decide +kernel)⟩
theorem lkX5_116 : az_Lk RX5 116 yX5_goThroughApartPairs := Or.inl (az_in 643 (by decide +kernel) (by decide +kernel))
theorem lkL_110 : az_Lk RL 110 yX7_pair := Or.inl (az_in 647 (by decide +kernel) (by decide +kernel))
theorem lkX7_189 : az_Lk RX7 189 yX5_apartPair := Or.inr ⟨"WayMarks", az_inN 651 (by decide +kernel) (by decide +kernel)⟩
theorem lkL_114 : az_Lk RL 114 yX7_greedy := Or.inl (az_in 655 (by decide +kernel) (by decide +kernel))
theorem lkX7_192 : az_Lk RX7 192 yX5_greedySet := Or.inr ⟨"WayMarks", az_inN 659 (by decide +kernel) (by decide +kernel)⟩
theorem lkX5_120 : az_Lk RX5 120 yX5_markPartingMost := Or.inl (az_in 663 (by decide +kernel) (by decide +kernel))
theorem lkX5_123 : az_Lk RX5 123 yX5_countLackingPartedBy := Or.inl (az_in 667 (by decide +kernel) (by decide +kernel))
theorem lkX7_195 : az_Lk RX7 195 yX5_countPairsLacking := Or.inr ⟨"WayMarks", az_inN 671 (by decide +kernel) (by decide +kernel)⟩
theorem lkL_118 : az_Lk RL 118 yX7_word := Or.inl (az_in 675 (by decide +kernel) (by decide +kernel))
theorem lkX7_198 : az_Lk RX7 198 yX2_hasWord := Or.inr ⟨"WayMarks", az_inN 679 (by decide +kernel) (by decide +kernel)⟩
theorem lkL_122 : az_Lk RL 122 yX7_clear := Or.inl (az_in 683 (by decide +kernel) (by decide +kernel))
theorem lkL_126 : az_Lk RL 126 yX7_fits := Or.inl (az_in 687 (by decide +kernel) (by decide +kernel))
theorem lkX7_207 : az_Lk RX7 207 yX7_fitsWords := Or.inl (az_in 691 (by decide +kernel) (by decide +kernel))
theorem lkX7_210 : az_Lk RX7 210 yX7_wordsAgainst := Or.inl (az_in 695 (by decide +kernel) (by decide +kernel))
theorem lkL_130 : az_Lk RL 130 yX7_where := Or.inl (az_in 699 (by decide +kernel) (by decide +kernel))
theorem lkL_134 : az_Lk RL 134 yX7_against := Or.inl (az_in 703 (by decide +kernel) (by decide +kernel))
theorem lkL_138 : az_Lk RL 138 yX7_worst := Or.inl (az_in 707 (by decide +kernel) (by decide +kernel))
theorem lkX7_213 : az_Lk RX7 213 yX7_canBeAsked := Or.inl (az_in 711 (by decide +kernel) (by decide +kernel))
theorem lkX7_216 : az_Lk RX7 216 yX0_prepare := Or.inr ⟨"WayMarks", az_inN 715 (by decide +kernel) (by decide +kernel)⟩
theorem lkX0_43 : az_Lk RX0 43 yX0_findPlaces := Or.inl (az_in 719 (by decide +kernel) (by decide +kernel))
theorem lkX0_51 : az_Lk RX0 51 yX0_placeOf := Or.inl (az_in 723 (by decide +kernel) (by decide +kernel))
theorem lkX0_56 : az_Lk RX0 56 yX5_areTwins := Or.inr ⟨"WayMarks", az_inN 727 (by decide +kernel) (by decide +kernel)⟩
theorem lkX0_47 : az_Lk RX0 47 yX0_groupPlaces := Or.inl (az_in 728 (by decide +kernel) (by decide +kernel))
theorem lkX7_220 : az_Lk RX7 220 yX0_leastCost := Or.inr ⟨"WayMarks", az_inN 732 (by decide +kernel) (by decide +kernel)⟩
theorem lkX0_64 : az_Lk RX0 64 yX0_costOf := Or.inl (az_in 736 (by decide +kernel) (by decide +kernel))
theorem lkX0_69 : az_Lk RX0 69 yX0_costOfAsking := Or.inl (az_in 741 (by decide +kernel) (by decide +kernel))
theorem lsX0_78 : Cond.methodLink RX0 78 yJ9_max_7cf53 ∈ az_tb := az_in 745 (by decide +kernel) (by decide +kernel)
theorem lkX0_81 : az_Lk RX0 81 yX0_chanceOf := Or.inl (az_in 746 (by decide +kernel) (by decide +kernel))
theorem lsX0_73 : Cond.methodLink RX0 73 yJ9_min_7cf53 ∈ az_tb := az_in 750 (by decide +kernel) (by decide +kernel)
theorem lkL_142 : az_Lk RL 142 yX7_next := Or.inl (az_in 751 (by decide +kernel) (by decide +kernel))
theorem lkX7_223 : az_Lk RX7 223 yX0_firstMark := Or.inr ⟨"WayMarks", az_inN 755 (by decide +kernel) (by decide +kernel)⟩
theorem lkL_146 : az_Lk RL 146 yX7_mean := Or.inl (az_in 759 (by decide +kernel) (by decide +kernel))
theorem lkL_150 : az_Lk RL 150 yX7_seek := Or.inl (az_in 763 (by decide +kernel) (by decide +kernel))
theorem lkX7_226 : az_Lk RX7 226 yX4_fewestRounds := Or.inr ⟨"WayMarks", az_inN 767 (by decide +kernel) (by decide +kernel)⟩
theorem lsX4_24 : Cond.methodLink RX4 24 yJ9_min_7cf53 ∈ az_tb := az_in 771 (by decide +kernel) (by decide +kernel)
theorem lkX4_30 : az_Lk RX4 30 yX4_prepare := Or.inl (az_in 772 (by decide +kernel) (by decide +kernel))
theorem lsX4_38 : Cond.methodLink RX4 38 yJ6_numberOfTrailingZeros_0f7a4 ∈ az_tb := az_in 776 (by decide +kernel) (by decide +kernel)
theorem lkX4_34 : az_Lk RX4 34 yX4_findInRound := Or.inl (az_in 777 (by decide +kernel) (by decide +kernel))
theorem lkX4_47 : az_Lk RX4 47 yX4_someMarkFinds := Or.inl (az_in 781 (by decide +kernel) (by decide +kernel))
theorem lkX4_50 : az_Lk RX4 50 yX4_markFinds := Or.inl (az_in 785 (by decide +kernel) (by decide +kernel))
theorem lkL_154 : az_Lk RL 154 yX7_tree := Or.inl (az_in 789 (by decide +kernel) (by decide +kernel))
theorem lkX7_230 : az_Lk RX7 230 yX2_countRoads := Or.inr ⟨"WayMarks", az_inN 793 (by decide +kernel) (by decide +kernel)⟩
theorem lkX2_70 : az_Lk RX2 70 yX2_besideBits := Or.inl (az_in 797 (by decide +kernel) (by decide +kernel))
theorem lsX2_74 : Cond.methodLink RX2 74 yJ6_bitCount_0f7a4 ∈ az_tb := az_in 798 (by decide +kernel) (by decide +kernel)
theorem lkX7_233 : az_Lk RX7 233 yX5_leavesLessKnots := Or.inr ⟨"WayMarks", az_inN 799 (by decide +kernel) (by decide +kernel)⟩
theorem lkX5_92 : az_Lk RX5 92 yX5_countBeside := Or.inl (az_in 803 (by decide +kernel) (by decide +kernel))
theorem lkX5_95 : az_Lk RX5 95 yX5_knotOfLeaf := Or.inl (az_in 807 (by decide +kernel) (by decide +kernel))
theorem lsX5_98 : Cond.methodLink RX5 98 yJ6_numberOfTrailingZeros_0f7a4 ∈ az_tb := az_in 811 (by decide +kernel) (by decide +kernel)
theorem lkL_158 : az_Lk RL 158 yX7_undo := Or.inl (az_in 812 (by decide +kernel) (by decide +kernel))
theorem lkX7_237 : az_Lk RX7 237 yX3_goBack := Or.inr ⟨"WayMarks", az_inN 816 (by decide +kernel) (by decide +kernel)⟩
theorem lsX3_35 : Cond.methodLink RX3 35 yJ9_floorMod_7cf53 ∈ az_tb := az_in 820 (by decide +kernel) (by decide +kernel)
theorem lkL_162 : az_Lk RL 162 yX7_about := Or.inl (az_in 823 (by decide +kernel) (by decide +kernel))
theorem lkX8_48 : az_Lk RX8 48 yX8_first := Or.inl (az_in 835 (by decide +kernel) (by decide +kernel))
theorem lkX8_52 : az_Lk RX8 52 yX8_walk := Or.inl (az_in 839 (by decide +kernel) (by decide +kernel))
theorem lkX8_70 : az_Lk RX8 70 yX8_length := Or.inl (az_in 843 (by decide +kernel) (by decide +kernel))
theorem lkX8_62 : az_Lk RX8 62 yX8_n := Or.inl (az_in 848 (by decide +kernel) (by decide +kernel))
theorem lkX8_75 : az_Lk RX8 75 yX8_says := Or.inl (az_in 852 (by decide +kernel) (by decide +kernel))
theorem lkL_161 : az_Lk RL 161 yX8_undo := Or.inl (az_in 905 (by decide +kernel) (by decide +kernel))
theorem lkL_17 : az_Lk RL 17 yX8_post := Or.inl (az_in 909 (by decide +kernel) (by decide +kernel))
theorem lkX8_78 : az_Lk RX8 78 yX8_act := Or.inl (az_in 913 (by decide +kernel) (by decide +kernel))
theorem lkL_22 : az_Lk RL 22 yX8_road := Or.inl (az_in 917 (by decide +kernel) (by decide +kernel))
theorem lkX8_81 : az_Lk RX8 81 yX8_isRoad := Or.inl (az_in 921 (by decide +kernel) (by decide +kernel))
theorem lkX8_66 : az_Lk RX8 66 yX8_isPost := Or.inl (az_in 925 (by decide +kernel) (by decide +kernel))
theorem lkX8_85 : az_Lk RX8 85 yX8_lay := Or.inl (az_in 929 (by decide +kernel) (by decide +kernel))
theorem lkL_27 : az_Lk RL 27 yX8_cut := Or.inl (az_in 933 (by decide +kernel) (by decide +kernel))
theorem lkL_32 : az_Lk RL 32 yX8_feed := Or.inl (az_in 937 (by decide +kernel) (by decide +kernel))
theorem lkX8_92 : az_Lk RX8 92 yX8_four := Or.inl (az_in 941 (by decide +kernel) (by decide +kernel))
theorem lkL_37 : az_Lk RL 37 yX8_roads := Or.inl (az_in 945 (by decide +kernel) (by decide +kernel))
theorem lkL_41 : az_Lk RL 41 yX8_reach := Or.inl (az_in 949 (by decide +kernel) (by decide +kernel))
theorem lkL_45 : az_Lk RL 45 yX8_price := Or.inl (az_in 953 (by decide +kernel) (by decide +kernel))
theorem lkL_49 : az_Lk RL 49 yX8_chance := Or.inl (az_in 957 (by decide +kernel) (by decide +kernel))
theorem lkL_53 : az_Lk RL 53 yX8_rule := Or.inl (az_in 961 (by decide +kernel) (by decide +kernel))
theorem lkL_58 : az_Lk RL 58 yX8_may := Or.inl (az_in 965 (by decide +kernel) (by decide +kernel))
theorem lkX8_95 : az_Lk RX8 95 yX8_need := Or.inl (az_in 969 (by decide +kernel) (by decide +kernel))
theorem lkL_63 : az_Lk RL 63 yX8_want := Or.inl (az_in 973 (by decide +kernel) (by decide +kernel))
theorem lkL_68 : az_Lk RL 68 yX8_way := Or.inl (az_in 977 (by decide +kernel) (by decide +kernel))
theorem lkL_72 : az_Lk RL 72 yX8_of := Or.inl (az_in 981 (by decide +kernel) (by decide +kernel))
theorem lkX8_98 : az_Lk RX8 98 yX8_besideBits := Or.inl (az_in 985 (by decide +kernel) (by decide +kernel))
theorem lsX8_102 : Cond.methodLink RX8 102 yX8_many ∈ az_tb := az_in 989 (by decide +kernel) (by decide +kernel)
theorem lkL_76 : az_Lk RL 76 yX8_answer := Or.inl (az_in 992 (by decide +kernel) (by decide +kernel))
theorem lkX8_105 : az_Lk RX8 105 yX8_answerOf := Or.inl (az_in 996 (by decide +kernel) (by decide +kernel))
theorem lkL_81 : az_Lk RL 81 yX8_parts := Or.inl (az_in 1000 (by decide +kernel) (by decide +kernel))
theorem lkX8_118 : az_Lk RX8 118 yX8_isSet := Or.inl (az_in 1004 (by decide +kernel) (by decide +kernel))
theorem lkX8_111 : az_Lk RX8 111 yX8_parting := Or.inl (az_in 1008 (by decide +kernel) (by decide +kernel))
theorem lkX8_108 : az_Lk RX8 108 yX8_isParting := Or.inl (az_in 1012 (by decide +kernel) (by decide +kernel))
theorem lkL_85 : az_Lk RL 85 yX8_clash := Or.inl (az_in 1016 (by decide +kernel) (by decide +kernel))
theorem lkX8_124 : az_Lk RX8 124 yX8_gather := Or.inl (az_in 1020 (by decide +kernel) (by decide +kernel))
theorem lkX8_121 : az_Lk RX8 121 yX8_yes := Or.inl (az_in 1024 (by decide +kernel) (by decide +kernel))
theorem lkX8_114 : az_Lk RX8 114 yX8_isYes := Or.inl (az_in 1028 (by decide +kernel) (by decide +kernel))
theorem lkX8_127 : az_Lk RX8 127 yX8_clashOf := Or.inl (az_in 1032 (by decide +kernel) (by decide +kernel))
theorem lkL_89 : az_Lk RL 89 yX8_twins := Or.inl (az_in 1036 (by decide +kernel) (by decide +kernel))
theorem lkX8_130 : az_Lk RX8 130 yX8_areTwins := Or.inl (az_in 1040 (by decide +kernel) (by decide +kernel))
theorem lkL_93 : az_Lk RL 93 yX8_least := Or.inl (az_in 1044 (by decide +kernel) (by decide +kernel))
theorem lkX8_136 : az_Lk RX8 136 yX8_best := Or.inl (az_in 1048 (by decide +kernel) (by decide +kernel))
theorem lkX8_133 : az_Lk RX8 133 yX8_price_ := Or.inl (az_in 1052 (by decide +kernel) (by decide +kernel))
theorem lkL_97 : az_Lk RL 97 yX8_every := Or.inl (az_in 1056 (by decide +kernel) (by decide +kernel))
theorem lkL_101 : az_Lk RL 101 yX8_cheapest := Or.inl (az_in 1060 (by decide +kernel) (by decide +kernel))
theorem lkL_105 : az_Lk RL 105 yX8_set := Or.inl (az_in 1064 (by decide +kernel) (by decide +kernel))
theorem lkL_109 : az_Lk RL 109 yX8_shown := Or.inl (az_in 1068 (by decide +kernel) (by decide +kernel))
theorem lkX8_143 : az_Lk RX8 143 yX8_show := Or.inl (az_in 1072 (by decide +kernel) (by decide +kernel))
theorem lkL_113 : az_Lk RL 113 yX8_pair := Or.inl (az_in 1076 (by decide +kernel) (by decide +kernel))
theorem lkL_117 : az_Lk RL 117 yX8_greedy := Or.inl (az_in 1080 (by decide +kernel) (by decide +kernel))
theorem lkX8_146 : az_Lk RX8 146 yX8_lacks := Or.inl (az_in 1084 (by decide +kernel) (by decide +kernel))
theorem lkL_121 : az_Lk RL 121 yX8_word := Or.inl (az_in 1088 (by decide +kernel) (by decide +kernel))
theorem lkL_125 : az_Lk RL 125 yX8_clear := Or.inl (az_in 1092 (by decide +kernel) (by decide +kernel))
theorem lkL_129 : az_Lk RL 129 yX8_fits := Or.inl (az_in 1096 (by decide +kernel) (by decide +kernel))
theorem lkX8_152 : az_Lk RX8 152 yX8_isFit := Or.inl (az_in 1100 (by decide +kernel) (by decide +kernel))
theorem lkX8_149 : az_Lk RX8 149 yX8_againstBits := Or.inl (az_in 1104 (by decide +kernel) (by decide +kernel))
theorem lkL_133 : az_Lk RL 133 yX8_where := Or.inl (az_in 1108 (by decide +kernel) (by decide +kernel))
theorem lkL_137 : az_Lk RL 137 yX8_against := Or.inl (az_in 1112 (by decide +kernel) (by decide +kernel))
theorem lkL_141 : az_Lk RL 141 yX8_worst := Or.inl (az_in 1116 (by decide +kernel) (by decide +kernel))
theorem lkX8_166 : az_Lk RX8 166 yX8_isAsked := Or.inl (az_in 1120 (by decide +kernel) (by decide +kernel))
theorem lkX8_169 : az_Lk RX8 169 yX8_fill := Or.inl (az_in 1124 (by decide +kernel) (by decide +kernel))
theorem lkX8_155 : az_Lk RX8 155 yX8_fillOne := Or.inl (az_in 1128 (by decide +kernel) (by decide +kernel))
theorem lkX8_158 : az_Lk RX8 158 yX8_isDone := Or.inl (az_in 1132 (by decide +kernel) (by decide +kernel))
theorem lkX8_162 : az_Lk RX8 162 yX8_staying := Or.inl (az_in 1137 (by decide +kernel) (by decide +kernel))
theorem lkL_145 : az_Lk RL 145 yX8_next := Or.inl (az_in 1141 (by decide +kernel) (by decide +kernel))
theorem lkL_149 : az_Lk RL 149 yX8_mean := Or.inl (az_in 1145 (by decide +kernel) (by decide +kernel))
theorem lkL_153 : az_Lk RL 153 yX8_seek := Or.inl (az_in 1149 (by decide +kernel) (by decide +kernel))
theorem lkX8_172 : az_Lk RX8 172 yX8_isFoundIn := Or.inl (az_in 1153 (by decide +kernel) (by decide +kernel))
theorem lkX8_175 : az_Lk RX8 175 yX8_moved := Or.inl (az_in 1157 (by decide +kernel) (by decide +kernel))
theorem lkL_157 : az_Lk RL 157 yX8_tree := Or.inl (az_in 1161 (by decide +kernel) (by decide +kernel))
theorem lkX8_178 : az_Lk RX8 178 yX8_of := Or.inl (az_in 1165 (by decide +kernel) (by decide +kernel))
theorem lkX8_181 : az_Lk RX8 181 yX8_isLed := Or.inl (az_in 1166 (by decide +kernel) (by decide +kernel))
theorem lsX8_184 : Cond.methodLink RX8 184 yX8_only ∈ az_tb := az_in 1170 (by decide +kernel) (by decide +kernel)
theorem lkL_165 : az_Lk RL 165 yX8_about := Or.inl (az_in 1173 (by decide +kernel) (by decide +kernel))
theorem kcX5_62 : Cond.constant RX5 62 (1000000) ∈ az_tb := az_in 495 (by decide +kernel) (by decide +kernel)
theorem kcJ6_265 : Cond.constant RJ6 265 (1431655765) ∈ az_tb := az_in 528 (by decide +kernel) (by decide +kernel)
theorem kcJ6_266 : Cond.constant RJ6 266 (858993459) ∈ az_tb := az_in 529 (by decide +kernel) (by decide +kernel)
theorem kcJ6_267 : Cond.constant RJ6 267 (252645135) ∈ az_tb := az_in 530 (by decide +kernel) (by decide +kernel)
theorem kcX1_64 : Cond.constant RX1 64 (1000000) ∈ az_tb := az_in 601 (by decide +kernel) (by decide +kernel)
theorem kcJ6_264 : Cond.constant RJ6 264 (65536) ∈ az_tb := az_in 618 (by decide +kernel) (by decide +kernel)
theorem kcX0_68 : Cond.constant RX0 68 (1000000000) ∈ az_tb := az_in 740 (by decide +kernel) (by decide +kernel)
theorem kcX8_13 : Cond.constant RX8 13 (36000) ∈ az_tb := az_in 833 (by decide +kernel) (by decide +kernel)
theorem kcX8_35 : Cond.constant RX8 35 (65536) ∈ az_tb := az_in 834 (by decide +kernel) (by decide +kernel)
theorem kcX8_74 : Cond.constant RX8 74 (1000000) ∈ az_tb := az_in 847 (by decide +kernel) (by decide +kernel)
theorem kcX8_161 : Cond.constant RX8 161 (2147483647) ∈ az_tb := az_in 1136 (by decide +kernel) (by decide +kernel)
theorem az_acw : Cond.native arraycopyName ∈ az_tb ∧ Cond.static arraycopyName ∈ az_tb ∧ Cond.initialized "java/lang/System" ∈ az_tb := ⟨az_in 396 (by decide +kernel) (by decide +kernel), az_in 395 (by decide +kernel) (by decide +kernel), az_in 111 (by decide +kernel) (by decide +kernel)⟩
theorem sh_0 : az_Ob 0 7 ([some 1, some 7, some 369, some 371, some 379, some 382, some 388, none, none]) := ⟨by decide +kernel, by decide +kernel⟩
theorem sh_1 : az_Ob 1 2 (az_net 1) := ⟨by decide +kernel, by decide +kernel⟩
theorem sh_2 : az_Ar 2 256 := ⟨by decide +kernel, by decide +kernel⟩
theorem sh_3 : az_Ar 3 16 := ⟨by decide +kernel, by decide +kernel⟩
theorem sh_4 : az_Ar 4 16 := ⟨by decide +kernel, by decide +kernel⟩
theorem sh_5 : az_Ar 5 16 := ⟨by decide +kernel, by decide +kernel⟩
theorem sh_6 : az_Ar 6 16 := ⟨by decide +kernel, by decide +kernel⟩
theorem sh_7 : az_Ob 7 3 ([some 8, none, none]) := ⟨by decide +kernel, by decide +kernel⟩
theorem sh_8 : 8 < az_K ∧ az_sh 8 = .inr (.inr az_past) := ⟨by decide +kernel, by decide +kernel⟩
theorem sh_369 : az_Ob 369 6 ([some 370, none]) := ⟨by decide +kernel, by decide +kernel⟩
theorem sh_370 : az_Ar 370 400 := ⟨by decide +kernel, by decide +kernel⟩
theorem sh_371 : az_Ob 371 5 ([none, some 372, some 373, some 374, some 375, some 376, some 377, some 378]) := ⟨by decide +kernel, by decide +kernel⟩
theorem sh_372 : az_Ar 372 16 := ⟨by decide +kernel, by decide +kernel⟩
theorem sh_373 : az_Ar 373 256 := ⟨by decide +kernel, by decide +kernel⟩
theorem sh_374 : az_Ar 374 256 := ⟨by decide +kernel, by decide +kernel⟩
theorem sh_375 : az_Ar 375 256 := ⟨by decide +kernel, by decide +kernel⟩
theorem sh_376 : az_Ar 376 16 := ⟨by decide +kernel, by decide +kernel⟩
theorem sh_377 : az_Ar 377 256 := ⟨by decide +kernel, by decide +kernel⟩
theorem sh_378 : az_Ar 378 16 := ⟨by decide +kernel, by decide +kernel⟩
theorem sh_379 : az_Ob 379 1 ([some 380, none, none, some 381, none, none, none, none, none, none]) := ⟨by decide +kernel, by decide +kernel⟩
theorem sh_380 : az_Ar 380 256 := ⟨by decide +kernel, by decide +kernel⟩
theorem sh_381 : az_Ar 381 16 := ⟨by decide +kernel, by decide +kernel⟩
theorem sh_382 : az_Ob 382 0 ([some 383, some 384, some 385, none, none, none, some 386, some 387]) := ⟨by decide +kernel, by decide +kernel⟩
theorem sh_383 : az_Ar 383 4096 := ⟨by decide +kernel, by decide +kernel⟩
theorem sh_384 : az_Ar 384 12 := ⟨by decide +kernel, by decide +kernel⟩
theorem sh_385 : az_Ar 385 12 := ⟨by decide +kernel, by decide +kernel⟩
theorem sh_386 : az_Ar 386 256 := ⟨by decide +kernel, by decide +kernel⟩
theorem sh_387 : az_Ar 387 16 := ⟨by decide +kernel, by decide +kernel⟩
theorem sh_388 : az_Ob 388 4 ([some 389, some 390]) := ⟨by decide +kernel, by decide +kernel⟩
theorem sh_389 : az_Ar 389 1024 := ⟨by decide +kernel, by decide +kernel⟩
theorem sh_390 : az_Ar 390 1024 := ⟨by decide +kernel, by decide +kernel⟩
theorem sh_391 : az_Ob 391 8 ([some 392, some 393, none, none, some 394, none, none, some 395, some 396, some 397, some 398, some 399, some 400, some 401, some 402, some 403]) := ⟨by decide +kernel, by decide +kernel⟩
theorem sh_392 : az_Ar 392 600 := ⟨by decide +kernel, by decide +kernel⟩
theorem sh_393 : az_Ar 393 36000 := ⟨by decide +kernel, by decide +kernel⟩
theorem sh_394 : az_Ar 394 400 := ⟨by decide +kernel, by decide +kernel⟩
theorem sh_395 : az_Ar 395 256 := ⟨by decide +kernel, by decide +kernel⟩
theorem sh_396 : az_Ar 396 256 := ⟨by decide +kernel, by decide +kernel⟩
theorem sh_397 : az_Ar 397 256 := ⟨by decide +kernel, by decide +kernel⟩
theorem sh_398 : az_Ar 398 16 := ⟨by decide +kernel, by decide +kernel⟩
theorem sh_399 : az_Ar 399 120 := ⟨by decide +kernel, by decide +kernel⟩
theorem sh_400 : az_Ar 400 65536 := ⟨by decide +kernel, by decide +kernel⟩
theorem sh_401 : az_Ar 401 65536 := ⟨by decide +kernel, by decide +kernel⟩
theorem sh_402 : az_Ar 402 65536 := ⟨by decide +kernel, by decide +kernel⟩
theorem sh_403 : az_Ar 403 1024 := ⟨by decide +kernel, by decide +kernel⟩
end
