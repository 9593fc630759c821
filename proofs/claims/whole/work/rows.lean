section
-- ===== PART A: goes FIRST, ahead of the names: the tables' words, and 'selects' of the private methods out of them =====
/-- a private method of a class that the tables say can be made, by its rows of tables_1 -/
def lw_okq (q : MethodName × Nat) : Prop := (q.1.cls ≠ "java/lang/invoke/MethodHandle" ∧ q.1.cls ≠ "java/lang/invoke/VarHandle") ∧ Cond.instantiable q.1.cls q.2 ∈ tables_1 ∧ Cond.privateMethod q.1 ∈ tables_1 ∧ Cond.instanceMethod q.1 ∈ tables_1
theorem lw_p0 : lw_okq (⟨"Branchyard$Works", "allPass", "(I[I)Z"⟩, 7) := ⟨⟨by decide +kernel, by decide +kernel⟩, List.mem_of_getElem? (i := 56) (by decide +kernel), List.mem_of_getElem? (i := 204) (by decide +kernel), List.mem_of_getElem? (i := 205) (by decide +kernel)⟩
theorem lw_p1 : lw_okq (⟨"Branchyard$Test", "isOf", "(I)Z"⟩, 4) := ⟨⟨by decide +kernel, by decide +kernel⟩, List.mem_of_getElem? (i := 65) (by decide +kernel), List.mem_of_getElem? (i := 208) (by decide +kernel), List.mem_of_getElem? (i := 209) (by decide +kernel)⟩
theorem lw_p2 : lw_okq (⟨"Branchyard$Test", "passes", "([I)Z"⟩, 4) := ⟨⟨by decide +kernel, by decide +kernel⟩, List.mem_of_getElem? (i := 65) (by decide +kernel), List.mem_of_getElem? (i := 212) (by decide +kernel), List.mem_of_getElem? (i := 213) (by decide +kernel)⟩
theorem lw_p3 : lw_okq (⟨"Branchyard", "replayedValue", "(I)I"⟩, 12) := ⟨⟨by decide +kernel, by decide +kernel⟩, List.mem_of_getElem? (i := 30) (by decide +kernel), List.mem_of_getElem? (i := 216) (by decide +kernel), List.mem_of_getElem? (i := 217) (by decide +kernel)⟩
theorem lw_p4 : lw_okq (⟨"Branchyard$Order", "at", "(I)I"⟩, 2) := ⟨⟨by decide +kernel, by decide +kernel⟩, List.mem_of_getElem? (i := 40) (by decide +kernel), List.mem_of_getElem? (i := 220) (by decide +kernel), List.mem_of_getElem? (i := 221) (by decide +kernel)⟩
theorem lw_p5 : lw_okq (⟨"Branchyard$Change", "hasEdit", "(I)Z"⟩, 9) := ⟨⟨by decide +kernel, by decide +kernel⟩, List.mem_of_getElem? (i := 114) (by decide +kernel), List.mem_of_getElem? (i := 224) (by decide +kernel), List.mem_of_getElem? (i := 225) (by decide +kernel)⟩
theorem lw_p6 : lw_okq (⟨"java/lang/Throwable", "fillInStackTrace", "(I)Ljava/lang/Throwable;"⟩, 6) := ⟨⟨by decide +kernel, by decide +kernel⟩, List.mem_of_getElem? (i := 265) (by decide +kernel), List.mem_of_getElem? (i := 263) (by decide +kernel), List.mem_of_getElem? (i := 264) (by decide +kernel)⟩
theorem lw_p7 : lw_okq (⟨"Branchyard", "changeOf", "(I)LBranchyard$Change;"⟩, 12) := ⟨⟨by decide +kernel, by decide +kernel⟩, List.mem_of_getElem? (i := 30) (by decide +kernel), List.mem_of_getElem? (i := 391) (by decide +kernel), List.mem_of_getElem? (i := 392) (by decide +kernel)⟩
theorem lw_p8 : lw_okq (⟨"Branchyard$Change", "putEdit", "(II)V"⟩, 9) := ⟨⟨by decide +kernel, by decide +kernel⟩, List.mem_of_getElem? (i := 114) (by decide +kernel), List.mem_of_getElem? (i := 420) (by decide +kernel), List.mem_of_getElem? (i := 421) (by decide +kernel)⟩
theorem lw_p9 : lw_okq (⟨"Branchyard$Change", "editCount", "()I"⟩, 9) := ⟨⟨by decide +kernel, by decide +kernel⟩, List.mem_of_getElem? (i := 114) (by decide +kernel), List.mem_of_getElem? (i := 424) (by decide +kernel), List.mem_of_getElem? (i := 425) (by decide +kernel)⟩
theorem lw_p10 : lw_okq (⟨"Branchyard$Change", "removeEdit", "(I)V"⟩, 9) := ⟨⟨by decide +kernel, by decide +kernel⟩, List.mem_of_getElem? (i := 114) (by decide +kernel), List.mem_of_getElem? (i := 442) (by decide +kernel), List.mem_of_getElem? (i := 443) (by decide +kernel)⟩
theorem lw_p11 : lw_okq (⟨"Branchyard$Change", "voteFor", "(I)V"⟩, 9) := ⟨⟨by decide +kernel, by decide +kernel⟩, List.mem_of_getElem? (i := 114) (by decide +kernel), List.mem_of_getElem? (i := 462) (by decide +kernel), List.mem_of_getElem? (i := 463) (by decide +kernel)⟩
theorem lw_p12 : lw_okq (⟨"Branchyard$Change", "voteAgainst", "(I)V"⟩, 9) := ⟨⟨by decide +kernel, by decide +kernel⟩, List.mem_of_getElem? (i := 114) (by decide +kernel), List.mem_of_getElem? (i := 469) (by decide +kernel), List.mem_of_getElem? (i := 470) (by decide +kernel)⟩
theorem lw_p13 : lw_okq (⟨"Branchyard", "verdictOf", "(LBranchyard$Change;I)C"⟩, 12) := ⟨⟨by decide +kernel, by decide +kernel⟩, List.mem_of_getElem? (i := 30) (by decide +kernel), List.mem_of_getElem? (i := 480) (by decide +kernel), List.mem_of_getElem? (i := 481) (by decide +kernel)⟩
theorem lw_p14 : lw_okq (⟨"Branchyard$Change", "touches", "(I)Z"⟩, 9) := ⟨⟨by decide +kernel, by decide +kernel⟩, List.mem_of_getElem? (i := 114) (by decide +kernel), List.mem_of_getElem? (i := 484) (by decide +kernel), List.mem_of_getElem? (i := 485) (by decide +kernel)⟩
theorem lw_p15 : lw_okq (⟨"Branchyard", "personAsked", "(LBranchyard$Change;I)I"⟩, 12) := ⟨⟨by decide +kernel, by decide +kernel⟩, List.mem_of_getElem? (i := 30) (by decide +kernel), List.mem_of_getElem? (i := 489) (by decide +kernel), List.mem_of_getElem? (i := 490) (by decide +kernel)⟩
def lw_privs_1 : List (MethodName × Nat) := [(⟨"Branchyard$Works", "allPass", "(I[I)Z"⟩, 7), (⟨"Branchyard$Test", "isOf", "(I)Z"⟩, 4), (⟨"Branchyard$Test", "passes", "([I)Z"⟩, 4), (⟨"Branchyard", "replayedValue", "(I)I"⟩, 12), (⟨"Branchyard$Order", "at", "(I)I"⟩, 2), (⟨"Branchyard$Change", "hasEdit", "(I)Z"⟩, 9), (⟨"java/lang/Throwable", "fillInStackTrace", "(I)Ljava/lang/Throwable;"⟩, 6), (⟨"Branchyard", "changeOf", "(I)LBranchyard$Change;"⟩, 12), (⟨"Branchyard$Change", "putEdit", "(II)V"⟩, 9), (⟨"Branchyard$Change", "editCount", "()I"⟩, 9), (⟨"Branchyard$Change", "removeEdit", "(I)V"⟩, 9), (⟨"Branchyard$Change", "voteFor", "(I)V"⟩, 9), (⟨"Branchyard$Change", "voteAgainst", "(I)V"⟩, 9), (⟨"Branchyard", "verdictOf", "(LBranchyard$Change;I)C"⟩, 12), (⟨"Branchyard$Change", "touches", "(I)Z"⟩, 9), (⟨"Branchyard", "personAsked", "(LBranchyard$Change;I)I"⟩, 12)]
theorem lw_r1 : ∀ q ∈ lw_privs_1, lw_okq q := List.forall_mem_cons.mpr ⟨lw_p0, List.forall_mem_cons.mpr ⟨lw_p1, List.forall_mem_cons.mpr ⟨lw_p2, List.forall_mem_cons.mpr ⟨lw_p3, List.forall_mem_cons.mpr ⟨lw_p4, List.forall_mem_cons.mpr ⟨lw_p5, List.forall_mem_cons.mpr ⟨lw_p6, List.forall_mem_cons.mpr ⟨lw_p7, List.forall_mem_cons.mpr ⟨lw_p8, List.forall_mem_cons.mpr ⟨lw_p9, List.forall_mem_cons.mpr ⟨lw_p10, List.forall_mem_cons.mpr ⟨lw_p11, List.forall_mem_cons.mpr ⟨lw_p12, List.forall_mem_cons.mpr ⟨lw_p13, List.forall_mem_cons.mpr ⟨lw_p14, List.forall_mem_cons.mpr ⟨lw_p15, fun _ h => absurd h List.not_mem_nil⟩⟩⟩⟩⟩⟩⟩⟩⟩⟩⟩⟩⟩⟩⟩⟩
theorem lw_p16 : lw_okq (⟨"Branchyard$Change", "verdictBy", "(II)C"⟩, 9) := ⟨⟨by decide +kernel, by decide +kernel⟩, List.mem_of_getElem? (i := 114) (by decide +kernel), List.mem_of_getElem? (i := 493) (by decide +kernel), List.mem_of_getElem? (i := 494) (by decide +kernel)⟩
theorem lw_p17 : lw_okq (⟨"Branchyard$Change", "coversAll", "(II)Z"⟩, 9) := ⟨⟨by decide +kernel, by decide +kernel⟩, List.mem_of_getElem? (i := 114) (by decide +kernel), List.mem_of_getElem? (i := 497) (by decide +kernel), List.mem_of_getElem? (i := 498) (by decide +kernel)⟩
theorem lw_p18 : lw_okq (⟨"Branchyard$Change", "covers", "(II)Z"⟩, 9) := ⟨⟨by decide +kernel, by decide +kernel⟩, List.mem_of_getElem? (i := 114) (by decide +kernel), List.mem_of_getElem? (i := 502) (by decide +kernel), List.mem_of_getElem? (i := 503) (by decide +kernel)⟩
theorem lw_p19 : lw_okq (⟨"Branchyard", "missingVerdicts", "(LBranchyard$Change;)I"⟩, 12) := ⟨⟨by decide +kernel, by decide +kernel⟩, List.mem_of_getElem? (i := 30) (by decide +kernel), List.mem_of_getElem? (i := 521) (by decide +kernel), List.mem_of_getElem? (i := 522) (by decide +kernel)⟩
theorem lw_p20 : lw_okq (⟨"Branchyard$Order", "append", "(I)V"⟩, 2) := ⟨⟨by decide +kernel, by decide +kernel⟩, List.mem_of_getElem? (i := 40) (by decide +kernel), List.mem_of_getElem? (i := 550) (by decide +kernel), List.mem_of_getElem? (i := 551) (by decide +kernel)⟩
theorem lw_p21 : lw_okq (⟨"Branchyard", "reopen", "(I)V"⟩, 12) := ⟨⟨by decide +kernel, by decide +kernel⟩, List.mem_of_getElem? (i := 30) (by decide +kernel), List.mem_of_getElem? (i := 562) (by decide +kernel), List.mem_of_getElem? (i := 563) (by decide +kernel)⟩
theorem lw_p22 : lw_okq (⟨"Branchyard$Order", "drop", "(I)V"⟩, 2) := ⟨⟨by decide +kernel, by decide +kernel⟩, List.mem_of_getElem? (i := 40) (by decide +kernel), List.mem_of_getElem? (i := 566) (by decide +kernel), List.mem_of_getElem? (i := 567) (by decide +kernel)⟩
theorem lw_p23 : lw_okq (⟨"Branchyard", "pickBatch", "()I"⟩, 12) := ⟨⟨by decide +kernel, by decide +kernel⟩, List.mem_of_getElem? (i := 30) (by decide +kernel), List.mem_of_getElem? (i := 587) (by decide +kernel), List.mem_of_getElem? (i := 588) (by decide +kernel)⟩
theorem lw_p24 : lw_okq (⟨"Branchyard", "touchesFrozen", "(LBranchyard$Change;)Z"⟩, 12) := ⟨⟨by decide +kernel, by decide +kernel⟩, List.mem_of_getElem? (i := 30) (by decide +kernel), List.mem_of_getElem? (i := 591) (by decide +kernel), List.mem_of_getElem? (i := 592) (by decide +kernel)⟩
theorem lw_p25 : lw_okq (⟨"Branchyard", "tryTogether", "(III)I"⟩, 12) := ⟨⟨by decide +kernel, by decide +kernel⟩, List.mem_of_getElem? (i := 30) (by decide +kernel), List.mem_of_getElem? (i := 596) (by decide +kernel), List.mem_of_getElem? (i := 597) (by decide +kernel)⟩
theorem lw_p26 : lw_okq (⟨"Branchyard", "isGoodWithBatch", "(II)Z"⟩, 12) := ⟨⟨by decide +kernel, by decide +kernel⟩, List.mem_of_getElem? (i := 30) (by decide +kernel), List.mem_of_getElem? (i := 600) (by decide +kernel), List.mem_of_getElem? (i := 601) (by decide +kernel)⟩
theorem lw_p27 : lw_okq (⟨"Branchyard$Change", "applyTo", "([I)V"⟩, 9) := ⟨⟨by decide +kernel, by decide +kernel⟩, List.mem_of_getElem? (i := 114) (by decide +kernel), List.mem_of_getElem? (i := 605) (by decide +kernel), List.mem_of_getElem? (i := 606) (by decide +kernel)⟩
theorem lw_p28 : lw_okq (⟨"Branchyard$Works", "buildTrunk", "([I)Z"⟩, 7) := ⟨⟨by decide +kernel, by decide +kernel⟩, List.mem_of_getElem? (i := 56) (by decide +kernel), List.mem_of_getElem? (i := 609) (by decide +kernel), List.mem_of_getElem? (i := 610) (by decide +kernel)⟩
theorem lw_p29 : lw_okq (⟨"Branchyard$Works", "readInputs", "(I[I)I"⟩, 7) := ⟨⟨by decide +kernel, by decide +kernel⟩, List.mem_of_getElem? (i := 56) (by decide +kernel), List.mem_of_getElem? (i := 613) (by decide +kernel), List.mem_of_getElem? (i := 614) (by decide +kernel)⟩
theorem lw_p30 : lw_okq (⟨"Branchyard$Works", "resultOf", "(I[II)Z"⟩, 7) := ⟨⟨by decide +kernel, by decide +kernel⟩, List.mem_of_getElem? (i := 56) (by decide +kernel), List.mem_of_getElem? (i := 617) (by decide +kernel), List.mem_of_getElem? (i := 618) (by decide +kernel)⟩
theorem lw_p31 : lw_okq (⟨"Branchyard$Cell", "holds", "([II)Z"⟩, 3) := ⟨⟨by decide +kernel, by decide +kernel⟩, List.mem_of_getElem? (i := 623) (by decide +kernel), List.mem_of_getElem? (i := 621) (by decide +kernel), List.mem_of_getElem? (i := 622) (by decide +kernel)⟩
def lw_privs_2 : List (MethodName × Nat) := [(⟨"Branchyard$Change", "verdictBy", "(II)C"⟩, 9), (⟨"Branchyard$Change", "coversAll", "(II)Z"⟩, 9), (⟨"Branchyard$Change", "covers", "(II)Z"⟩, 9), (⟨"Branchyard", "missingVerdicts", "(LBranchyard$Change;)I"⟩, 12), (⟨"Branchyard$Order", "append", "(I)V"⟩, 2), (⟨"Branchyard", "reopen", "(I)V"⟩, 12), (⟨"Branchyard$Order", "drop", "(I)V"⟩, 2), (⟨"Branchyard", "pickBatch", "()I"⟩, 12), (⟨"Branchyard", "touchesFrozen", "(LBranchyard$Change;)Z"⟩, 12), (⟨"Branchyard", "tryTogether", "(III)I"⟩, 12), (⟨"Branchyard", "isGoodWithBatch", "(II)Z"⟩, 12), (⟨"Branchyard$Change", "applyTo", "([I)V"⟩, 9), (⟨"Branchyard$Works", "buildTrunk", "([I)Z"⟩, 7), (⟨"Branchyard$Works", "readInputs", "(I[I)I"⟩, 7), (⟨"Branchyard$Works", "resultOf", "(I[II)Z"⟩, 7), (⟨"Branchyard$Cell", "holds", "([II)Z"⟩, 3)]
theorem lw_r2 : ∀ q ∈ lw_privs_2, lw_okq q := List.forall_mem_cons.mpr ⟨lw_p16, List.forall_mem_cons.mpr ⟨lw_p17, List.forall_mem_cons.mpr ⟨lw_p18, List.forall_mem_cons.mpr ⟨lw_p19, List.forall_mem_cons.mpr ⟨lw_p20, List.forall_mem_cons.mpr ⟨lw_p21, List.forall_mem_cons.mpr ⟨lw_p22, List.forall_mem_cons.mpr ⟨lw_p23, List.forall_mem_cons.mpr ⟨lw_p24, List.forall_mem_cons.mpr ⟨lw_p25, List.forall_mem_cons.mpr ⟨lw_p26, List.forall_mem_cons.mpr ⟨lw_p27, List.forall_mem_cons.mpr ⟨lw_p28, List.forall_mem_cons.mpr ⟨lw_p29, List.forall_mem_cons.mpr ⟨lw_p30, List.forall_mem_cons.mpr ⟨lw_p31, fun _ h => absurd h List.not_mem_nil⟩⟩⟩⟩⟩⟩⟩⟩⟩⟩⟩⟩⟩⟩⟩⟩
theorem lw_p32 : lw_okq (⟨"Branchyard", "merge", "(I)V"⟩, 12) := ⟨⟨by decide +kernel, by decide +kernel⟩, List.mem_of_getElem? (i := 30) (by decide +kernel), List.mem_of_getElem? (i := 657) (by decide +kernel), List.mem_of_getElem? (i := 658) (by decide +kernel)⟩
theorem lw_p33 : lw_okq (⟨"Branchyard", "clashIfShared", "(IJ)V"⟩, 12) := ⟨⟨by decide +kernel, by decide +kernel⟩, List.mem_of_getElem? (i := 30) (by decide +kernel), List.mem_of_getElem? (i := 661) (by decide +kernel), List.mem_of_getElem? (i := 662) (by decide +kernel)⟩
theorem lw_p34 : lw_okq (⟨"Branchyard", "tryHalves", "(III)I"⟩, 12) := ⟨⟨by decide +kernel, by decide +kernel⟩, List.mem_of_getElem? (i := 30) (by decide +kernel), List.mem_of_getElem? (i := 665) (by decide +kernel), List.mem_of_getElem? (i := 666) (by decide +kernel)⟩
theorem lw_p35 : lw_okq (⟨"Branchyard$Change", "clashCount", "()I"⟩, 9) := ⟨⟨by decide +kernel, by decide +kernel⟩, List.mem_of_getElem? (i := 114) (by decide +kernel), List.mem_of_getElem? (i := 697) (by decide +kernel), List.mem_of_getElem? (i := 698) (by decide +kernel)⟩
theorem lw_p36 : lw_okq (⟨"Branchyard$Change", "bringUpToDate", "()V"⟩, 9) := ⟨⟨by decide +kernel, by decide +kernel⟩, List.mem_of_getElem? (i := 114) (by decide +kernel), List.mem_of_getElem? (i := 708) (by decide +kernel), List.mem_of_getElem? (i := 709) (by decide +kernel)⟩
theorem lw_p37 : lw_okq (⟨"Branchyard$Works", "add", "(III)I"⟩, 7) := ⟨⟨by decide +kernel, by decide +kernel⟩, List.mem_of_getElem? (i := 56) (by decide +kernel), List.mem_of_getElem? (i := 722) (by decide +kernel), List.mem_of_getElem? (i := 723) (by decide +kernel)⟩
theorem lw_p38 : lw_okq (⟨"Branchyard$Works", "forgetCells", "()V"⟩, 7) := ⟨⟨by decide +kernel, by decide +kernel⟩, List.mem_of_getElem? (i := 56) (by decide +kernel), List.mem_of_getElem? (i := 726) (by decide +kernel), List.mem_of_getElem? (i := 727) (by decide +kernel)⟩
theorem lw_p39 : lw_okq (⟨"Branchyard$Works", "drop", "(I)I"⟩, 7) := ⟨⟨by decide +kernel, by decide +kernel⟩, List.mem_of_getElem? (i := 56) (by decide +kernel), List.mem_of_getElem? (i := 738) (by decide +kernel), List.mem_of_getElem? (i := 739) (by decide +kernel)⟩
theorem lw_p40 : lw_okq (⟨"Branchyard", "goingAlong", "(I)I"⟩, 12) := ⟨⟨by decide +kernel, by decide +kernel⟩, List.mem_of_getElem? (i := 30) (by decide +kernel), List.mem_of_getElem? (i := 774) (by decide +kernel), List.mem_of_getElem? (i := 775) (by decide +kernel)⟩
theorem lw_p41 : lw_okq (⟨"Branchyard", "isGoodWithout", "(I)Z"⟩, 12) := ⟨⟨by decide +kernel, by decide +kernel⟩, List.mem_of_getElem? (i := 30) (by decide +kernel), List.mem_of_getElem? (i := 791) (by decide +kernel), List.mem_of_getElem? (i := 792) (by decide +kernel)⟩
theorem lw_p42 : lw_okq (⟨"Branchyard", "takeBack", "(I)V"⟩, 12) := ⟨⟨by decide +kernel, by decide +kernel⟩, List.mem_of_getElem? (i := 30) (by decide +kernel), List.mem_of_getElem? (i := 799) (by decide +kernel), List.mem_of_getElem? (i := 800) (by decide +kernel)⟩
theorem lw_p43 : lw_okq (⟨"BranchyardModel", "fails", "(I)I"⟩, 26) := ⟨⟨by decide +kernel, by decide +kernel⟩, List.mem_of_getElem? (i := 853) (by decide +kernel), List.mem_of_getElem? (i := 985) (by decide +kernel), List.mem_of_getElem? (i := 986) (by decide +kernel)⟩
theorem lw_p44 : lw_okq (⟨"BranchyardModel", "isWrong", "(I)Z"⟩, 26) := ⟨⟨by decide +kernel, by decide +kernel⟩, List.mem_of_getElem? (i := 853) (by decide +kernel), List.mem_of_getElem? (i := 996) (by decide +kernel), List.mem_of_getElem? (i := 997) (by decide +kernel)⟩
theorem lw_p45 : lw_okq (⟨"BranchyardModel", "isChange", "(I)Z"⟩, 26) := ⟨⟨by decide +kernel, by decide +kernel⟩, List.mem_of_getElem? (i := 853) (by decide +kernel), List.mem_of_getElem? (i := 1008) (by decide +kernel), List.mem_of_getElem? (i := 1009) (by decide +kernel)⟩
theorem lw_p46 : lw_okq (⟨"BranchyardModel", "editMany", "(I)I"⟩, 26) := ⟨⟨by decide +kernel, by decide +kernel⟩, List.mem_of_getElem? (i := 853) (by decide +kernel), List.mem_of_getElem? (i := 1015) (by decide +kernel), List.mem_of_getElem? (i := 1016) (by decide +kernel)⟩
theorem lw_p47 : lw_okq (⟨"BranchyardModel", "isUnlike", "(IC)Z"⟩, 26) := ⟨⟨by decide +kernel, by decide +kernel⟩, List.mem_of_getElem? (i := 853) (by decide +kernel), List.mem_of_getElem? (i := 1027) (by decide +kernel), List.mem_of_getElem? (i := 1028) (by decide +kernel)⟩
def lw_privs_3 : List (MethodName × Nat) := [(⟨"Branchyard", "merge", "(I)V"⟩, 12), (⟨"Branchyard", "clashIfShared", "(IJ)V"⟩, 12), (⟨"Branchyard", "tryHalves", "(III)I"⟩, 12), (⟨"Branchyard$Change", "clashCount", "()I"⟩, 9), (⟨"Branchyard$Change", "bringUpToDate", "()V"⟩, 9), (⟨"Branchyard$Works", "add", "(III)I"⟩, 7), (⟨"Branchyard$Works", "forgetCells", "()V"⟩, 7), (⟨"Branchyard$Works", "drop", "(I)I"⟩, 7), (⟨"Branchyard", "goingAlong", "(I)I"⟩, 12), (⟨"Branchyard", "isGoodWithout", "(I)Z"⟩, 12), (⟨"Branchyard", "takeBack", "(I)V"⟩, 12), (⟨"BranchyardModel", "fails", "(I)I"⟩, 26), (⟨"BranchyardModel", "isWrong", "(I)Z"⟩, 26), (⟨"BranchyardModel", "isChange", "(I)Z"⟩, 26), (⟨"BranchyardModel", "editMany", "(I)I"⟩, 26), (⟨"BranchyardModel", "isUnlike", "(IC)Z"⟩, 26)]
theorem lw_r3 : ∀ q ∈ lw_privs_3, lw_okq q := List.forall_mem_cons.mpr ⟨lw_p32, List.forall_mem_cons.mpr ⟨lw_p33, List.forall_mem_cons.mpr ⟨lw_p34, List.forall_mem_cons.mpr ⟨lw_p35, List.forall_mem_cons.mpr ⟨lw_p36, List.forall_mem_cons.mpr ⟨lw_p37, List.forall_mem_cons.mpr ⟨lw_p38, List.forall_mem_cons.mpr ⟨lw_p39, List.forall_mem_cons.mpr ⟨lw_p40, List.forall_mem_cons.mpr ⟨lw_p41, List.forall_mem_cons.mpr ⟨lw_p42, List.forall_mem_cons.mpr ⟨lw_p43, List.forall_mem_cons.mpr ⟨lw_p44, List.forall_mem_cons.mpr ⟨lw_p45, List.forall_mem_cons.mpr ⟨lw_p46, List.forall_mem_cons.mpr ⟨lw_p47, fun _ h => absurd h List.not_mem_nil⟩⟩⟩⟩⟩⟩⟩⟩⟩⟩⟩⟩⟩⟩⟩⟩
theorem lw_p48 : lw_okq (⟨"BranchyardModel", "verdictOf", "(II)C"⟩, 26) := ⟨⟨by decide +kernel, by decide +kernel⟩, List.mem_of_getElem? (i := 853) (by decide +kernel), List.mem_of_getElem? (i := 1039) (by decide +kernel), List.mem_of_getElem? (i := 1040) (by decide +kernel)⟩
theorem lw_p49 : lw_okq (⟨"BranchyardModel", "touches", "(II)Z"⟩, 26) := ⟨⟨by decide +kernel, by decide +kernel⟩, List.mem_of_getElem? (i := 853) (by decide +kernel), List.mem_of_getElem? (i := 1043) (by decide +kernel), List.mem_of_getElem? (i := 1044) (by decide +kernel)⟩
theorem lw_p50 : lw_okq (⟨"BranchyardModel", "ask", "(II)I"⟩, 26) := ⟨⟨by decide +kernel, by decide +kernel⟩, List.mem_of_getElem? (i := 853) (by decide +kernel), List.mem_of_getElem? (i := 1050) (by decide +kernel), List.mem_of_getElem? (i := 1051) (by decide +kernel)⟩
theorem lw_p51 : lw_okq (⟨"BranchyardModel", "isCovered", "(III)Z"⟩, 26) := ⟨⟨by decide +kernel, by decide +kernel⟩, List.mem_of_getElem? (i := 853) (by decide +kernel), List.mem_of_getElem? (i := 1054) (by decide +kernel), List.mem_of_getElem? (i := 1055) (by decide +kernel)⟩
theorem lw_p52 : lw_okq (⟨"BranchyardModel", "missingIn", "(I)I"⟩, 26) := ⟨⟨by decide +kernel, by decide +kernel⟩, List.mem_of_getElem? (i := 853) (by decide +kernel), List.mem_of_getElem? (i := 1066) (by decide +kernel), List.mem_of_getElem? (i := 1067) (by decide +kernel)⟩
theorem lw_p53 : lw_okq (⟨"BranchyardModel", "clashMany", "(I)I"⟩, 26) := ⟨⟨by decide +kernel, by decide +kernel⟩, List.mem_of_getElem? (i := 853) (by decide +kernel), List.mem_of_getElem? (i := 1074) (by decide +kernel), List.mem_of_getElem? (i := 1075) (by decide +kernel)⟩
theorem lw_p54 : lw_okq (⟨"BranchyardModel", "leaves", "(I)V"⟩, 26) := ⟨⟨by decide +kernel, by decide +kernel⟩, List.mem_of_getElem? (i := 853) (by decide +kernel), List.mem_of_getElem? (i := 1082) (by decide +kernel), List.mem_of_getElem? (i := 1083) (by decide +kernel)⟩
theorem lw_p55 : lw_okq (⟨"BranchyardModel", "isHeld", "(I)Z"⟩, 26) := ⟨⟨by decide +kernel, by decide +kernel⟩, List.mem_of_getElem? (i := 853) (by decide +kernel), List.mem_of_getElem? (i := 1094) (by decide +kernel), List.mem_of_getElem? (i := 1095) (by decide +kernel)⟩
theorem lw_p56 : lw_okq (⟨"BranchyardModel", "shares", "(II)Z"⟩, 26) := ⟨⟨by decide +kernel, by decide +kernel⟩, List.mem_of_getElem? (i := 853) (by decide +kernel), List.mem_of_getElem? (i := 1098) (by decide +kernel), List.mem_of_getElem? (i := 1099) (by decide +kernel)⟩
theorem lw_p57 : lw_okq (⟨"BranchyardModel", "tries", "([III)I"⟩, 26) := ⟨⟨by decide +kernel, by decide +kernel⟩, List.mem_of_getElem? (i := 853) (by decide +kernel), List.mem_of_getElem? (i := 1102) (by decide +kernel), List.mem_of_getElem? (i := 1103) (by decide +kernel)⟩
theorem lw_p58 : lw_okq (⟨"BranchyardModel", "lays", "(I[I)V"⟩, 26) := ⟨⟨by decide +kernel, by decide +kernel⟩, List.mem_of_getElem? (i := 853) (by decide +kernel), List.mem_of_getElem? (i := 1106) (by decide +kernel), List.mem_of_getElem? (i := 1107) (by decide +kernel)⟩
theorem lw_p59 : lw_okq (⟨"BranchyardModel", "isBuilt", "([I)Z"⟩, 26) := ⟨⟨by decide +kernel, by decide +kernel⟩, List.mem_of_getElem? (i := 853) (by decide +kernel), List.mem_of_getElem? (i := 1110) (by decide +kernel), List.mem_of_getElem? (i := 1111) (by decide +kernel)⟩
theorem lw_p60 : lw_okq (⟨"BranchyardModel", "inputs", "([II)[I"⟩, 26) := ⟨⟨by decide +kernel, by decide +kernel⟩, List.mem_of_getElem? (i := 853) (by decide +kernel), List.mem_of_getElem? (i := 1114) (by decide +kernel), List.mem_of_getElem? (i := 1115) (by decide +kernel)⟩
theorem lw_p61 : lw_okq (⟨"BranchyardModel", "counts", "(II)Z"⟩, 26) := ⟨⟨by decide +kernel, by decide +kernel⟩, List.mem_of_getElem? (i := 853) (by decide +kernel), List.mem_of_getElem? (i := 1118) (by decide +kernel), List.mem_of_getElem? (i := 1119) (by decide +kernel)⟩
theorem lw_p62 : lw_okq (⟨"BranchyardModel", "isGoodOn", "([II)Z"⟩, 26) := ⟨⟨by decide +kernel, by decide +kernel⟩, List.mem_of_getElem? (i := 853) (by decide +kernel), List.mem_of_getElem? (i := 1122) (by decide +kernel), List.mem_of_getElem? (i := 1123) (by decide +kernel)⟩
theorem lw_p63 : lw_okq (⟨"BranchyardModel", "isKept", "([I)Z"⟩, 26) := ⟨⟨by decide +kernel, by decide +kernel⟩, List.mem_of_getElem? (i := 853) (by decide +kernel), List.mem_of_getElem? (i := 1126) (by decide +kernel), List.mem_of_getElem? (i := 1127) (by decide +kernel)⟩
def lw_privs_4 : List (MethodName × Nat) := [(⟨"BranchyardModel", "verdictOf", "(II)C"⟩, 26), (⟨"BranchyardModel", "touches", "(II)Z"⟩, 26), (⟨"BranchyardModel", "ask", "(II)I"⟩, 26), (⟨"BranchyardModel", "isCovered", "(III)Z"⟩, 26), (⟨"BranchyardModel", "missingIn", "(I)I"⟩, 26), (⟨"BranchyardModel", "clashMany", "(I)I"⟩, 26), (⟨"BranchyardModel", "leaves", "(I)V"⟩, 26), (⟨"BranchyardModel", "isHeld", "(I)Z"⟩, 26), (⟨"BranchyardModel", "shares", "(II)Z"⟩, 26), (⟨"BranchyardModel", "tries", "([III)I"⟩, 26), (⟨"BranchyardModel", "lays", "(I[I)V"⟩, 26), (⟨"BranchyardModel", "isBuilt", "([I)Z"⟩, 26), (⟨"BranchyardModel", "inputs", "([II)[I"⟩, 26), (⟨"BranchyardModel", "counts", "(II)Z"⟩, 26), (⟨"BranchyardModel", "isGoodOn", "([II)Z"⟩, 26), (⟨"BranchyardModel", "isKept", "([I)Z"⟩, 26)]
theorem lw_r4 : ∀ q ∈ lw_privs_4, lw_okq q := List.forall_mem_cons.mpr ⟨lw_p48, List.forall_mem_cons.mpr ⟨lw_p49, List.forall_mem_cons.mpr ⟨lw_p50, List.forall_mem_cons.mpr ⟨lw_p51, List.forall_mem_cons.mpr ⟨lw_p52, List.forall_mem_cons.mpr ⟨lw_p53, List.forall_mem_cons.mpr ⟨lw_p54, List.forall_mem_cons.mpr ⟨lw_p55, List.forall_mem_cons.mpr ⟨lw_p56, List.forall_mem_cons.mpr ⟨lw_p57, List.forall_mem_cons.mpr ⟨lw_p58, List.forall_mem_cons.mpr ⟨lw_p59, List.forall_mem_cons.mpr ⟨lw_p60, List.forall_mem_cons.mpr ⟨lw_p61, List.forall_mem_cons.mpr ⟨lw_p62, List.forall_mem_cons.mpr ⟨lw_p63, fun _ h => absurd h List.not_mem_nil⟩⟩⟩⟩⟩⟩⟩⟩⟩⟩⟩⟩⟩⟩⟩⟩
theorem lw_p64 : lw_okq (⟨"java/util/ArrayList", "add", "(Ljava/lang/Object;[Ljava/lang/Object;I)V"⟩, 3) := ⟨⟨by decide +kernel, by decide +kernel⟩, List.mem_of_getElem? (i := 866) (by decide +kernel), List.mem_of_getElem? (i := 1192) (by decide +kernel), List.mem_of_getElem? (i := 1193) (by decide +kernel)⟩
theorem lw_p65 : lw_okq (⟨"java/util/ArrayList", "grow", "()[Ljava/lang/Object;"⟩, 3) := ⟨⟨by decide +kernel, by decide +kernel⟩, List.mem_of_getElem? (i := 866) (by decide +kernel), List.mem_of_getElem? (i := 1196) (by decide +kernel), List.mem_of_getElem? (i := 1197) (by decide +kernel)⟩
theorem lw_p66 : lw_okq (⟨"java/util/ArrayList", "grow", "(I)[Ljava/lang/Object;"⟩, 3) := ⟨⟨by decide +kernel, by decide +kernel⟩, List.mem_of_getElem? (i := 866) (by decide +kernel), List.mem_of_getElem? (i := 1200) (by decide +kernel), List.mem_of_getElem? (i := 1201) (by decide +kernel)⟩
theorem lw_p67 : lw_okq (⟨"BranchyardModel", "merges", "(I)V"⟩, 26) := ⟨⟨by decide +kernel, by decide +kernel⟩, List.mem_of_getElem? (i := 853) (by decide +kernel), List.mem_of_getElem? (i := 1245) (by decide +kernel), List.mem_of_getElem? (i := 1246) (by decide +kernel)⟩
theorem lw_p68 : lw_okq (⟨"BranchyardModel", "marks", "(I[Z)I"⟩, 26) := ⟨⟨by decide +kernel, by decide +kernel⟩, List.mem_of_getElem? (i := 853) (by decide +kernel), List.mem_of_getElem? (i := 1297) (by decide +kernel), List.mem_of_getElem? (i := 1298) (by decide +kernel)⟩
def lw_privs_5 : List (MethodName × Nat) := [(⟨"java/util/ArrayList", "add", "(Ljava/lang/Object;[Ljava/lang/Object;I)V"⟩, 3), (⟨"java/util/ArrayList", "grow", "()[Ljava/lang/Object;"⟩, 3), (⟨"java/util/ArrayList", "grow", "(I)[Ljava/lang/Object;"⟩, 3), (⟨"BranchyardModel", "merges", "(I)V"⟩, 26), (⟨"BranchyardModel", "marks", "(I[Z)I"⟩, 26)]
theorem lw_r5 : ∀ q ∈ lw_privs_5, lw_okq q := List.forall_mem_cons.mpr ⟨lw_p64, List.forall_mem_cons.mpr ⟨lw_p65, List.forall_mem_cons.mpr ⟨lw_p66, List.forall_mem_cons.mpr ⟨lw_p67, List.forall_mem_cons.mpr ⟨lw_p68, fun _ h => absurd h List.not_mem_nil⟩⟩⟩⟩⟩
def lw_privs : List (MethodName × Nat) := lw_privs_1 ++ (lw_privs_2 ++ (lw_privs_3 ++ (lw_privs_4 ++ (lw_privs_5))))
def lw_tbl : List Cond := k2_sels lw_privs ++ tables_1
theorem lw_privs_ok : ∀ q ∈ lw_privs, lw_okq q := by
  show ∀ q ∈ lw_privs_1 ++ (lw_privs_2 ++ (lw_privs_3 ++ (lw_privs_4 ++ (lw_privs_5)))), lw_okq q
  exact List.forall_mem_append.mpr ⟨lw_r1, List.forall_mem_append.mpr ⟨lw_r2, List.forall_mem_append.mpr ⟨lw_r3, List.forall_mem_append.mpr ⟨lw_r4, lw_r5⟩⟩⟩⟩
/-- the streams that the claim lets the run draw from -/
abbrev lw_cs : List Choice := [Jvm.Choice.named "NaN.bits"]
theorem lw_bits : nanBits ∈ lw_cs := by first | decide | exact List.mem_cons_self | simp [lw_cs, nanBits]

/-! ===== BEGIN words of one list among another's, by their places ===== -/
theorem goodIn_r {big : List Cond} (ws : List Cond) (ps : List Nat) (hp : ws = ps.filterMap (fun i => big[i]?)) (h : ws.all goodWord = true) : GoodIn big ws := by
  intro w hw
  have h1 := List.all_eq_true.mp h w hw
  rw [hp] at hw
  obtain ⟨i, -, hi⟩ := List.mem_filterMap.mp hw
  have hm : w ∈ big := by first | exact List.mem_of_getElem? hi | exact List.getElem?_mem hi
  exact ⟨hm, good_of_word h1⟩
theorem goodIn_app {big a b : List Cond} (ha : GoodIn big a) (hb : GoodIn big b) : GoodIn big (a ++ b) := fun w h => (List.mem_append.mp h).elim (ha w) (hb w)
theorem goodIn_ca {big a b : List Cond} {c : Cond} (ha : GoodIn big (c :: a)) (hb : GoodIn big b) : GoodIn big (c :: (a ++ b)) := fun w h => (List.mem_cons.mp h).elim (fun e => ha w (List.mem_cons.mpr (Or.inl e))) (fun h => (List.mem_append.mp h).elim (fun h => ha w (List.mem_cons.mpr (Or.inr h))) (hb w))
theorem goodIn_sub {big ws : List Cond} (hm : ∀ w ∈ ws, w ∈ big) (h : ws.all goodWord = true) : GoodIn big ws := fun w hw => ⟨hm w hw, good_of_word (List.all_eq_true.mp h w hw)⟩
/-! ===== END ===== -/

/-! ===== BEGIN exceptions that leave a method, and their catching by the caller (launches without stack traces) ===== -/
section VXA
/-! The laws vx_back, vx_callV, vx_callS, vx_callSW, vx_throw0, vx_throwS follow proofs of the library, with one case more: JvmDerived/Free/Laws.lean (Back.of_free), Shelf42/LK1.lean (callV, callS), Shelf/KitTraced.lean (throwNew0V, throwNewS). -/
/-- where a method has thrown q: the class by its name, the cell, what was written, the world -/
def vx_T (XC : String → State → State → Prop) (st : State) (q : Addr) (t : State) (mc ms : Nat) (free : Addr → Prop) : Prop :=
  ∃ (E : String) (ce : Cell) (L : List Loc), XC E st t ∧ t.heap[q]? = some ce ∧ ce.vm = .none ∧ st.vm.findClass E = some ce.cls ∧ st.WarmedH t.vm ∧ st.sameButNew ({ t with vm := st.vm } : State) L mc ms ∧ ∀ z ∈ L, free z.base
def vx_Q (Qc : Array Value → State → Outcome → State → Prop) (XC : String → State → State → Prop) (mc ms : Nat) (free : Addr → Prop) : Array Value → State → Outcome → State → Prop := fun a st o t =>
  (Qc a st o t ∧ ∃ L, FrameEnd st o t L mc ms ∧ ∀ q ∈ L, free q.base) ∨ ∃ q, o = .threw q ∧ vx_T XC st q t mc ms free
/-- a callee that returns or throws -/
def vx_Met (l : Launch) (y : MethodName) (ws : List Cond) (rm : Room) (Pc : Array Value → State → Prop) (Qc : Array Value → State → Outcome → State → Prop) (XC : String → State → State → Prop) (mc ms : Nat) (free : Addr → Prop) : Prop :=
  MetFree l y (headSpec ws rm) Pc (fun _ _ _ _ _ => True) (vx_Q Qc XC mc ms free)
def vx_Post (XC : String → State → State → Prop) (mc ms : Nat) (free : Addr → Prop) : Pt → Array Value → Addr → Pt → Prop := fun A a q B =>
  ∃ (g : JFrame) (mk : MethodId) (t : State) (L : List Loc) (E : String) (ce : Cell), B.U.heap = t.heap ∧ B.U.vm = t.vm ∧ XC E (A.U.calling g mk a) t ∧ t.heap[q]? = some ce ∧ ce.vm = .none ∧ A.U.vm.findClass E = some ce.cls ∧ B.locs = A.locs ++ L ∧ (∀ z ∈ L, free z.base) ∧ B.cells = A.cells + mc ∧ B.slots = A.slots + ms
def vx_Back (l : Launch) (R : Room) (p : Program) (e : Env) (below : List Frame) (s : State) (sargs : Array Value) (y : MethodName) (len W9 : Nat)
    (Pre : Pt → Array Value → Prop) (Post : Pt → Array Value → Option Value → Pt → Prop) (PostX : Pt → Array Value → Addr → Pt → Prop) : Prop :=
  ∀ (m : MethodId) (meth : Method) (c : Code) (A : Pt) (g : JFrame) (ig : Instr) (mk : MethodId) (a : Array Value),
    Stand p l e R s m sargs below meth c A.U A.locs A.cells A.slots → g.method = m → g.locals.size = c.maxLocals → decode c.code g.pc = .ok (ig, len) →
    2 * g.monitorRoom + (g.stack.map fun v => v.category).sum ≤ W9 → A.U.methodNamed? y = some mk → Pre A a →
    (∃ (v : Option Value) (B : Pt), Stand p l e R s m sargs below meth c B.U B.locs B.cells B.slots ∧ Post A a v B ∧
      Steps p.tables e below (doInvoke e (A.U.setTop g) [] mk a).1 (B.U.setTop { g with pc := g.pc + len, stack := v.toList ++ g.stack })) ∨
    (∃ (q : Addr) (B : Pt), Stand p l e R s m sargs below meth c B.U B.locs B.cells B.slots ∧ PostX A a q B ∧
      Steps p.tables e below (doInvoke e (A.U.setTop g) [] mk a).1 ((B.U.setTop g).pushFrame (.throwing q)))
section Payer
variable {l : Launch} {R : Room} {p : Program} {e : Env} {below : List Frame} {s : State} {sargs : Array Value} {y : MethodName} {len W9 : Nat}
theorem vx_back {ws : List Cond} {rm : Room} {Pc : Array Value → State → Prop} {Qc : Array Value → State → Outcome → State → Prop} {XC : String → State → State → Prop} {mc ms : Nat} {free : Addr → Prop} {bytes : ByteArray} {maxL : Nat} {ret : Option FieldType}
    (hM : vx_Met l y ws rm Pc Qc XC mc ms free) (hblind : FrameBlind Pc) (hrc : rm.cells = mc) (hrs : rm.slots = ms)
    (hframes : rm.frames + 1 ≤ R.frames) (hlocals : W9 + (maxL + 11) + rm.locals ≤ R.locals)
    (hws : ∀ w ∈ ws, ∀ a' U, s.WarmedH U.vm → w.before a' U = true) (hcode : Cond.code y bytes maxL ret ∈ ws) (hinit : ∀ a' U, s.WarmedH U.vm → (Cond.initialized y.cls).before a' U = true) :
    vx_Back l R p e below s sargs y len W9 (PreOf R mc ms Pc) (PostOf Qc mc ms free) (vx_Post XC mc ms free) := by
  intro m meth c A g ig mk a X hg hsize hdg hW hn hp
  have h1 : (headSpec ws rm).pre.before a A.U = true := atoms_intro fun w hw => hws w hw _ _ X.warmed
  have h2 : (Cond.code y bytes maxL ret).before a A.U = true := hws _ hcode _ _ X.warmed
  have h3 : (Cond.initialized y.cls).before a A.U = true := hinit _ _ X.warmed
  have h4 : A.cells + (headSpec ws rm).room.cells ≤ R.cells := by rw [show (headSpec ws rm).room.cells = mc from hrc]; exact hp.1
  have h5 : A.slots + (headSpec ws rm).room.slots ≤ R.slots := by rw [show (headSpec ws rm).room.slots = ms from hrs]; exact hp.2.1
  have hPc : Pc a (A.U.calling g mk a) := hblind _ _ _ _ hp.2.2
  obtain ⟨U, Ls, c0, s0⟩ := A
  dsimp only [Pt.U, Pt.locs, Pt.cells, Pt.slots] at h1 h2 h3 h4 h5 X hn hPc ⊢
  obtain ⟨methY, cY, hmY, hcY, -, hlY, -, -, -, -⟩ := Cond.code_spec hn h2
  obtain ⟨kY, hkY, -⟩ := className_of_methodNamed hn
  have hinitY : kY.init = .initialized := Cond.initialized_spec (findClass_of_methodNamed hn) hkY h3
  have h : At U g.method c below := by rw [hg]; exact X.here
  have hlocals9 : W9 + (maxL + 11) + (headSpec ws rm).room.locals ≤ R.locals := hlocals
  have happ : (headSpec ws rm).appliesLoose y e.platform (U.calling g mk a) = true :=
    Spec.appliesLoose_calling (g := g) h hdg hn hkY hinitY
      (X.room_calling (g := g) (R' := (headSpec ws rm).room) hsize hmY hcY hframes (by rw [hlY]; omega) h4 h5) h1
  obtain ⟨mid, hmid⟩ := h.above
  have hfr : (U.setTop g).frames = (.java g :: mid) ++ below := by rw [State.frames_setTop' g h.top, hmid]; rfl
  obtain ⟨o, s₂, hsteps, -, hend, hq⟩ := Steps.callFree hM p X.admits X.cas X.clock (acts := []) hfr happ hPc trivial
  have hq' : vx_Q Qc XC mc ms free a (U.calling g mk a) o s₂ := hq
  rw [State.frames_setTop' g h.top] at hend
  obtain ⟨g₀, hg0⟩ := Option.isSome_iff_exists.mp h.top
  obtain ⟨r, hr⟩ := State.topJava?_eq_some.mp hg0
  have hr' : (({ U with heap := s₂.heap, slotsUsed := s₂.slotsUsed } : State).setVm s₂.vm).frames = .java g₀ :: r := hr
  rcases hq' with ⟨hqc, L, hfe, hL⟩ | ⟨q, rfl, E, ce, L, hx, hce, hcv, hcl, hW₂, hsm, hL⟩
  · obtain ⟨⟨v, rfl⟩, hW₂, e2, q2, q3, q4, q5, q6⟩ := id hfe
    have e3 : s₂ = ({ (U.calling g mk a).setFrames s₂.frames with heap := s₂.heap, slotsUsed := s₂.slotsUsed } : State).setVm s₂.vm := by
      have : s₂ = ({ s₂ with vm := (U.calling g mk a).vm } : State).setVm s₂.vm := rfl
      rw [e2] at this
      exact this
    obtain ⟨c₂, i₂, len₂, hc₂, hd₂, hf₂⟩ := hend
    have hW' : U.WarmedH s₂.vm := hW₂
    have hcc : c₂ = c := by
      have h1 : s₂.code? g.method = U.code? g.method := by
        rw [State.code?_eq, State.code?_eq, hW'.alike.method?]
      exact Option.some.inj (hc₂.symm.trans (h1.trans h.code))
    subst hcc
    have hlen : len₂ = len := by rw [hdg] at hd₂; cases hd₂; rfl
    subst hlen
    have hs₂ : s₂ = (({ U with heap := s₂.heap, slotsUsed := s₂.slotsUsed } : State).setVm s₂.vm).setTop { g with pc := g.pc + len₂, stack := v.toList ++ g.stack } := by
      refine e3.trans ?_
      rw [hf₂, State.calling_eq h.top, State.setFrames_setFrames, State.setTop_of_frames _ hr', hr]
      rfl
    have hsame : U.sameButNew ({ U with heap := s₂.heap, slotsUsed := s₂.slotsUsed } : State) L mc ms := by
      refine ⟨?_, q2, q3, q4, q5, q6⟩
      obtain ⟨t, ht, -⟩ := State.frames_cons hr
      show ({ U with heap := s₂.heap, slotsUsed := s₂.slotsUsed } : State) = { U.setFrames U.frames with heap := s₂.heap, slotsUsed := s₂.slotsUsed }
      rw [State.setFrames_self ht]
    subst hg
    refine Or.inl ⟨v, ⟨(({ U with heap := s₂.heap, slotsUsed := s₂.slotsUsed } : State).setVm s₂.vm), Ls ++ L, c0 + mc, s0 + ms⟩,
      ⟨X.admits, X.cas, X.clock, X.frames, X.room, X.hears, X.method, X.code, (X.here.setHeapUsed s₂.heap s₂.slotsUsed).setVm hW'.alike, X.tail, State.WarmedH.trans X.warmed hW', X.limits, X.bytes, X.same.trans (hsame.setVm s.vm)⟩,
      ⟨g, mk, s₂, L, rfl, rfl, hqc, rfl, hL, rfl, rfl⟩, ?_⟩
    show Steps p.tables e below _ ((({ U with heap := s₂.heap, slotsUsed := s₂.slotsUsed } : State).setVm s₂.vm).setTop { g with pc := g.pc + len₂, stack := v.toList ++ g.stack })
    rw [← hs₂]
    exact hsteps
  · obtain ⟨e2, q2, q3, q4, q5, q6⟩ := id hsm
    have e3 : s₂ = ({ (U.calling g mk a).setFrames s₂.frames with heap := s₂.heap, slotsUsed := s₂.slotsUsed } : State).setVm s₂.vm := by
      have : s₂ = ({ s₂ with vm := (U.calling g mk a).vm } : State).setVm s₂.vm := rfl
      rw [e2] at this
      exact this
    have hf₂ : s₂.frames = .throwing q :: .java g :: U.frames.tail := hend
    have hW' : U.WarmedH s₂.vm := hW₂
    have hs₂ : s₂ = ((({ U with heap := s₂.heap, slotsUsed := s₂.slotsUsed } : State).setVm s₂.vm).setTop g).pushFrame (.throwing q) := by
      refine e3.trans ?_
      rw [hf₂, State.calling_eq h.top, State.setFrames_setFrames, State.pushFrame, State.frames_setTop _ hr', State.setTop_of_frames _ hr', State.setFrames_setFrames, hr]
      rfl
    have hsame : U.sameButNew ({ U with heap := s₂.heap, slotsUsed := s₂.slotsUsed } : State) L mc ms := by
      refine ⟨?_, q2, q3, q4, q5, q6⟩
      obtain ⟨t, ht, -⟩ := State.frames_cons hr
      show ({ U with heap := s₂.heap, slotsUsed := s₂.slotsUsed } : State) = { U.setFrames U.frames with heap := s₂.heap, slotsUsed := s₂.slotsUsed }
      rw [State.setFrames_self ht]
    subst hg
    refine Or.inr ⟨q, ⟨(({ U with heap := s₂.heap, slotsUsed := s₂.slotsUsed } : State).setVm s₂.vm), Ls ++ L, c0 + mc, s0 + ms⟩,
      ⟨X.admits, X.cas, X.clock, X.frames, X.room, X.hears, X.method, X.code, (X.here.setHeapUsed s₂.heap s₂.slotsUsed).setVm hW'.alike, X.tail, State.WarmedH.trans X.warmed hW', X.limits, X.bytes, X.same.trans (hsame.setVm s.vm)⟩,
      ⟨g, mk, s₂, L, E, ce, rfl, rfl, hx, hce, hcv, hcl, rfl, hL, rfl, rfl⟩, ?_⟩
    show Steps p.tables e below _ (((({ U with heap := s₂.heap, slotsUsed := s₂.slotsUsed } : State).setVm s₂.vm).setTop g).pushFrame (.throwing q))
    rw [← hs₂]
    exact hsteps
end Payer
section Calls
variable {p : Program} {l : Launch} {e : Env} {R : Room} {s : State} {m : MethodId} {args : Array Value} {below : List Frame} {meth : Method} {c : Code} {T : State} {locs : List Loc} {cells slots : Nat}
theorem vx_callV (X : Stand p l e R s m args below meth c T locs cells slots) (hexec : p.tables.exec = Jvm.exec) {own C : String} {index : Nat} {y : MethodName} {bytes : ByteArray} {maxL : Nat} {ret : Option FieldType}
    (hown : s.vm.findClass own = some m.cls) (hlink : (Cond.methodLink own index y).before args s = true) (hinst : (Cond.instanceMethod y).before args s = true) (hsel : (Cond.selects C y y).before args s = true)
    (hcode : (Cond.code y bytes maxL ret).before args s = true) (hy : y.cls ≠ "java/lang/invoke/MethodHandle" ∧ y.cls ≠ "java/lang/invoke/VarHandle")
    {W9 : Nat} {Pre : Pt → Array Value → Prop} {Post : Pt → Array Value → Option Value → Pt → Prop} {PostX : Pt → Array Value → Addr → Pt → Prop} (hK : vx_Back l R p e below s args y 3 W9 Pre Post PostX)
    {b : Addr} {cellB : Cell} (hcell : T.heap[b]? = some cellB) (hobj : cellB.vm.isStatics = false) (hcls : s.vm.findClass C = some cellB.cls)
    {g : JFrame} (hg : g.method = m) (hsize : g.locals.size = c.maxLocals) {argsL rest : List Value} (hlen : ∀ sig, parseMethodDescriptor y.desc = some sig → argsL.length = sig.parameters.length)
    (hstack : g.stack = argsL.reverse ++ .ref b :: rest) (hW : 2 * g.monitorRoom + (rest.map fun v => v.category).sum ≤ W9) (hdg : decode c.code g.pc = .ok (.invokevirtual index, 3))
    (hpre : ∀ vm₁, s.WarmedH vm₁ → Pre ⟨T.setVm vm₁, locs, cells, slots⟩ (Value.ref b :: argsL).toArray) :
    (∃ (v : Option Value) (vm₁ : Vm) (B : Pt), s.WarmedH vm₁ ∧ Stand p l e R s m args below meth c B.U B.locs B.cells B.slots ∧ Post ⟨T.setVm vm₁, locs, cells, slots⟩ (Value.ref b :: argsL).toArray v B ∧
      ∀ target, Steps p.tables e below (B.U.setTop { g with pc := g.pc + 3, stack := v.toList ++ rest }) target → Steps p.tables e below (T.setTop g) target) ∨
    (∃ (q : Addr) (vm₁ : Vm) (B : Pt), s.WarmedH vm₁ ∧ Stand p l e R s m args below meth c B.U B.locs B.cells B.slots ∧ PostX ⟨T.setVm vm₁, locs, cells, slots⟩ (Value.ref b :: argsL).toArray q B ∧
      Steps p.tables e below (T.setTop g) ((B.U.setTop { g with stack := rest }).pushFrame (.throwing q))) := by
  obtain ⟨mk, methM, hnamed, hmethM, hstM, habM⟩ := Cond.instanceMethod_spec hinst
  obtain ⟨methM', cM, hmethM', -, -, -, -, -, -, hsigM⟩ := Cond.code_spec hnamed hcode
  cases hmethM.symm.trans hmethM'
  obtain ⟨c2, r2, m2, q1, q2, q3, q4, kP, hkP, hkPi⟩ := Cond.selects_spec hsel
  cases hcls.symm.trans q1
  cases (State.methodFound?_of_named hnamed hy).symm.trans q2
  cases hnamed.symm.trans q3
  have hselP : selectMethod e.platform s.vm cellB.cls mk = .method mk := by rw [Launch.admits_selectMethod X.admits]; exact q4
  obtain ⟨vm₁, X₁, hstep₁⟩ := X.invokevirtual hexec hown hlink hnamed hmethM hstM hkP hkPi hy (a := b) (cell := cellB) hcell
    (fun z h => by rw [h] at hobj; cases hobj) hselP hmethM habM hkP hkPi (g := g) hg (argsL := argsL) (rest := rest) (hlen _ hsigM) hstack hdg
  rcases hK m meth c ⟨T.setVm vm₁, locs, cells, slots⟩ { g with stack := rest } (.invokevirtual index) mk (Value.ref b :: argsL).toArray X₁ hg hsize hdg hW (X₁.named hnamed) (hpre vm₁ X₁.warmed) with ⟨v, B, X', hpost, hsteps⟩ | ⟨q, B, X', hpost, hsteps⟩
  · exact Or.inl ⟨v, vm₁, B, X₁.warmed, X', hpost, fun target h => hstep₁ _ fun acts => by rw [doInvoke_state]; exact hsteps.trans h⟩
  · exact Or.inr ⟨q, vm₁, B, X₁.warmed, X', hpost, hstep₁ _ fun acts => by rw [doInvoke_state]; exact hsteps⟩
theorem vx_callS (X : Stand p l e R s m args below meth c T locs cells slots) (hexec : p.tables.exec = Jvm.exec) {own : String} {index : Nat} {y : MethodName} {bytes : ByteArray} {maxL : Nat} {ret : Option FieldType}
    (hown : s.vm.findClass own = some m.cls) (hlink : (Cond.methodLink own index y).before args s = true) (hstat : (Cond.static y).before args s = true) (hinit : (Cond.initialized y.cls).before args s = true)
    (hcode : (Cond.code y bytes maxL ret).before args s = true) (hy : y.cls ≠ "java/lang/invoke/MethodHandle" ∧ y.cls ≠ "java/lang/invoke/VarHandle")
    {W9 : Nat} {Pre : Pt → Array Value → Prop} {Post : Pt → Array Value → Option Value → Pt → Prop} {PostX : Pt → Array Value → Addr → Pt → Prop} (hK : vx_Back l R p e below s args y 3 W9 Pre Post PostX)
    {g : JFrame} (hg : g.method = m) (hsize : g.locals.size = c.maxLocals) {argsL rest : List Value} (hlen : ∀ sig, parseMethodDescriptor y.desc = some sig → argsL.length = sig.parameters.length)
    (hstack : g.stack = argsL.reverse ++ rest) (hW : 2 * g.monitorRoom + (rest.map fun v => v.category).sum ≤ W9) (hdg : decode c.code g.pc = .ok (.invokestatic index, 3))
    (hpre : ∀ vm₁, s.WarmedH vm₁ → Pre ⟨T.setVm vm₁, locs, cells, slots⟩ argsL.toArray) :
    (∃ (v : Option Value) (vm₁ : Vm) (B : Pt), s.WarmedH vm₁ ∧ Stand p l e R s m args below meth c B.U B.locs B.cells B.slots ∧ Post ⟨T.setVm vm₁, locs, cells, slots⟩ argsL.toArray v B ∧
      ∀ target, Steps p.tables e below (B.U.setTop { g with pc := g.pc + 3, stack := v.toList ++ rest }) target → Steps p.tables e below (T.setTop g) target) ∨
    (∃ (q : Addr) (vm₁ : Vm) (B : Pt), s.WarmedH vm₁ ∧ Stand p l e R s m args below meth c B.U B.locs B.cells B.slots ∧ PostX ⟨T.setVm vm₁, locs, cells, slots⟩ argsL.toArray q B ∧
      Steps p.tables e below (T.setTop g) ((B.U.setTop { g with stack := rest }).pushFrame (.throwing q))) := by
  obtain ⟨mk, hnamed⟩ := Cond.code_named hcode
  obtain ⟨methM, cM, hmethM, -, -, -, -, -, -, hsigM⟩ := Cond.code_spec hnamed hcode
  have hstatic : methM.isStatic = true := Cond.static_spec hnamed hmethM hstat
  obtain ⟨kP, hkP, -⟩ := className_of_methodNamed hnamed
  have hinitP : kP.init = .initialized := Cond.initialized_spec (findClass_of_methodNamed hnamed) hkP hinit
  obtain ⟨vm₁, X₁, hstep₁⟩ := X.invokestatic hexec hown hlink hnamed hmethM hstatic hkP hinitP hy (g := g) hg (argsL := argsL) (rest := rest) (hlen _ hsigM) hstack hdg
  rcases hK m meth c ⟨T.setVm vm₁, locs, cells, slots⟩ { g with stack := rest } (.invokestatic index) mk argsL.toArray X₁ hg hsize hdg hW (X₁.named hnamed) (hpre vm₁ X₁.warmed) with ⟨v, B, X', hpost, hsteps⟩ | ⟨q, B, X', hpost, hsteps⟩
  · exact Or.inl ⟨v, vm₁, B, X₁.warmed, X', hpost, fun target h => hstep₁ _ fun acts => by rw [doInvoke_state]; exact hsteps.trans h⟩
  · exact Or.inr ⟨q, vm₁, B, X₁.warmed, X', hpost, hstep₁ _ fun acts => by rw [doInvoke_state]; exact hsteps⟩
end Calls
theorem vx_cls {s : State} {T : State} {vm₁ : Vm} {E : String} {k : ClassId} (hW : s.WarmedH vm₁) (h : (T.setVm vm₁).vm.findClass E = some k) : s.vm.findClass E = some k := by
  have h1 : vm₁.findClass E = some k := h
  rw [hW.alike.findClass] at h1
  exact h1
/-- the method's frame g, with q thrown over it -/
def vx_W (p : Program) (l : Launch) (e : Env) (R : Room) (s : State) (m : MethodId) (args : Array Value) (below : List Frame) (meth : Method) (c : Code) (H : Heap) (locs : List Loc) (cells slots : Nat) (Q : State → Prop) (g : JFrame) (q : Addr) : Prop :=
  ∀ T : State, T.heap = H → Stand p l e R s m args below meth c T locs cells slots → ∃ t, Steps p.tables e below ((T.setTop g).pushFrame (.throwing q)) t ∧ Q t
def vx_Run (p : Program) (l : Launch) (e : Env) (R : Room) (s : State) (m : MethodId) (args : Array Value) (below : List Frame) (meth : Method) (c : Code) (H : Heap) (locs : List Loc) (cells slots mc ms : Nat) (g : JFrame) (rest : List Value) (Qa : State → Outcome → State → Prop) (XC : String → State → State → Prop) (free : Addr → Prop) : Prop :=
  ∀ T : State, T.heap = H → Stand p l e R s m args below meth c T locs cells slots →
    (∃ (v : Option Value) (st₀ t T' : State) (L : List Loc), st₀.heap = H ∧ Stand p l e R s m args below meth c T' (locs ++ L) (cells + mc) (slots + ms) ∧ (∀ q ∈ L, free q.base) ∧ T'.heap = t.heap ∧ T'.vm = t.vm ∧ Qa st₀ (.returned v) t ∧
      Goes p e below T g T' { g with pc := g.pc + 3, stack := v.toList ++ rest }) ∨
    (∃ (q : Addr) (st₀ t T' : State) (L : List Loc) (E : String) (ce : Cell), st₀.heap = H ∧ Stand p l e R s m args below meth c T' (locs ++ L) (cells + mc) (slots + ms) ∧ (∀ z ∈ L, free z.base) ∧ T'.heap = t.heap ∧ T'.vm = t.vm ∧ XC E st₀ t ∧ t.heap[q]? = some ce ∧ ce.vm = .none ∧ s.vm.findClass E = some ce.cls ∧
      Steps p.tables e below (T.setTop g) ((T'.setTop { g with stack := rest }).pushFrame (.throwing q)))
def vx_X {S : Type} (px : S → Prop) (B : String → S → State → Prop) (A : Nat → Prop) : String → State → State → Prop := fun E st t => ∃ u : S, px u ∧ B E u t ∧ va_F A st t
section Runs
variable {p : Program} {l : Launch} {e : Env} {R : Room} {s : State} {m : MethodId} {args : Array Value} {below : List Frame} {meth : Method} {c : Code} {H : Heap} {locs : List Loc} {cells slots : Nat}
variable {y : MethodName} {bytes cc : ByteArray} {maxL nL mc ms n index : Nat} {ret : Option FieldType} {ws : List Cond} {rm : Room} {Pc : Array Value → State → Prop} {Qc : Array Value → State → Outcome → State → Prop} {XC : String → State → State → Prop} {free : Addr → Prop} {Ts : List Cond} {own C : String} {b : Addr} {As rest : List Value} {g : JFrame}
theorem vx_callBack (cb : CallB R s args own index y bytes maxL ret ws rm mc ms n) (hM : vx_Met l y ws rm Pc Qc XC mc ms free) (hbl : FrameBlind Pc) : vx_Back l R p e below s args y 3 8 (PreOf R mc ms Pc) (PostOf Qc mc ms free) (vx_Post XC mc ms free) := by
  obtain ⟨hrc, hrs, hfr, hlo, hws, hcw, -, hini, -⟩ := cb
  exact vx_back (bytes := bytes) (maxL := maxL) (ret := ret) hM hbl hrc hrs hfr hlo hws hcw (fun a' U hW => word_at hW (Or.inl (by first | rfl | simp [Cond.onTables, Cond.keeps, Cond.steady])) hini)
theorem vx_runV (S : CallFix p m c cc nL s args Ts own) (hM : vx_Met l y ws rm Pc Qc XC mc ms free) (cw : CallW R s args own C index y bytes maxL ret ws rm mc ms n) (hp : PreV s H C b Pc As)
    (hg : g.method = m) (hn : As.length = n) (hsize : g.locals.size = nL) (hstack : g.stack = As.reverse ++ .ref b :: rest) (hW : 2 * g.monitorRoom + (rest.map fun v => v.category).sum ≤ 8) (hdg : decode cc g.pc = .ok (.invokevirtual index, 3)) (hf : cells + mc ≤ R.cells ∧ slots + ms ≤ R.slots) :
    vx_Run p l e R s m args below meth c H locs cells slots mc ms g rest (Qc (Value.ref b :: As).toArray) XC free := by
  have hK : vx_Back l R p e below s args y 3 8 (PreOf R mc ms Pc) (PostOf Qc mc ms free) (vx_Post XC mc ms free) := vx_callBack cw.1 hM hp.1
  obtain ⟨⟨-, -, -, -, -, -, hcode, -, hy, hlen, hl⟩, hin, hse⟩ := cw
  obtain ⟨hx, hb, hml, ho, -⟩ := S
  obtain ⟨-, ⟨cellB, hcB, hoB, hclB⟩, hPc⟩ := hp
  intro T hT X
  rcases vx_callV X hx (C := C) (bytes := bytes) (maxL := maxL) (ret := ret) ho hl hin hse hcode hy hK (by rw [hT]; exact hcB) hoB hclB hg (hsize.trans hml.symm) (argsL := As) (rest := rest) (fun sig h => hn.trans (hlen sig h)) hstack hW (by rw [hb]; exact hdg)
    (fun vm₁ hW₁ => ⟨hf.1, hf.2, hPc (T.setVm vm₁) hT hW₁⟩) with ⟨v, vm₁, ⟨U', l2, c2, s2⟩, hW₁, X', ⟨g', mk, t, L, e1, e2, hq, h1, hL, h2, h3⟩, st⟩ | ⟨q, vm₁, ⟨U', l2, c2, s2⟩, hW₁, X', ⟨g', mk, t, L, E, ce, e1, e2, hq, hce, hcv, hcl, h1, hL, h2, h3⟩, st⟩
  · dsimp only [Pt.U, Pt.locs, Pt.cells, Pt.slots] at X' e1 e2 h1 h2 h3 st
    subst h1; subst h2; subst h3
    exact Or.inl ⟨v, (T.setVm vm₁).calling g' mk (Value.ref b :: As).toArray, t, U', L, hT, X', hL, e1, e2, hq, st⟩
  · dsimp only [Pt.U, Pt.locs, Pt.cells, Pt.slots] at X' e1 e2 h1 h2 h3 st hcl
    subst h1; subst h2; subst h3
    exact Or.inr ⟨q, (T.setVm vm₁).calling g' mk (Value.ref b :: As).toArray, t, U', L, E, ce, hT, X', hL, e1, e2, hq, hce, hcv, vx_cls hW₁ hcl, st⟩
theorem vx_runS (S : CallFix p m c cc nL s args Ts own) (hM : vx_Met l y ws rm Pc Qc XC mc ms free) (cw : CallB R s args own index y bytes maxL ret ws rm mc ms n ∧ (Cond.static y).before args s = true) (hp : PreS s H Pc As)
    (hg : g.method = m) (hn : As.length = n) (hsize : g.locals.size = nL) (hstack : g.stack = As.reverse ++ rest) (hW : 2 * g.monitorRoom + (rest.map fun v => v.category).sum ≤ 8) (hdg : decode cc g.pc = .ok (.invokestatic index, 3)) (hf : cells + mc ≤ R.cells ∧ slots + ms ≤ R.slots) :
    vx_Run p l e R s m args below meth c H locs cells slots mc ms g rest (Qc As.toArray) XC free := by
  have hK : vx_Back l R p e below s args y 3 8 (PreOf R mc ms Pc) (PostOf Qc mc ms free) (vx_Post XC mc ms free) := vx_callBack cw.1 hM hp.1
  obtain ⟨⟨-, -, -, -, -, -, hcode, hini, hy, hlen, hl⟩, hstt⟩ := cw
  obtain ⟨hx, hb, hml, ho, -⟩ := S
  intro T hT X
  rcases vx_callS X hx (bytes := bytes) (maxL := maxL) (ret := ret) ho hl hstt hini hcode hy hK hg (hsize.trans hml.symm) (argsL := As) (rest := rest) (fun sig h => hn.trans (hlen sig h)) hstack hW (by rw [hb]; exact hdg)
    (fun vm₁ hW₁ => ⟨hf.1, hf.2, hp.2 (T.setVm vm₁) hT hW₁⟩) with ⟨v, vm₁, ⟨U', l2, c2, s2⟩, hW₁, X', ⟨g', mk, t, L, e1, e2, hq, h1, hL, h2, h3⟩, st⟩ | ⟨q, vm₁, ⟨U', l2, c2, s2⟩, hW₁, X', ⟨g', mk, t, L, E, ce, e1, e2, hq, hce, hcv, hcl, h1, hL, h2, h3⟩, st⟩
  · dsimp only [Pt.U, Pt.locs, Pt.cells, Pt.slots] at X' e1 e2 h1 h2 h3 st
    subst h1; subst h2; subst h3
    exact Or.inl ⟨v, (T.setVm vm₁).calling g' mk As.toArray, t, U', L, hT, X', hL, e1, e2, hq, st⟩
  · dsimp only [Pt.U, Pt.locs, Pt.cells, Pt.slots] at X' e1 e2 h1 h2 h3 st hcl
    subst h1; subst h2; subst h3
    exact Or.inr ⟨q, (T.setVm vm₁).calling g' mk As.toArray, t, U', L, E, ce, hT, X', hL, e1, e2, hq, hce, hcv, vx_cls hW₁ hcl, st⟩
end Runs
section Rows
variable {p : Program} {l : Launch} {e : Env} {R : Room} {s : State} {m : MethodId} {args : Array Value} {below : List Frame} {meth : Method} {c : Code} {H : Heap} {locs : List Loc} {cells slots : Nat} {Q : State → Prop}
variable {mc ms : Nat} {free : Addr → Prop} {A0 A1 : Nat → Prop} {H0 : Heap} {a : Array Value} {pc : Nat} {ls : Array Slot} {st0 rest : List Value}
theorem vx_keep {st₀ t T' : State} {L : List Loc} (h0 : st₀.heap = H) (e1 : T'.heap = t.heap) (hS : va_S A0 H0 H locs) (hA : ∀ q, q < H.size → A1 q → A0 q) (hf : ∀ q, free q → A0 q) (hL : ∀ q ∈ L, free q.base) (hF : va_F A1 st₀ t) :
    H.size ≤ T'.heap.size ∧ (∀ q : Nat, q < H.size → ¬ A1 q → T'.heap[q]? = H[q]?) ∧ va_S A0 H0 T'.heap (locs ++ L) := by
  obtain ⟨hz, hk⟩ := hF
  rw [h0] at hz hk
  exact ⟨by rw [e1]; exact hz, fun q h1 h2 => by rw [e1]; exact hk q h1 h2,
    ⟨Nat.le_trans hS.1 (by rw [e1]; exact hz), fun q h1 h2 => by rw [e1, hk q (Nat.lt_of_lt_of_le h1 hS.1) (fun z => h2 (hA q (Nat.lt_of_lt_of_le h1 hS.1) z))]; exact hS.2.1 q h1 h2, fun q hq => by
      rcases List.mem_append.mp hq with h | h
      · exact hS.2.2 q h
      · exact hf _ (hL q h)⟩⟩
theorem vx_calli {S SX : Type} {post : Int32 → S → Prop} {px : SX → Prop} {B : S → State → Prop} {BX : String → SX → State → Prop} {AX : Nat → Prop} (hr : vx_Run p l e R s m args below meth c H locs cells slots mc ms (F0 m pc ls st0) rest (va_Qi post B A1 a) (vx_X px BX AX) free) (hS : va_S A0 H0 H locs) (hA : ∀ q, q < H.size → A1 q → A0 q) (hf : ∀ q, free q → A0 q) (hAX : ∀ q, q < H.size → AX q → A0 q)
    (kx : ∀ (E : String) (ce : Cell) (q9 : Addr) (u : SX) (t : State) (H1 : Heap) (locs1 : List Loc), t.heap = H1 → s.vm.Alike t.vm → px u → BX E u t → H.size ≤ H1.size → (∀ q : Nat, q < H.size → ¬ AX q → H1[q]? = H[q]?) → va_S A0 H0 H1 locs1 → H1[q9]? = some ce → ce.vm = .none → s.vm.findClass E = some ce.cls → vx_W p l e R s m args below meth c H1 locs1 (cells + mc) (slots + ms) Q (F0 m pc ls rest) q9)
    (kk : ∀ (r : Int32) (u : S) (t : State) (H1 : Heap) (locs1 : List Loc), t.heap = H1 → s.vm.Alike t.vm → post r u → B u t → H.size ≤ H1.size → (∀ q : Nat, q < H.size → ¬ A1 q → H1[q]? = H[q]?) → va_S A0 H0 H1 locs1 → W p l e R s m args below meth c H1 locs1 (cells + mc) (slots + ms) Q (F0 m (pc + 3) ls (.int r :: rest))) : W p l e R s m args below meth c H locs cells slots Q (F0 m pc ls st0) := by
  intro T hT X
  rcases hr T hT X with ⟨v, st₀, t, T', L, h0, X', hL, e1, e2, ⟨⟨r, u, hv, hp, hb⟩, hF⟩, st⟩ | ⟨q, st₀, t, T', L, E, ce, h0, X', hL, e1, e2, ⟨u, hp, hb, hF⟩, hce, hcv, hcl, st⟩
  · cases hv
    obtain ⟨k1, k2, k3⟩ := vx_keep h0 e1 hS hA hf hL hF
    obtain ⟨t2, a1, b1⟩ := kk r u t T'.heap (locs ++ L) e1.symm (by rw [← e2]; exact X'.warmed.alike) hp hb k1 k2 k3 T' rfl X'
    exact ⟨t2, st t2 a1, b1⟩
  · obtain ⟨k1, k2, k3⟩ := vx_keep h0 e1 hS hAX hf hL hF
    obtain ⟨t2, a1, b1⟩ := kx E ce q u t T'.heap (locs ++ L) e1.symm (by rw [← e2]; exact X'.warmed.alike) hp hb k1 k2 k3 (by rw [e1]; exact hce) hcv hcl T' rfl X'
    exact ⟨t2, st.trans a1, b1⟩
theorem vx_calll {S SX : Type} {post : Int64 → S → Prop} {px : SX → Prop} {B : S → State → Prop} {BX : String → SX → State → Prop} {AX : Nat → Prop} (hr : vx_Run p l e R s m args below meth c H locs cells slots mc ms (F0 m pc ls st0) rest (va_Ql post B A1 a) (vx_X px BX AX) free) (hS : va_S A0 H0 H locs) (hA : ∀ q, q < H.size → A1 q → A0 q) (hf : ∀ q, free q → A0 q) (hAX : ∀ q, q < H.size → AX q → A0 q)
    (kx : ∀ (E : String) (ce : Cell) (q9 : Addr) (u : SX) (t : State) (H1 : Heap) (locs1 : List Loc), t.heap = H1 → s.vm.Alike t.vm → px u → BX E u t → H.size ≤ H1.size → (∀ q : Nat, q < H.size → ¬ AX q → H1[q]? = H[q]?) → va_S A0 H0 H1 locs1 → H1[q9]? = some ce → ce.vm = .none → s.vm.findClass E = some ce.cls → vx_W p l e R s m args below meth c H1 locs1 (cells + mc) (slots + ms) Q (F0 m pc ls rest) q9)
    (kk : ∀ (r : Int64) (u : S) (t : State) (H1 : Heap) (locs1 : List Loc), t.heap = H1 → s.vm.Alike t.vm → post r u → B u t → H.size ≤ H1.size → (∀ q : Nat, q < H.size → ¬ A1 q → H1[q]? = H[q]?) → va_S A0 H0 H1 locs1 → W p l e R s m args below meth c H1 locs1 (cells + mc) (slots + ms) Q (F0 m (pc + 3) ls (.long r :: rest))) : W p l e R s m args below meth c H locs cells slots Q (F0 m pc ls st0) := by
  intro T hT X
  rcases hr T hT X with ⟨v, st₀, t, T', L, h0, X', hL, e1, e2, ⟨⟨r, u, hv, hp, hb⟩, hF⟩, st⟩ | ⟨q, st₀, t, T', L, E, ce, h0, X', hL, e1, e2, ⟨u, hp, hb, hF⟩, hce, hcv, hcl, st⟩
  · cases hv
    obtain ⟨k1, k2, k3⟩ := vx_keep h0 e1 hS hA hf hL hF
    obtain ⟨t2, a1, b1⟩ := kk r u t T'.heap (locs ++ L) e1.symm (by rw [← e2]; exact X'.warmed.alike) hp hb k1 k2 k3 T' rfl X'
    exact ⟨t2, st t2 a1, b1⟩
  · obtain ⟨k1, k2, k3⟩ := vx_keep h0 e1 hS hAX hf hL hF
    obtain ⟨t2, a1, b1⟩ := kx E ce q u t T'.heap (locs ++ L) e1.symm (by rw [← e2]; exact X'.warmed.alike) hp hb k1 k2 k3 (by rw [e1]; exact hce) hcv hcl T' rfl X'
    exact ⟨t2, st.trans a1, b1⟩
theorem vx_callf {S SX : Type} {post : UInt32 → S → Prop} {px : SX → Prop} {B : S → State → Prop} {BX : String → SX → State → Prop} {AX : Nat → Prop} (hr : vx_Run p l e R s m args below meth c H locs cells slots mc ms (F0 m pc ls st0) rest (va_Qf post B A1 a) (vx_X px BX AX) free) (hS : va_S A0 H0 H locs) (hA : ∀ q, q < H.size → A1 q → A0 q) (hf : ∀ q, free q → A0 q) (hAX : ∀ q, q < H.size → AX q → A0 q)
    (kx : ∀ (E : String) (ce : Cell) (q9 : Addr) (u : SX) (t : State) (H1 : Heap) (locs1 : List Loc), t.heap = H1 → s.vm.Alike t.vm → px u → BX E u t → H.size ≤ H1.size → (∀ q : Nat, q < H.size → ¬ AX q → H1[q]? = H[q]?) → va_S A0 H0 H1 locs1 → H1[q9]? = some ce → ce.vm = .none → s.vm.findClass E = some ce.cls → vx_W p l e R s m args below meth c H1 locs1 (cells + mc) (slots + ms) Q (F0 m pc ls rest) q9)
    (kk : ∀ (r : UInt32) (u : S) (t : State) (H1 : Heap) (locs1 : List Loc), t.heap = H1 → s.vm.Alike t.vm → post r u → B u t → H.size ≤ H1.size → (∀ q : Nat, q < H.size → ¬ A1 q → H1[q]? = H[q]?) → va_S A0 H0 H1 locs1 → W p l e R s m args below meth c H1 locs1 (cells + mc) (slots + ms) Q (F0 m (pc + 3) ls (.float r :: rest))) : W p l e R s m args below meth c H locs cells slots Q (F0 m pc ls st0) := by
  intro T hT X
  rcases hr T hT X with ⟨v, st₀, t, T', L, h0, X', hL, e1, e2, ⟨⟨r, u, hv, hp, hb⟩, hF⟩, st⟩ | ⟨q, st₀, t, T', L, E, ce, h0, X', hL, e1, e2, ⟨u, hp, hb, hF⟩, hce, hcv, hcl, st⟩
  · cases hv
    obtain ⟨k1, k2, k3⟩ := vx_keep h0 e1 hS hA hf hL hF
    obtain ⟨t2, a1, b1⟩ := kk r u t T'.heap (locs ++ L) e1.symm (by rw [← e2]; exact X'.warmed.alike) hp hb k1 k2 k3 T' rfl X'
    exact ⟨t2, st t2 a1, b1⟩
  · obtain ⟨k1, k2, k3⟩ := vx_keep h0 e1 hS hAX hf hL hF
    obtain ⟨t2, a1, b1⟩ := kx E ce q u t T'.heap (locs ++ L) e1.symm (by rw [← e2]; exact X'.warmed.alike) hp hb k1 k2 k3 (by rw [e1]; exact hce) hcv hcl T' rfl X'
    exact ⟨t2, st.trans a1, b1⟩
theorem vx_calld {S SX : Type} {post : UInt64 → S → Prop} {px : SX → Prop} {B : S → State → Prop} {BX : String → SX → State → Prop} {AX : Nat → Prop} (hr : vx_Run p l e R s m args below meth c H locs cells slots mc ms (F0 m pc ls st0) rest (va_Qd post B A1 a) (vx_X px BX AX) free) (hS : va_S A0 H0 H locs) (hA : ∀ q, q < H.size → A1 q → A0 q) (hf : ∀ q, free q → A0 q) (hAX : ∀ q, q < H.size → AX q → A0 q)
    (kx : ∀ (E : String) (ce : Cell) (q9 : Addr) (u : SX) (t : State) (H1 : Heap) (locs1 : List Loc), t.heap = H1 → s.vm.Alike t.vm → px u → BX E u t → H.size ≤ H1.size → (∀ q : Nat, q < H.size → ¬ AX q → H1[q]? = H[q]?) → va_S A0 H0 H1 locs1 → H1[q9]? = some ce → ce.vm = .none → s.vm.findClass E = some ce.cls → vx_W p l e R s m args below meth c H1 locs1 (cells + mc) (slots + ms) Q (F0 m pc ls rest) q9)
    (kk : ∀ (r : UInt64) (u : S) (t : State) (H1 : Heap) (locs1 : List Loc), t.heap = H1 → s.vm.Alike t.vm → post r u → B u t → H.size ≤ H1.size → (∀ q : Nat, q < H.size → ¬ A1 q → H1[q]? = H[q]?) → va_S A0 H0 H1 locs1 → W p l e R s m args below meth c H1 locs1 (cells + mc) (slots + ms) Q (F0 m (pc + 3) ls (.double r :: rest))) : W p l e R s m args below meth c H locs cells slots Q (F0 m pc ls st0) := by
  intro T hT X
  rcases hr T hT X with ⟨v, st₀, t, T', L, h0, X', hL, e1, e2, ⟨⟨r, u, hv, hp, hb⟩, hF⟩, st⟩ | ⟨q, st₀, t, T', L, E, ce, h0, X', hL, e1, e2, ⟨u, hp, hb, hF⟩, hce, hcv, hcl, st⟩
  · cases hv
    obtain ⟨k1, k2, k3⟩ := vx_keep h0 e1 hS hA hf hL hF
    obtain ⟨t2, a1, b1⟩ := kk r u t T'.heap (locs ++ L) e1.symm (by rw [← e2]; exact X'.warmed.alike) hp hb k1 k2 k3 T' rfl X'
    exact ⟨t2, st t2 a1, b1⟩
  · obtain ⟨k1, k2, k3⟩ := vx_keep h0 e1 hS hAX hf hL hF
    obtain ⟨t2, a1, b1⟩ := kx E ce q u t T'.heap (locs ++ L) e1.symm (by rw [← e2]; exact X'.warmed.alike) hp hb k1 k2 k3 (by rw [e1]; exact hce) hcv hcl T' rfl X'
    exact ⟨t2, st.trans a1, b1⟩
theorem vx_callv {S SX : Type} {post : S → Prop} {px : SX → Prop} {B : S → State → Prop} {BX : String → SX → State → Prop} {AX : Nat → Prop} (hr : vx_Run p l e R s m args below meth c H locs cells slots mc ms (F0 m pc ls st0) rest (va_Qv post B A1 a) (vx_X px BX AX) free) (hS : va_S A0 H0 H locs) (hA : ∀ q, q < H.size → A1 q → A0 q) (hf : ∀ q, free q → A0 q) (hAX : ∀ q, q < H.size → AX q → A0 q)
    (kx : ∀ (E : String) (ce : Cell) (q9 : Addr) (u : SX) (t : State) (H1 : Heap) (locs1 : List Loc), t.heap = H1 → s.vm.Alike t.vm → px u → BX E u t → H.size ≤ H1.size → (∀ q : Nat, q < H.size → ¬ AX q → H1[q]? = H[q]?) → va_S A0 H0 H1 locs1 → H1[q9]? = some ce → ce.vm = .none → s.vm.findClass E = some ce.cls → vx_W p l e R s m args below meth c H1 locs1 (cells + mc) (slots + ms) Q (F0 m pc ls rest) q9)
    (kk : ∀ (u : S) (t : State) (H1 : Heap) (locs1 : List Loc), t.heap = H1 → s.vm.Alike t.vm → post u → B u t → H.size ≤ H1.size → (∀ q : Nat, q < H.size → ¬ A1 q → H1[q]? = H[q]?) → va_S A0 H0 H1 locs1 → W p l e R s m args below meth c H1 locs1 (cells + mc) (slots + ms) Q (F0 m (pc + 3) ls (rest))) : W p l e R s m args below meth c H locs cells slots Q (F0 m pc ls st0) := by
  intro T hT X
  rcases hr T hT X with ⟨v, st₀, t, T', L, h0, X', hL, e1, e2, ⟨⟨u, hv, hp, hb⟩, hF⟩, st⟩ | ⟨q, st₀, t, T', L, E, ce, h0, X', hL, e1, e2, ⟨u, hp, hb, hF⟩, hce, hcv, hcl, st⟩
  · cases hv
    obtain ⟨k1, k2, k3⟩ := vx_keep h0 e1 hS hA hf hL hF
    obtain ⟨t2, a1, b1⟩ := kk u t T'.heap (locs ++ L) e1.symm (by rw [← e2]; exact X'.warmed.alike) hp hb k1 k2 k3 T' rfl X'
    exact ⟨t2, st t2 a1, b1⟩
  · obtain ⟨k1, k2, k3⟩ := vx_keep h0 e1 hS hAX hf hL hF
    obtain ⟨t2, a1, b1⟩ := kx E ce q u t T'.heap (locs ++ L) e1.symm (by rw [← e2]; exact X'.warmed.alike) hp hb k1 k2 k3 (by rw [e1]; exact hce) hcv hcl T' rfl X'
    exact ⟨t2, st.trans a1, b1⟩
/-- caught by the row x of this method's table; the rows ahead don't take it -/
theorem vx_catch {own name : String} {E : String} {ce : Cell} {q : Addr} (hown : s.vm.findClass own = some m.cls) (pre : List ExceptionTableEntry) (x : ExceptionTableEntry) (suf : List ExceptionTableEntry) (hsplit : c.exceptionTable.toList = pre ++ x :: suf)
    (hpass : ∀ z ∈ pre, covers z pc = false ∨ (z.catchType ≠ 0 ∧ ∃ nm : String, (Cond.classLink own z.catchType nm).before args s = true ∧ va_Nc E nm s)) (hx : covers x pc = true) (h0 : x.catchType ≠ 0)
    (hlink : (Cond.classLink own x.catchType name).before args s = true) (hcast : (Cond.castable E name).before args s = true) (hcell : H[q]? = some ce) (hv : ce.vm = .none) (hcl : s.vm.findClass E = some ce.cls)
    (kk : W p l e R s m args below meth c H locs cells slots Q (F0 m x.handlerPc ls [.ref q])) : vx_W p l e R s m args below meth c H locs cells slots Q (F0 m pc ls rest) q := by
  intro T hT X
  have hpl : e.platform.magicAccessors = ({} : Platform).magicAccessors := by rw [X.admits.platform]
  obtain ⟨c3, c4, hc3, hc4, hasg⟩ := Cond.castable_spec hcast
  cases Option.some.inj (hc3.symm.trans hcl)
  obtain ⟨c5, hc5, hcl5⟩ := Cond.classLink_spec hown hlink e.platform hpl
  cases Option.some.inj (hc4.symm.trans hc5)
  obtain ⟨vm', X', st⟩ := X.thenCaughtThrough q (g := F0 m pc ls rest) rfl (Steps.refl _) (by rw [hT]; exact hcell) (by rw [hv]; rfl) (by obtain ⟨k9, h9, -⟩ := Vm.findClass_spec hcl; exact ⟨k9, h9⟩) pre x suf hsplit
    (fun z hz => by
      rcases hpass z hz with h | ⟨hz0, nm, hl1, hn1⟩
      · exact Or.inl h
      · obtain ⟨c6, hc6, hcl6⟩ := Cond.classLink_spec hown hl1 e.platform hpl
        obtain ⟨a8, b8, h1, h2, h3⟩ := hn1
        cases Option.some.inj (h1.symm.trans hcl)
        cases Option.some.inj (h2.symm.trans hc6)
        exact Or.inr ⟨hz0, _, hcl6, h3⟩) hx (Or.inr ⟨h0, c4, hcl5, hasg⟩)
  obtain ⟨t, a1, b1⟩ := kk (T.setVm vm') hT X'
  exact ⟨t, st.trans a1, b1⟩
end Rows
section Ends
variable {p : Program} {l : Launch} {e : Env} {R : Room} {s : State} {m : MethodId} {args : Array Value} {below : List Frame} {meth : Method} {c : Code} {H : Heap} {locs : List Loc} {cells slots : Nat} {Q : State → Prop}
variable {mc ms : Nat} {free : Addr → Prop} {A0 A1 : Nat → Prop} {H0 : Heap} {a : Array Value} {ls : Array Slot} {st0 rest : List Value}
variable {Qc : Array Value → State → Outcome → State → Prop} {XC : String → State → State → Prop}
/-- what a body that may throw owes at its end -/
def vx_MQ (below : List Frame) (Qc : Array Value → State → Outcome → State → Prop) (XC : String → State → State → Prop) (a : Array Value) (s : State) (mc ms : Nat) (free : Addr → Prop) : State → Prop := fun t =>
  ∃ o, t.status = .running ∧ Ended t below o ∧ vx_Q Qc XC mc ms free a s o t
theorem vx_ret {g : JFrame} {mc ms : Nat} (k : W p l e R s m args below meth c H locs cells slots (MQ below Qc args s mc ms free) g) : W p l e R s m args below meth c H locs cells slots (vx_MQ below Qc XC args s mc ms free) g := by
  intro T hT X
  obtain ⟨t, a1, o, b1, b2, b3, b4⟩ := k T hT X
  exact ⟨t, a1, o, b1, b2, Or.inl ⟨b3, b4⟩⟩
/-- not caught here: it goes on to the caller -/
theorem vx_widen {g : JFrame} {q : Addr} {k n : Nat} (h1 : cells ≤ k) (h2 : slots ≤ n) (kk : vx_W p l e R s m args below meth c H locs k n Q g q) : vx_W p l e R s m args below meth c H locs cells slots Q g q := fun T hT X => kk T hT (stand_widen X h1 h2)
theorem vx_out {pc : Nat} {E : String} {ce : Cell} {q : Addr} {mc ms : Nat} (hout : ∀ x ∈ c.exceptionTable.toList, covers x pc = false) (hlocks : meth.locks = false) (hcell : H[q]? = some ce) (hv : ce.vm = .none) (hcl : s.vm.findClass E = some ce.cls)
    (hx : ∀ t : State, t.heap = H → s.vm.Alike t.vm → XC E s t) (hf : ∀ z ∈ locs, free z.base) (hc : cells ≤ mc) (hs : slots ≤ ms) :
    vx_W p l e R s m args below meth c H locs cells slots (vx_MQ below Qc XC args s mc ms free) (F0 m pc ls rest) q := by
  intro T hT X
  obtain ⟨st1, hrun, hend, hW, hsm⟩ := X.leaveThrown q (g := F0 m pc ls rest) rfl rfl rfl hout hlocks
  have hcell9 : (T.setFrames (.throwing q :: below)).heap[q]? = some ce := by
    show T.heap[q]? = some ce
    rw [hT]; exact hcell
  exact ⟨_, st1, .threw q, hrun, hend, Or.inr ⟨q, rfl, E, ce, locs, hx _ hT hW.alike, hcell9, hv, hcl, hW, hsm.mono hc hs, hf⟩⟩
theorem vx_frame {U : State} {k n : Nat} (h : s.sameButNew ({ U with vm := s.vm } : State) locs k n) : s.heap.size ≤ U.heap.size ∧ ∀ q : Nat, q < s.heap.size → (∀ z ∈ locs, z.base ≠ q) → U.heap[q]? = s.heap[q]? := by
  obtain ⟨-, h2, -, -, -, h6⟩ := h
  refine ⟨h2, fun q hq hz => ?_⟩
  obtain ⟨c9, e1, e2, e3, e4⟩ := h6 q _ (Array.getElem?_eq_getElem hq)
  have hs : c9.slots = (s.heap[q]).slots := Array.ext_getElem? fun i => e4 i fun hm => hz _ hm rfl
  have h9 : c9 = s.heap[q] := by
    rw [hs] at e2
    exact e2
  have e5 : U.heap[q]? = some c9 := e1
  rw [e5, h9, Array.getElem?_eq_getElem hq]
/-- the words of a throw but the four that speak of the heap -/
def vx_no (w : Cond) : Bool := decide (w ≠ .isRef (.static Bundle.tN "UNASSIGNED_STACK" Bundle.steD)) && decide (w ≠ .isRef (.static Bundle.tN "SUPPRESSED_SENTINEL" Bundle.listD)) && decide (w ≠ .laysStatic Bundle.tN "UNASSIGNED_STACK" Bundle.steD) && decide (w ≠ .laysStatic Bundle.tN "SUPPRESSED_SENTINEL" Bundle.listD)
def vx_at0 (own : String) (ic : Nat) (X : String) (names : List String) : List Cond := (Bundle.ownAtoms0 own ic X names).filter vx_no
def vx_atS (own : String) (ic : Nat) (X : String) (names : List String) : List Cond := (Bundle.ownAtoms own ic X names).filter vx_no
/-- a word that the tables alone decide, or a good one -/
def vx_ot (w : Cond) : Bool := w.onTables || goodWord w
theorem vx_ot_at {args a' : Array Value} {s U : State} {w : Cond} (hW : s.WarmedH U.vm) (hvm : s.vm = U.vm) (hg : vx_ot w = true) (h : w.before args s = true) : w.before a' U = true := by
  simp only [vx_ot, Bool.or_eq_true] at hg
  rcases hg with hg | hg
  · exact va_tabs hg hvm h
  · exact word_at hW (good_of_word hg) h
/-- a list's words: the good ones out of the method's own list, the others by premises of their own -/
theorem vx_hat {args : Array Value} {s : State} {L B : List Cond} (h1 : ∀ w ∈ L.filter goodWord, w.before args s = true) (h2 : ∀ w ∈ L.filter (fun w => !goodWord w), w ∈ B) (h3 : ∀ w ∈ B, w.before args s = true) : ∀ w ∈ L, w.before args s = true := by
  intro w hw
  by_cases g : goodWord w = true
  · exact h1 w (List.mem_filter.mpr ⟨hw, g⟩)
  · refine h3 w (h2 w (List.mem_filter.mpr ⟨hw, ?_⟩))
    show (!goodWord w) = true
    cases hgw : goodWord w
    · rfl
    · exact absurd hgw g
theorem vx_c {args : Array Value} {s : State} {w : Cond} {B : List Cond} (h : w.before args s = true) (t : ∀ w ∈ B, w.before args s = true) : ∀ w' ∈ w :: B, w'.before args s = true := fun w' h' => (List.mem_cons.mp h').elim (fun e => by rw [e]; exact h) (t w')
theorem vx_n {args : Array Value} {s : State} : ∀ w ∈ ([] : List Cond), w.before args s = true := fun _ h => nomatch h
theorem vx_own {args : Array Value} {s : State} {L : List Cond} (h1 : ∀ w ∈ L.filter vx_no, w.before args s = true)
    (hU : (Cond.isRef (.static Bundle.tN "UNASSIGNED_STACK" Bundle.steD)).before args s = true) (hN : (Cond.isRef (.static Bundle.tN "SUPPRESSED_SENTINEL" Bundle.listD)).before args s = true)
    (lU : (Cond.laysStatic Bundle.tN "UNASSIGNED_STACK" Bundle.steD).before args s = true) (lN : (Cond.laysStatic Bundle.tN "SUPPRESSED_SENTINEL" Bundle.listD).before args s = true) : ∀ w ∈ L, w.before args s = true := by
  intro w hw
  by_cases e1 : w = .isRef (.static Bundle.tN "UNASSIGNED_STACK" Bundle.steD)
  · rw [e1]; exact hU
  · by_cases e2 : w = .isRef (.static Bundle.tN "SUPPRESSED_SENTINEL" Bundle.listD)
    · rw [e2]; exact hN
    · by_cases e3 : w = .laysStatic Bundle.tN "UNASSIGNED_STACK" Bundle.steD
      · rw [e3]; exact lU
      · by_cases e4 : w = .laysStatic Bundle.tN "SUPPRESSED_SENTINEL" Bundle.listD
        · rw [e4]; exact lN
        · exact h1 w (List.mem_filter.mpr ⟨hw, by unfold vx_no; rw [decide_eq_true e1, decide_eq_true e2, decide_eq_true e3, decide_eq_true e4]; rfl⟩)
/-- where a static field lies, its class's statics cell in H -/
def vx_L (C n d : String) (A : Nat → Prop) (U : State) (H : Heap) : Prop := ∃ (c : ClassId) (k : Class) (i : Nat) (f : Field) (a : Nat) (cell : Cell), U.vm.findClass C = some c ∧ U.fieldFound? C n d = some (c, k, i, f) ∧ f.isStatic = true ∧ k.statics = some a ∧ H[a]? = some cell ∧ cell.vm.isStatics = true ∧ cell.cls = c ∧ f.slot < cell.slots.size ∧ k.staticTypes[f.slot]? = some f.type ∧ ¬ A a
theorem vx_L.moved {C n d : String} {A : Nat → Prop} {u U : State} {H : Heap} (hvm : u.vm.Alike U.vm) (h : vx_L C n d A u H) : vx_L C n d A U H := by
  obtain ⟨c, k, i, f, a, cell, h1, h2, h3, h4, h5, h6, h7, h8, h9, h10⟩ := h
  obtain ⟨k', hi', he⟩ := State.fieldFound?_setVm hvm h2
  exact ⟨c, k', i, f, a, cell, by rw [hvm.findClass]; exact h1, hi', h3, by rw [he]; exact h4, h5, h6, h7, h8, by rw [he]; exact h9, h10⟩
theorem vx_L.kept {C n d : String} {A : Nat → Prop} {U : State} {H H1 : Heap} (h : vx_L C n d A U H) (hq : ∀ a : Nat, a < H.size → ¬ A a → H1[a]? = H[a]?) : vx_L C n d A U H1 := by
  obtain ⟨c, k, i, f, a, cell, h1, h2, h3, h4, h5, h6, h7, h8, h9, h10⟩ := h
  exact ⟨c, k, i, f, a, cell, h1, h2, h3, h4, by rw [hq a (Array.getElem?_eq_some_iff.mp h5).1 h10]; exact h5, h6, h7, h8, h9, h10⟩
theorem vx_L.narrow {C n d : String} {A B : Nat → Prop} {U : State} {H : Heap} (h : vx_L C n d A U H) (hAB : ∀ q, B q → A q) : vx_L C n d B U H := by
  obtain ⟨c, k, i, f, a, cell, h1, h2, h3, h4, h5, h6, h7, h8, h9, h10⟩ := h
  exact ⟨c, k, i, f, a, cell, h1, h2, h3, h4, h5, h6, h7, h8, h9, fun z => h10 (hAB _ z)⟩
theorem vx_L.word {C n d : String} {A : Nat → Prop} {s : State} {args : Array Value} (h : vx_L C n d A s s.heap) : (Cond.laysStatic C n d).before args s = true := by
  obtain ⟨c, k, i, f, a, cell, h1, h2, h3, h4, h5, h6, h7, h8, h9, -⟩ := h
  show (Cond.laysStatic C n d).holds args s none s [] = true
  exact Cond.laysStatic_of h1 h2 h3 h4 h5 h6 h7 h8 h9
/-- .. and what it holds: null or some reference -/
def vx_Zq (C n d : String) (A : Nat → Prop) (U : State) (H : Heap) : Prop := va_Zq C n d A U H ∧ vx_L C n d A U H
theorem vx_Zq.moved {C n d : String} {A : Nat → Prop} {u U : State} {H : Heap} (hvm : u.vm.Alike U.vm) (h : vx_Zq C n d A u H) : vx_Zq C n d A U H := ⟨va_Zq.moved hvm h.1, vx_L.moved hvm h.2⟩
theorem vx_Zq.kept {C n d : String} {A : Nat → Prop} {U : State} {H H1 : Heap} (h : vx_Zq C n d A U H) (hq : ∀ a : Nat, a < H.size → ¬ A a → H1[a]? = H[a]?) : vx_Zq C n d A U H1 := ⟨va_Zq.kept h.1 hq, vx_L.kept h.2 hq⟩
theorem vx_Zq.narrow {C n d : String} {A B : Nat → Prop} {U : State} {H : Heap} (h : vx_Zq C n d A U H) (hAB : ∀ q, B q → A q) : vx_Zq C n d B U H := ⟨va_Zq.narrow h.1 hAB, vx_L.narrow h.2 hAB⟩
theorem vx_Zqof {args : Array Value} {s : State} {C n d : String} {A : Nat → Prop} (hl : (Cond.laysStatic C n d).before args s = true) (hini : (Cond.initialized C).before args s = true) (h : (Cond.isRef (.static C n d)).before args s = true) (hA : ∀ a : Nat, a < s.heap.size → ¬ A a) : vx_Zq C n d A s s.heap := by
  refine ⟨va_Zqof hl hini h hA, ?_⟩
  obtain ⟨c, k, i, f, a, cell, h1, h2, h3, h4, h5, h6, h7, h8, h9⟩ := Cond.laysStatic_spec hl
  exact ⟨c, k, i, f, a, cell, h1, h2, h3, h4, h5, h6, h7, h8, h9, hA a (Array.getElem?_eq_some_iff.mp h5).1⟩
theorem vx_isRef {C n d : String} {v : Value} {A : Nat → Prop} {s : State} {args : Array Value} (h : va_Z C n d v A s s.heap) (hv : v.isRef = true) : (Cond.isRef (.static C n d)).before args s = true := by
  obtain ⟨cf, kf, fi, f, a, cell, h1, h2, h3, h4, h5, h6, h7, -⟩ := h
  have he : (Term.static C n d).eval args s none [] s = some v := by
    simp [Term.eval, State.fieldNamed?, h1, h2, h4, h5, h6, h7]
  simp only [Cond.before, Cond.holds, Cond.value, he]
  cases v <;> simp_all [Value.isRef]
theorem vx_isRefq {C n d : String} {A : Nat → Prop} {s : State} {args : Array Value} (h : va_Zq C n d A s s.heap) : (Cond.isRef (.static C n d)).before args s = true := by
  rcases h with h | ⟨t, h⟩
  · exact vx_isRef h rfl
  · exact vx_isRef h rfl
/-- the same frame, seen from here: as if the method were called anew in this heap -/
theorem vx_rebase {T : State} (X : Stand p l e R s m args below meth c T locs cells slots) {R' : Room} (hf : R'.frames ≤ R.frames) (hl : R'.locals ≤ R.locals) (hc : cells + R'.cells ≤ R.cells) (hs : slots + R'.slots ≤ R.slots) :
    Stand p l e R' ((T.setVm s.vm).setFrames (.invoking m args :: below)) m args below meth c T [] 0 0 := by
  have htop : (T.setVm s.vm).topJava?.isSome := X.here.top
  have hF : ((T.setVm s.vm).setFrames (.invoking m args :: below)).frames = .invoking m args :: below := State.frames_setFrames _ (State.cur_lt_of_top htop)
  obtain ⟨g₀, hg0⟩ := Option.isSome_iff_exists.mp htop
  obtain ⟨r, hr⟩ := State.topJava?_eq_some.mp hg0
  have hl9 : e.platform.stackLimits (T.setVm s.vm).me = e.platform.stackLimits s.me := X.limits
  have hb9 : (T.setVm s.vm).me.stackBytes = s.me.stackBytes := X.bytes
  refine ⟨X.admits, X.cas, X.clock, hF, ?_, X.hears, X.method, X.code, X.here, X.tail, X.warmed, ?_, ?_, ?_⟩
  · have h := X.room
    have hU : ((T.setVm s.vm).setFrames (.invoking m args :: below)).localsInUse = s.localsInUse := by
      rw [State.localsInUse_invoking hF (meth := meth) (c := c) X.method X.code, State.localsInUse_invoking X.frames X.method X.code]
    simp only [State.hasRoom, Bool.and_eq_true, decide_eq_true_eq] at h ⊢
    obtain ⟨⟨⟨⟨h1, h2, h3, h4, h5, h6⟩, h7⟩, h8⟩, h9⟩ := h
    rw [X.frames, List.length_cons] at h2 h3
    have q1 := X.heapSize
    have q2 := X.used
    simp only [hF, hU, List.length_cons, State.stackLimits_setFrames, State.stackBytes_setFrames, hl9, hb9]
    refine ⟨⟨⟨⟨by omega, by omega, by omega, by omega, by omega, h6⟩, ?_⟩, ?_⟩, X.book⟩
    · show T.heap.size + R'.cells ≤ e.platform.maxCells
      omega
    · show T.slotsUsed + R'.slots ≤ e.platform.maxSlots
      omega
  · rw [State.stackLimits_setFrames]; rfl
  · rw [State.stackBytes_setFrames]; rfl
  · refine ⟨?_, Nat.le_refl _, Nat.le_refl _, ?_, ?_, fun a c9 h9 => ⟨c9, h9, rfl, rfl, fun _ _ => rfl⟩⟩
    · obtain ⟨t, ht, -⟩ := State.frames_cons hr
      show T.setVm s.vm = { ((T.setVm s.vm).setFrames (.invoking m args :: below)).setFrames (T.setVm s.vm).frames with heap := T.heap, slotsUsed := T.slotsUsed }
      rw [State.setFrames_setFrames, State.setFrames_self ht]
      rfl
    · show T.slotsUsed = T.slotsUsed + ((T.heap.toList.drop T.heap.size).map (·.slots.size)).sum
      rw [List.drop_eq_nil_of_le (Nat.le_of_eq Array.length_toList)]
      rfl
    · show ((T.heap.toList.drop T.heap.size).map (·.slots.size)).sum ≤ 0
      rw [List.drop_eq_nil_of_le (Nat.le_of_eq Array.length_toList)]
      exact Nat.le_refl _
/-- 'throw new E()': new; dup; invokespecial; athrow -/
theorem vx_throw0 {cc : ByteArray} {pc : Nat} (hexec : p.tables.exec = Jvm.exec) (hb : c.code = cc) (hl : l.stackTraces = false) {own cls : String} {names : List String} {ik ic mc ms : Nat} {A : Nat → Prop}
    (hown : s.vm.findClass own = some m.cls) (hcls : Bundle.fit cls = true) (hnames : ∀ n ∈ names, Bundle.fit n = true)
    (hk : (Cond.classLink own ik cls).before args s = true) (hini : (Cond.initialized cls).before args s = true) (hat : ∀ w ∈ vx_at0 own ic cls names, w.before args s = true)
    (hgood : ∀ w ∈ Cond.classLink own ik cls :: Cond.initialized cls :: vx_at0 own ic cls names, vx_ot w = true)
    (hU : vx_Zq Bundle.tN "UNASSIGNED_STACK" Bundle.steD A s s.heap) (hN : vx_Zq Bundle.tN "SUPPRESSED_SENTINEL" Bundle.listD A s s.heap) (hS : va_S A s.heap H locs) (hsize : ls.size = c.maxLocals)
    (d0 : decode cc pc = .ok (.new ik, 3)) (d3 : decode cc (pc + 3) = .ok (.dup, 1)) (d4 : decode cc (pc + 4) = .ok (.invokespecial ic, 3)) (d7 : decode cc (pc + 7) = .ok (.athrow, 1))
    (hout : ∀ x ∈ c.exceptionTable.toList, covers x (pc + 7) = false)
    (hRframes : names.length + 3 < R.frames) (hRlocals : (rest.map fun v => v.category).sum + (13 * (names.length + 1) + 42) ≤ R.locals) (hRcells : cells + 1 ≤ R.cells) (hRslots : slots + 6 ≤ R.slots) (hlocks : meth.locks = false)
    (hx : ∀ t : State, s.vm.Alike t.vm → H.size ≤ t.heap.size → (∀ q : Nat, q < H.size → t.heap[q]? = H[q]?) → XC cls s t)
    (hf : ∀ z ∈ locs, free z.base) (hc : cells + 1 ≤ mc) (hs : slots + 6 ≤ ms) :
    W p l e R s m args below meth c H locs cells slots (vx_MQ below Qc XC args s mc ms free) (F0 m pc ls rest) := by
  intro T hT X
  have htr : e.platform.stackTraces = false := (show e.platform.stackTraces = l.stackTraces by rw [X.admits.platform]).trans hl
  have Y := vx_rebase X (R' := { frames := R.frames, locals := R.locals, cells := 1, slots := 6 }) (Nat.le_refl _) (Nat.le_refl _) hRcells hRslots
  obtain ⟨s', hA⟩ : ∃ z, z = (T.setVm s.vm).setFrames (.invoking m args :: below) := ⟨_, rfl⟩
  rw [← hA] at Y
  have hvm : s'.vm = s.vm := by rw [hA]; rfl
  have hhp : s'.heap = H := by rw [hA]; exact hT
  have hW0 : s.WarmedH s'.vm := by rw [hvm]; exact State.WarmedH.refl s
  have hat' : ∀ w ∈ vx_at0 own ic cls names, w.before args s' = true := fun w hw => vx_ot_at hW0 hvm.symm (hgood w (List.mem_cons_of_mem _ (List.mem_cons_of_mem _ hw))) (hat w hw)
  have hk' : (Cond.classLink own ik cls).before args s' = true := vx_ot_at hW0 hvm.symm (hgood _ List.mem_cons_self) hk
  have hini' : (Cond.initialized cls).before args s' = true := vx_ot_at hW0 hvm.symm (hgood _ (List.mem_cons_of_mem _ List.mem_cons_self)) hini
  have hU' : vx_Zq Bundle.tN "UNASSIGNED_STACK" Bundle.steD A s' s'.heap := by rw [hhp]; exact vx_Zq.moved hW0.alike (hU.kept hS.2.1)
  have hN' : vx_Zq Bundle.tN "SUPPRESSED_SENTINEL" Bundle.listD A s' s'.heap := by rw [hhp]; exact vx_Zq.moved hW0.alike (hN.kept hS.2.1)
  have h : ∀ w ∈ Bundle.ownAtoms0 own ic cls names, w.before args s' = true := vx_own hat' (vx_isRefq hU'.1) (vx_isRefq hN'.1) hU'.2.word hN'.2.word
  have hown' : s'.vm.findClass own = some m.cls := by rw [hvm]; exact hown
  have hins : (Cond.instantiable cls 6).before args s' = true := h _ (by simp [Bundle.ownAtoms0])
  obtain ⟨vm₁, cX, kX, hfX, hkX, -, -, X₁, st1⟩ := Y.newCold hexec (own := own) (C := cls) (index := ik) (n := 6) hown' hk' hins hini'
    (g := F0 m pc ls rest) rfl (by rw [hb]; exact d0) (Nat.le_refl _) (Nat.le_refl _)
  generalize hT1 : (T.setVm vm₁).pushCell { cls := cX, slots := kX.instanceTypes.map defaultValue, vm := .none } = T1 at X₁ st1
  have hcat : (Value.ref T.heap.size).category = 1 := rfl
  have hcellA : T1.heap[T.heap.size]? = some (freshCell cX kX) := by rw [← hT1]; exact State.heap_pushCell_size _ _
  have d3' : decode c.code (pc + 3) = .ok (.dup, 1) := by rw [hb]; exact d3
  obtain ⟨U, hsteps, hrun, hend, hW, hsame, ce, hce, hO⟩ := X₁.ctorThrow0 hexec htr (own := own) (cls := cls) (names := names) (ic := ic) hown' hcls hnames h (fun x hx => nomatch hx) hfX hkX hcellA (by rw [hhp, hT]; exact Nat.le_refl _)
    (g := { method := m, pc := pc + 4, locals := ls, stack := .ref T.heap.size :: .ref T.heap.size :: rest, locked := none }) rfl hsize rfl rfl (rest := rest) rfl
    (by rw [hb]; exact d4) (by rw [hb]; exact d7) hout hRframes (by simp only [List.map_cons, List.sum_cons, hcat]; omega) hlocks
  obtain ⟨f1, f2⟩ := vx_frame hsame
  rw [hhp] at f1 f2
  have hWs : s.WarmedH U.vm := State.WarmedH.trans hW0 hW
  have hcl : s.vm.findClass cls = some ce.cls := by
    have h9 := hO.cls
    rw [hvm] at h9
    exact h9
  have hall : s.sameButNew ({ U with vm := s.vm } : State) locs mc ms := by
    subst hA
    obtain ⟨e1, e2⟩ := hsame
    rw [State.setFrames_setFrames] at e1
    have h2 : (T.setVm s.vm).sameButNew ({ U with vm := s.vm } : State) [] (0 + 1) (0 + 6) := ⟨e1, e2⟩
    have h3 := X.same.trans h2
    rw [List.append_nil] at h3
    exact h3.mono hc hs
  refine ⟨U, ?_, .threw T.heap.size, hrun, hend, Or.inr ⟨T.heap.size, rfl, cls, ce, locs, hx U hWs.alike f1 (fun q hq => f2 q hq (fun z hz => nomatch hz)), hce, hO.vm, hcl, hWs, hall, hf⟩⟩
  refine st1 _ ?_
  show Steps p.tables e below (T1.setTop { method := m, pc := pc + 3, locals := ls, stack := .ref T.heap.size :: rest, locked := none }) _
  jvm_step X₁.here [X₁.here.top, hexec, d3', Value.category]
  exact hsteps
/-- 'throw new E("text")': new; dup; ldc; invokespecial; athrow -/
theorem vx_throwS {cc : ByteArray} {pc : Nat} (hexec : p.tables.exec = Jvm.exec) (hb : c.code = cc) (hl : l.stackTraces = false) {own cls text : String} {names : List String} {ik is ic mc ms sa : Nat} {A : Nat → Prop}
    (hown : s.vm.findClass own = some m.cls) (hcls : Bundle.fit cls = true) (hnames : ∀ n ∈ names, Bundle.fit n = true)
    (hk : (Cond.classLink own ik cls).before args s = true) (hini : (Cond.initialized cls).before args s = true) (hstr : vk_R own is text sa s) (hat : ∀ w ∈ vx_atS own ic cls names, w.before args s = true)
    (hgood : ∀ w ∈ Cond.classLink own ik cls :: Cond.initialized cls :: vx_atS own ic cls names, vx_ot w = true)
    (hU : vx_Zq Bundle.tN "UNASSIGNED_STACK" Bundle.steD A s s.heap) (hN : vx_Zq Bundle.tN "SUPPRESSED_SENTINEL" Bundle.listD A s s.heap) (hS : va_S A s.heap H locs) (hsize : ls.size = c.maxLocals)
    (d0 : decode cc pc = .ok (.new ik, 3)) (d3 : decode cc (pc + 3) = .ok (.dup, 1)) (d4 : decode cc (pc + 4) = .ok (.ldc is, 2)) (d6 : decode cc (pc + 6) = .ok (.invokespecial ic, 3)) (d9 : decode cc (pc + 9) = .ok (.athrow, 1))
    (hout : ∀ x ∈ c.exceptionTable.toList, covers x (pc + 9) = false)
    (hRframes : names.length + 3 < R.frames) (hRlocals : (rest.map fun v => v.category).sum + (13 * (names.length + 1) + 43) ≤ R.locals) (hRcells : cells + 1 ≤ R.cells) (hRslots : slots + 6 ≤ R.slots) (hlocks : meth.locks = false)
    (hx : ∀ t : State, s.vm.Alike t.vm → H.size ≤ t.heap.size → (∀ q : Nat, q < H.size → t.heap[q]? = H[q]?) → XC cls s t)
    (hf : ∀ z ∈ locs, free z.base) (hc : cells + 1 ≤ mc) (hs : slots + 6 ≤ ms) :
    W p l e R s m args below meth c H locs cells slots (vx_MQ below Qc XC args s mc ms free) (F0 m pc ls rest) := by
  intro T hT X
  have htr : e.platform.stackTraces = false := (show e.platform.stackTraces = l.stackTraces by rw [X.admits.platform]).trans hl
  have Y := vx_rebase X (R' := { frames := R.frames, locals := R.locals, cells := 1, slots := 6 }) (Nat.le_refl _) (Nat.le_refl _) hRcells hRslots
  obtain ⟨s', hA⟩ : ∃ z, z = (T.setVm s.vm).setFrames (.invoking m args :: below) := ⟨_, rfl⟩
  rw [← hA] at Y
  have hvm : s'.vm = s.vm := by rw [hA]; rfl
  have hhp : s'.heap = H := by rw [hA]; exact hT
  have hW0 : s.WarmedH s'.vm := by rw [hvm]; exact State.WarmedH.refl s
  have hat' : ∀ w ∈ vx_atS own ic cls names, w.before args s' = true := fun w hw => vx_ot_at hW0 hvm.symm (hgood w (List.mem_cons_of_mem _ (List.mem_cons_of_mem _ hw))) (hat w hw)
  have hk' : (Cond.classLink own ik cls).before args s' = true := vx_ot_at hW0 hvm.symm (hgood _ List.mem_cons_self) hk
  have hini' : (Cond.initialized cls).before args s' = true := vx_ot_at hW0 hvm.symm (hgood _ (List.mem_cons_of_mem _ List.mem_cons_self)) hini
  have hU' : vx_Zq Bundle.tN "UNASSIGNED_STACK" Bundle.steD A s' s'.heap := by rw [hhp]; exact vx_Zq.moved hW0.alike (hU.kept hS.2.1)
  have hN' : vx_Zq Bundle.tN "SUPPRESSED_SENTINEL" Bundle.listD A s' s'.heap := by rw [hhp]; exact vx_Zq.moved hW0.alike (hN.kept hS.2.1)
  have h : ∀ w ∈ Bundle.ownAtoms own ic cls names, w.before args s' = true := vx_own hat' (vx_isRefq hU'.1) (vx_isRefq hN'.1) hU'.2.word hN'.2.word
  have hown' : s'.vm.findClass own = some m.cls := by rw [hvm]; exact hown
  have hins : (Cond.instantiable cls 6).before args s' = true := h _ (by simp [Bundle.ownAtoms])
  obtain ⟨vm₁, cX, kX, hfX, hkX, -, -, X₁, st1⟩ := Y.newCold hexec (own := own) (C := cls) (index := ik) (n := 6) hown' hk' hins hini'
    (g := F0 m pc ls rest) rfl (by rw [hb]; exact d0) (Nat.le_refl _) (Nat.le_refl _)
  generalize hT1 : (T.setVm vm₁).pushCell { cls := cX, slots := kX.instanceTypes.map defaultValue, vm := .none } = T1 at X₁ st1
  have hcat : (Value.ref T.heap.size).category = 1 := rfl
  have hcellA : T1.heap[T.heap.size]? = some (freshCell cX kX) := by rw [← hT1]; exact State.heap_pushCell_size _ _
  have d3' : decode c.code (pc + 3) = .ok (.dup, 1) := by rw [hb]; exact d3
  have d4' : decode c.code (pc + 4) = .ok (.ldc is, 2) := by rw [hb]; exact d4
  have hstr' : vk_R own is text sa s' := vk_R.warm hW0 hstr
  obtain ⟨U, hsteps, hrun, hend, hW, hsame, ce, hce, hO⟩ := X₁.ctorThrowS hexec htr (own := own) (cls := cls) (names := names) (ic := ic) hown' hcls hnames h (fun x hx => nomatch hx) hfX hkX hcellA (by rw [hhp, hT]; exact Nat.le_refl _) (msg := .ref sa) rfl
    (g := { method := m, pc := pc + 6, locals := ls, stack := .ref sa :: .ref T.heap.size :: .ref T.heap.size :: rest, locked := none }) rfl hsize rfl rfl (rest := rest) rfl
    (by rw [hb]; exact d6) (by rw [hb]; exact d9) hout hRframes (by simp only [List.map_cons, List.sum_cons, hcat]; omega) hlocks
  obtain ⟨f1, f2⟩ := vx_frame hsame
  rw [hhp] at f1 f2
  have hWs : s.WarmedH U.vm := State.WarmedH.trans hW0 hW
  have hcl : s.vm.findClass cls = some ce.cls := by
    have h9 := hO.cls
    rw [hvm] at h9
    exact h9
  have hall : s.sameButNew ({ U with vm := s.vm } : State) locs mc ms := by
    subst hA
    obtain ⟨e1, e2⟩ := hsame
    rw [State.setFrames_setFrames] at e1
    have h2 : (T.setVm s.vm).sameButNew ({ U with vm := s.vm } : State) [] (0 + 1) (0 + 6) := ⟨e1, e2⟩
    have h3 := X.same.trans h2
    rw [List.append_nil] at h3
    exact h3.mono hc hs
  refine ⟨U, ?_, .threw T.heap.size, hrun, hend, Or.inr ⟨T.heap.size, rfl, cls, ce, locs, hx U hWs.alike f1 (fun q hq => f2 q hq (fun z hz => nomatch hz)), hce, hO.vm, hcl, hWs, hall, hf⟩⟩
  refine st1 _ ?_
  show Steps p.tables e below (T1.setTop { method := m, pc := pc + 3, locals := ls, stack := .ref T.heap.size :: rest, locked := none }) _
  jvm_step X₁.here [X₁.here.top, hexec, d3', Value.category]
  exact X₁.ldcString hexec (own := own) (text := text) (index := is) (a := sa) hown' hstr'.1 hstr'.2
    (g := { method := m, pc := pc + 4, locals := ls, stack := .ref T.heap.size :: .ref T.heap.size :: rest, locked := none }) rfl d4' _ hsteps
/-- 'throw new E("text")', the text by a wide index -/
theorem vx_throwSW {cc : ByteArray} {pc : Nat} (hexec : p.tables.exec = Jvm.exec) (hb : c.code = cc) (hl : l.stackTraces = false) {own cls text : String} {names : List String} {ik is ic mc ms sa : Nat} {A : Nat → Prop}
    (hown : s.vm.findClass own = some m.cls) (hcls : Bundle.fit cls = true) (hnames : ∀ n ∈ names, Bundle.fit n = true)
    (hk : (Cond.classLink own ik cls).before args s = true) (hini : (Cond.initialized cls).before args s = true) (hstr : vk_R own is text sa s) (hat : ∀ w ∈ vx_atS own ic cls names, w.before args s = true)
    (hgood : ∀ w ∈ Cond.classLink own ik cls :: Cond.initialized cls :: vx_atS own ic cls names, vx_ot w = true)
    (hU : vx_Zq Bundle.tN "UNASSIGNED_STACK" Bundle.steD A s s.heap) (hN : vx_Zq Bundle.tN "SUPPRESSED_SENTINEL" Bundle.listD A s s.heap) (hS : va_S A s.heap H locs) (hsize : ls.size = c.maxLocals)
    (d0 : decode cc pc = .ok (.new ik, 3)) (d3 : decode cc (pc + 3) = .ok (.dup, 1)) (d4 : decode cc (pc + 4) = .ok (.ldc_w is, 3)) (d7 : decode cc (pc + 7) = .ok (.invokespecial ic, 3)) (d10 : decode cc (pc + 10) = .ok (.athrow, 1))
    (hout : ∀ x ∈ c.exceptionTable.toList, covers x (pc + 10) = false)
    (hRframes : names.length + 3 < R.frames) (hRlocals : (rest.map fun v => v.category).sum + (13 * (names.length + 1) + 43) ≤ R.locals) (hRcells : cells + 1 ≤ R.cells) (hRslots : slots + 6 ≤ R.slots) (hlocks : meth.locks = false)
    (hx : ∀ t : State, s.vm.Alike t.vm → H.size ≤ t.heap.size → (∀ q : Nat, q < H.size → t.heap[q]? = H[q]?) → XC cls s t)
    (hf : ∀ z ∈ locs, free z.base) (hc : cells + 1 ≤ mc) (hs : slots + 6 ≤ ms) :
    W p l e R s m args below meth c H locs cells slots (vx_MQ below Qc XC args s mc ms free) (F0 m pc ls rest) := by
  intro T hT X
  have htr : e.platform.stackTraces = false := (show e.platform.stackTraces = l.stackTraces by rw [X.admits.platform]).trans hl
  have Y := vx_rebase X (R' := { frames := R.frames, locals := R.locals, cells := 1, slots := 6 }) (Nat.le_refl _) (Nat.le_refl _) hRcells hRslots
  obtain ⟨s', hA⟩ : ∃ z, z = (T.setVm s.vm).setFrames (.invoking m args :: below) := ⟨_, rfl⟩
  rw [← hA] at Y
  have hvm : s'.vm = s.vm := by rw [hA]; rfl
  have hhp : s'.heap = H := by rw [hA]; exact hT
  have hW0 : s.WarmedH s'.vm := by rw [hvm]; exact State.WarmedH.refl s
  have hat' : ∀ w ∈ vx_atS own ic cls names, w.before args s' = true := fun w hw => vx_ot_at hW0 hvm.symm (hgood w (List.mem_cons_of_mem _ (List.mem_cons_of_mem _ hw))) (hat w hw)
  have hk' : (Cond.classLink own ik cls).before args s' = true := vx_ot_at hW0 hvm.symm (hgood _ List.mem_cons_self) hk
  have hini' : (Cond.initialized cls).before args s' = true := vx_ot_at hW0 hvm.symm (hgood _ (List.mem_cons_of_mem _ List.mem_cons_self)) hini
  have hU' : vx_Zq Bundle.tN "UNASSIGNED_STACK" Bundle.steD A s' s'.heap := by rw [hhp]; exact vx_Zq.moved hW0.alike (hU.kept hS.2.1)
  have hN' : vx_Zq Bundle.tN "SUPPRESSED_SENTINEL" Bundle.listD A s' s'.heap := by rw [hhp]; exact vx_Zq.moved hW0.alike (hN.kept hS.2.1)
  have h : ∀ w ∈ Bundle.ownAtoms own ic cls names, w.before args s' = true := vx_own hat' (vx_isRefq hU'.1) (vx_isRefq hN'.1) hU'.2.word hN'.2.word
  have hown' : s'.vm.findClass own = some m.cls := by rw [hvm]; exact hown
  have hins : (Cond.instantiable cls 6).before args s' = true := h _ (by simp [Bundle.ownAtoms])
  obtain ⟨vm₁, cX, kX, hfX, hkX, -, -, X₁, st1⟩ := Y.newCold hexec (own := own) (C := cls) (index := ik) (n := 6) hown' hk' hins hini'
    (g := F0 m pc ls rest) rfl (by rw [hb]; exact d0) (Nat.le_refl _) (Nat.le_refl _)
  generalize hT1 : (T.setVm vm₁).pushCell { cls := cX, slots := kX.instanceTypes.map defaultValue, vm := .none } = T1 at X₁ st1
  have hcat : (Value.ref T.heap.size).category = 1 := rfl
  have hcellA : T1.heap[T.heap.size]? = some (freshCell cX kX) := by rw [← hT1]; exact State.heap_pushCell_size _ _
  have d3' : decode c.code (pc + 3) = .ok (.dup, 1) := by rw [hb]; exact d3
  have d4' : decode c.code (pc + 4) = .ok (.ldc_w is, 3) := by rw [hb]; exact d4
  have hstr' : vk_R own is text sa s' := vk_R.warm hW0 hstr
  obtain ⟨U, hsteps, hrun, hend, hW, hsame, ce, hce, hO⟩ := X₁.ctorThrowS hexec htr (own := own) (cls := cls) (names := names) (ic := ic) hown' hcls hnames h (fun x hx => nomatch hx) hfX hkX hcellA (by rw [hhp, hT]; exact Nat.le_refl _) (msg := .ref sa) rfl
    (g := { method := m, pc := pc + 7, locals := ls, stack := .ref sa :: .ref T.heap.size :: .ref T.heap.size :: rest, locked := none }) rfl hsize rfl rfl (rest := rest) rfl
    (by rw [hb]; exact d7) (by rw [hb]; exact d10) hout hRframes (by simp only [List.map_cons, List.sum_cons, hcat]; omega) hlocks
  obtain ⟨f1, f2⟩ := vx_frame hsame
  rw [hhp] at f1 f2
  have hWs : s.WarmedH U.vm := State.WarmedH.trans hW0 hW
  have hcl : s.vm.findClass cls = some ce.cls := by
    have h9 := hO.cls
    rw [hvm] at h9
    exact h9
  have hall : s.sameButNew ({ U with vm := s.vm } : State) locs mc ms := by
    subst hA
    obtain ⟨e1, e2⟩ := hsame
    rw [State.setFrames_setFrames] at e1
    have h2 : (T.setVm s.vm).sameButNew ({ U with vm := s.vm } : State) [] (0 + 1) (0 + 6) := ⟨e1, e2⟩
    have h3 := X.same.trans h2
    rw [List.append_nil] at h3
    exact h3.mono hc hs
  refine ⟨U, ?_, .threw T.heap.size, hrun, hend, Or.inr ⟨T.heap.size, rfl, cls, ce, locs, hx U hWs.alike f1 (fun q hq => f2 q hq (fun z hz => nomatch hz)), hce, hO.vm, hcl, hWs, hall, hf⟩⟩
  refine st1 _ ?_
  show Steps p.tables e below (T1.setTop { method := m, pc := pc + 3, locals := ls, stack := .ref T.heap.size :: rest, locked := none }) _
  jvm_step X₁.here [X₁.here.top, hexec, d3', Value.category]
  exact X₁.ldcStringW hexec (own := own) (text := text) (index := is) (a := sa) hown' hstr'.1 hstr'.2
    (g := { method := m, pc := pc + 4, locals := ls, stack := .ref T.heap.size :: .ref T.heap.size :: rest, locked := none }) rfl d4' _ hsteps
end Ends
section Bodies
variable {l : Launch}
theorem vx_ofW {y : MethodName} {ws ws' : List Cond} {rm : Room} {Pc : Array Value → State → Prop} {Qc : Array Value → State → Outcome → State → Prop} {XC : String → State → State → Prop} {mc ms : Nat} {free : Addr → Prop} {cc : ByteArray} {maxL : Nat} {ret : Option FieldType}
    (hy : plainName y.cls = true) (hw : ws = Cond.code y cc maxL ret :: ws')
    (body : ∀ p e s m args below meth c s₁, BodyLoose p l y (headSpec ws rm) cc maxL ret e s m args below meth c s₁ → c.maxLocals = maxL → (∀ x ∈ c.exceptionTable.toList, False) → Pc args s →
      W p l e (headSpec ws rm).room s m args below meth c s.heap [] 0 0 (vx_MQ below Qc XC args s mc ms free) (entryFrame m args maxL)) : vx_Met l y ws rm Pc Qc XC mc ms free := by
  refine MetFree.of_bodyS (code := cc) (maxLocals := maxL) (ret := ret) hy ?_ ?_
  · intro args s m h hn
    obtain ⟨meth, c, h1, h2, h3, h4, h5, h6, -, -⟩ := Cond.code_spec hn (atoms_spec (ws := ws) h _ (by rw [hw]; exact List.mem_cons_self))
    exact ⟨meth, c, h1, h2, h3, h4, h5, h6⟩
  · intro p e s m args below meth c s₁ B hml hP _
    have hh0 : s₁.heap = s.heap := by rw [B.state]; rfl
    have ht : ∀ x ∈ c.exceptionTable.toList, False := by
      obtain ⟨meth9, c9, h1, h2, -, -, -, -, h7, -⟩ := Cond.code_spec B.named (atoms_spec (ws := ws) B.pre _ (by rw [hw]; exact List.mem_cons_self))
      cases Option.some.inj (h1.symm.trans B.method)
      cases Option.some.inj (h2.symm.trans (Stand.of_body B).code)
      intro x hx
      rw [Array.isEmpty_iff.mp h7] at hx
      cases hx
    obtain ⟨t, a1, o, b1, b2, b3⟩ := body p e s m args below meth c s₁ B hml ht hP s₁ hh0 (Stand.of_body B)
    exact ⟨t, o, a1, b1, b2, b3⟩
/-- the table of a body with handlers -/
theorem vx_table {p : Program} {x y : MethodName} {S : Spec} {cc bytes : ByteArray} {maxL maxL' : Nat} {ret ret' : Option FieldType} {e : Env} {s s₁ : State} {m : MethodId} {args : Array Value} {below : List Frame} {meth : Method} {c : Code} {hh : List (Nat × Nat × Nat × Nat)}
    (B : BodyLoose p l y S cc maxL ret e s m args below meth c s₁) (h : (Cond.codeWith y bytes maxL' ret' hh).before args s = true) : c.exceptionTable.toList = tableOf hh := by
  obtain ⟨m9, meth9, c9, hn9, h1, h2, -, -, h6, -⟩ := Cond.codeWith_spec h
  cases Option.some.inj (hn9.symm.trans B.named)
  cases Option.some.inj (h1.symm.trans B.method)
  cases Option.some.inj (h2.symm.trans (Stand.of_body B).code)
  rw [← h6, table_eq]
end Bodies
end VXA
/-! ===== END ===== -/
/-! ===== BEGIN a static call of a method with an exception table ===== -/
section VXS
variable {p : Program} {l : Launch} {e : Env} {R : Room} {s : State} {m : MethodId} {args : Array Value} {below : List Frame} {meth : Method} {c : Code} {T : State} {H : Heap} {locs : List Loc} {cells slots : Nat}
abbrev vx_CSW (R : Room) (s : State) (args : Array Value) (own : String) (index : Nat) (y : MethodName) (bytes : ByteArray) (maxL : Nat) (ret : Option FieldType) (hh : List (Nat × Nat × Nat × Nat)) (ws : List Cond) (rm : Room) (mc ms n : Nat) : Prop :=
  (rm.cells = mc ∧ rm.slots = ms ∧ rm.frames + 1 ≤ R.frames ∧ 8 + (maxL + 11) + rm.locals ≤ R.locals ∧ (∀ w ∈ ws, ∀ (a' : Array Value) (U : State), s.WarmedH U.vm → w.before a' U = true) ∧ Cond.codeWith y bytes maxL ret hh ∈ ws) ∧
  (Cond.codeWith y bytes maxL ret hh).before args s = true ∧ (Cond.initialized y.cls).before args s = true ∧ (y.cls ≠ "java/lang/invoke/MethodHandle" ∧ y.cls ≠ "java/lang/invoke/VarHandle") ∧
  (∀ sig, parseMethodDescriptor y.desc = some sig → n = sig.parameters.length) ∧ (Cond.methodLink own index y).before args s = true ∧ (Cond.static y).before args s = true
theorem vx_cwSW {own : String} {index maxL mc ms : Nat} {y : MethodName} {bytes : ByteArray} {ret : Option FieldType} {hh : List (Nat × Nat × Nat × Nat)} {Ts ws ws' : List Cond} {rm : Room} (n : Nat) (ht : ∀ w ∈ Ts, w.before args s = true) (hT : GoodIn Ts (va_wsS own index y ws)) (hw : ws = Cond.codeWith y bytes maxL ret hh :: ws') (hrc : rm.cells = mc) (hrs : rm.slots = ms)
    (hd : y.cls ≠ "java/lang/invoke/MethodHandle" ∧ y.cls ≠ "java/lang/invoke/VarHandle" ∧ (parseMethodDescriptor y.desc).map (fun d => d.parameters.length) = some n) (hR : rm.frames + 1 ≤ R.frames ∧ 8 + (maxL + 11) + rm.locals ≤ R.locals) :
    vx_CSW R s args own index y bytes maxL ret hh ws rm mc ms n := by
  have ok : ∀ w ∈ va_wsS own index y ws, w.before args s = true := fun w h => ht w (hT w h).1
  have hG : GoodIn Ts ws := fun w h => hT w (by unfold va_wsS; exact List.mem_append_right _ h)
  have hc : Cond.codeWith y bytes maxL ret hh ∈ ws := by rw [hw]; exact List.mem_cons_self
  refine ⟨⟨hrc, hrs, hR.1, hR.2, pay_in ht hG, hc⟩, ht _ (hG _ hc).1, ok _ (by simp [va_wsS]), ⟨hd.1, hd.2.1⟩, fun sig h => ?_, ok _ (by simp [va_wsS]), ok _ (by simp [va_wsS])⟩
  have h2 := hd.2.2
  rw [h] at h2
  exact (Option.some.inj h2).symm
theorem vx_callSW (X : Stand p l e R s m args below meth c T locs cells slots) (hexec : p.tables.exec = Jvm.exec) {own : String} {index : Nat} {y : MethodName} {bytes : ByteArray} {maxL : Nat} {ret : Option FieldType} {hh : List (Nat × Nat × Nat × Nat)}
    (hown : s.vm.findClass own = some m.cls) (hlink : (Cond.methodLink own index y).before args s = true) (hstat : (Cond.static y).before args s = true) (hinit : (Cond.initialized y.cls).before args s = true)
    (hcode : (Cond.codeWith y bytes maxL ret hh).before args s = true) (hy : y.cls ≠ "java/lang/invoke/MethodHandle" ∧ y.cls ≠ "java/lang/invoke/VarHandle")
    {W9 : Nat} {Pre : Pt → Array Value → Prop} {Post : Pt → Array Value → Option Value → Pt → Prop} (hK : Back l R p e below s args y 3 W9 Pre Post)
    {g : JFrame} (hg : g.method = m) (hsize : g.locals.size = c.maxLocals) {argsL rest : List Value} (hlen : ∀ sig, parseMethodDescriptor y.desc = some sig → argsL.length = sig.parameters.length)
    (hstack : g.stack = argsL.reverse ++ rest) (hW : 2 * g.monitorRoom + (rest.map fun v => v.category).sum ≤ W9) (hdg : decode c.code g.pc = .ok (.invokestatic index, 3))
    (hpre : ∀ vm₁, s.WarmedH vm₁ → Pre ⟨T.setVm vm₁, locs, cells, slots⟩ argsL.toArray) :
    ∃ (v : Option Value) (vm₁ : Vm) (B : Pt), s.WarmedH vm₁ ∧ Stand p l e R s m args below meth c B.U B.locs B.cells B.slots ∧ Post ⟨T.setVm vm₁, locs, cells, slots⟩ argsL.toArray v B ∧
      ∀ target, Steps p.tables e below (B.U.setTop { g with pc := g.pc + 3, stack := v.toList ++ rest }) target → Steps p.tables e below (T.setTop g) target := by
  obtain ⟨mk, methM, cM, hnamed, hmethM, -, -, -, -, -, -, hsigM⟩ := Cond.codeWith_spec hcode
  have hstatic : methM.isStatic = true := Cond.static_spec hnamed hmethM hstat
  obtain ⟨kP, hkP, -⟩ := className_of_methodNamed hnamed
  have hinitP : kP.init = .initialized := Cond.initialized_spec (findClass_of_methodNamed hnamed) hkP hinit
  obtain ⟨vm₁, X₁, hstep₁⟩ := X.invokestatic hexec hown hlink hnamed hmethM hstatic hkP hinitP hy (g := g) hg (argsL := argsL) (rest := rest) (hlen _ hsigM) hstack hdg
  obtain ⟨v, B, X', hpost, hsteps⟩ := hK m meth c ⟨T.setVm vm₁, locs, cells, slots⟩ { g with stack := rest } (.invokestatic index) mk argsL.toArray X₁ hg hsize hdg hW (X₁.named hnamed) (hpre vm₁ X₁.warmed)
  exact ⟨v, vm₁, B, X₁.warmed, X', hpost, fun target h => hstep₁ _ fun acts => by rw [doInvoke_state]; exact hsteps.trans h⟩
theorem vx_runSW {y : MethodName} {bytes cc : ByteArray} {maxL nL mc ms n index : Nat} {ret : Option FieldType} {hh : List (Nat × Nat × Nat × Nat)} {ws : List Cond} {rm : Room} {Pc : Array Value → State → Prop} {Qc : Array Value → State → Outcome → State → Prop} {free : Addr → Prop} {Ts : List Cond} {own : String} {As rest : List Value} {g : JFrame}
    (S : CallFix p m c cc nL s args Ts own) (hM : Met l y ws rm Pc Qc mc ms free) (cw : vx_CSW R s args own index y bytes maxL ret hh ws rm mc ms n) (hp : PreS s H Pc As)
    (hg : g.method = m) (hn : As.length = n) (hsize : g.locals.size = nL) (hstack : g.stack = As.reverse ++ rest) (hW : 2 * g.monitorRoom + (rest.map fun v => v.category).sum ≤ 8) (hdg : decode cc g.pc = .ok (.invokestatic index, 3)) (hf : cells + mc ≤ R.cells ∧ slots + ms ≤ R.slots) :
    va_Run p l e R s m args below meth c H locs cells slots mc ms g rest (Qc As.toArray) (free) := by
  obtain ⟨⟨hrc, hrs, hfr, hlo, hws, hcw⟩, hcode, hini, hy, hlen, hl, hstt⟩ := cw
  have hK : Back l R p e below s args y 3 8 (PreOf R mc ms Pc) (PostOf Qc mc ms free) := va_backW (hh := hh) (bytes := bytes) (maxL := maxL) (ret := ret) hM hp.1 hrc hrs hfr hlo hws hcw (fun a' U hW => word_at hW (Or.inl (by first | rfl | simp [Cond.onTables, Cond.keeps, Cond.steady])) hini)
  obtain ⟨hx, hb, hml, ho, -⟩ := S
  intro T hT X
  obtain ⟨v, vm₁, ⟨U', l2, c2, s2⟩, hW₁, X', ⟨g', mk, t, L, e1, e2, hq, h1, hL, h2, h3⟩, st⟩ := vx_callSW X hx (hh := hh) (bytes := bytes) (maxL := maxL) (ret := ret) ho hl hstt hini hcode hy hK hg (hsize.trans hml.symm) (argsL := As) (rest := rest) (fun sig h => hn.trans (hlen sig h)) hstack hW (by rw [hb]; exact hdg)
    (fun vm₁ hW₁ => ⟨hf.1, hf.2, hp.2 (T.setVm vm₁) hT hW₁⟩)
  dsimp only [Pt.U, Pt.locs, Pt.cells, Pt.slots] at X' e1 e2 h1 h2 h3 st
  subst h1; subst h2; subst h3
  exact ⟨v, (T.setVm vm₁).calling g' mk As.toArray, t, U', L, hT, X', hL, e1, e2, hq, st⟩
/-- not caught here, past rows that name other classes: it goes on to the caller -/
theorem vx_outP {p : Program} {l : Launch} {e : Env} {R : Room} {s : State} {m : MethodId} {args : Array Value} {below : List Frame} {meth : Method} {c : Code} {H : Heap} {locs : List Loc} {cells slots : Nat} {free : Addr → Prop} {ls : Array Slot} {rest : List Value} {Qc : Array Value → State → Outcome → State → Prop} {XC : String → State → State → Prop}
    {pc : Nat} {own E : String} {ce : Cell} {q : Addr} {mc ms : Nat} (hown : s.vm.findClass own = some m.cls) (hlocks : meth.locks = false)
    (hpass : ∀ z ∈ c.exceptionTable.toList, covers z pc = false ∨ (z.catchType ≠ 0 ∧ ∃ nm : String, (Cond.classLink own z.catchType nm).before args s = true ∧ va_Nc E nm s)) (hcell : H[q]? = some ce) (hv : ce.vm = .none) (hcl : s.vm.findClass E = some ce.cls)
    (hx : ∀ t : State, t.heap = H → s.vm.Alike t.vm → XC E s t) (hf : ∀ z ∈ locs, free z.base) (hc : cells ≤ mc) (hs : slots ≤ ms) :
    vx_W p l e R s m args below meth c H locs cells slots (vx_MQ below Qc XC args s mc ms free) (F0 m pc ls rest) q := by
  intro T hT X
  have hpl : e.platform.magicAccessors = ({} : Platform).magicAccessors := by rw [X.admits.platform]
  obtain ⟨vm', hW', X', st⟩ := X.outThrough hlocks q (g := F0 m pc ls rest) rfl rfl rfl (cell := ce) (by rw [hT]; exact hcell) (by rw [hv]; rfl)
    (by obtain ⟨k9, h9, -⟩ := Vm.findClass_spec hcl; exact ⟨k9, h9⟩) (fun z hz => by
      rcases hpass z hz with h | ⟨hz0, nm, hl1, hn1⟩
      · exact Or.inl h
      · obtain ⟨c6, hc6, hcl6⟩ := Cond.classLink_spec hown hl1 e.platform hpl
        obtain ⟨a8, b8, h1, h2, h3⟩ := hn1
        cases Option.some.inj (h1.symm.trans hcl)
        cases Option.some.inj (h2.symm.trans hc6)
        exact Or.inr ⟨hz0, _, hcl6, h3⟩)
  obtain ⟨g₀, hfr⟩ := X'.frames_eq
  have hcell9 : ((T.setVm vm').setFrames (.throwing q :: below)).heap[q]? = some ce := by
    show T.heap[q]? = some ce
    rw [hT]; exact hcell
  have hend : Ended ((T.setVm vm').setFrames (.throwing q :: below)) below (.threw q) := State.frames_setFrames _ (State.cur_lt_of_frames hfr)
  refine ⟨(T.setVm vm').setFrames (.throwing q :: below), ?_, .threw q, X'.here.running, hend, Or.inr ⟨q, rfl, E, ce, locs, hx _ hT (X'.ends _).1.alike, hcell9, hv, hcl, (X'.ends _).1, (X'.ends _).2.mono hc hs, hf⟩⟩
  rw [X.pushThrowing_eq]
  exact st
/-- a thing of a world lies in the heap -/
theorem vx_lt {D : va_G} {cl : List vw_C} {ws : va_W} {H1 : Heap} (h : va_P D cl ws H1) {k : Nat} {q : Nat × va_E} (hk : ws[k]? = some q) : q.1 < H1.size := (h k q hk).lt
end VXS
/-! ===== END ===== -/
/-! ===== BEGIN methods with a table of their own: called by a name, returning or throwing ===== -/
section VXH
/-! vx_backW, vx_callVX, vx_callSX, vx_callVW, vx_runVW, vx_runVX, vx_runSX, vx_ofWH follow the same proofs as their sisters above (Free/Laws.lean, Shelf42/LK1.lean); vx_outP calls Shelf42/NT130.lean (outThrough). -/
section
variable {l : Launch} {R : Room} {p : Program} {e : Env} {below : List Frame} {s : State} {sargs : Array Value} {y : MethodName} {len W9 : Nat}
theorem vx_backW {ws : List Cond} {rm : Room} {Pc : Array Value → State → Prop} {Qc : Array Value → State → Outcome → State → Prop} {XC : String → State → State → Prop} {mc ms : Nat} {free : Addr → Prop} {bytes : ByteArray} {maxL : Nat} {ret : Option FieldType} {hh : List (Nat × Nat × Nat × Nat)}
    (hM : vx_Met l y ws rm Pc Qc XC mc ms free) (hblind : FrameBlind Pc) (hrc : rm.cells = mc) (hrs : rm.slots = ms)
    (hframes : rm.frames + 1 ≤ R.frames) (hlocals : W9 + (maxL + 11) + rm.locals ≤ R.locals)
    (hws : ∀ w ∈ ws, ∀ a' U, s.WarmedH U.vm → w.before a' U = true) (hcode : Cond.codeWith y bytes maxL ret hh ∈ ws) (hinit : ∀ a' U, s.WarmedH U.vm → (Cond.initialized y.cls).before a' U = true) :
    vx_Back l R p e below s sargs y len W9 (PreOf R mc ms Pc) (PostOf Qc mc ms free) (vx_Post XC mc ms free) := by
  intro m meth c A g ig mk a X hg hsize hdg hW hn hp
  have h1 : (headSpec ws rm).pre.before a A.U = true := atoms_intro fun w hw => hws w hw _ _ X.warmed
  have h2 : (Cond.codeWith y bytes maxL ret hh).before a A.U = true := hws _ hcode _ _ X.warmed
  have h3 : (Cond.initialized y.cls).before a A.U = true := hinit _ _ X.warmed
  have h4 : A.cells + (headSpec ws rm).room.cells ≤ R.cells := by rw [show (headSpec ws rm).room.cells = mc from hrc]; exact hp.1
  have h5 : A.slots + (headSpec ws rm).room.slots ≤ R.slots := by rw [show (headSpec ws rm).room.slots = ms from hrs]; exact hp.2.1
  have hPc : Pc a (A.U.calling g mk a) := hblind _ _ _ _ hp.2.2
  obtain ⟨U, Ls, c0, s0⟩ := A
  dsimp only [Pt.U, Pt.locs, Pt.cells, Pt.slots] at h1 h2 h3 h4 h5 X hn hPc ⊢
  obtain ⟨m9, methY, cY, hn9, hmY, hcY, -, hlY, -⟩ := Cond.codeWith_spec h2
  cases Option.some.inj (hn9.symm.trans hn)
  obtain ⟨kY, hkY, -⟩ := className_of_methodNamed hn
  have hinitY : kY.init = .initialized := Cond.initialized_spec (findClass_of_methodNamed hn) hkY h3
  have h : At U g.method c below := by rw [hg]; exact X.here
  have hlocals9 : W9 + (maxL + 11) + (headSpec ws rm).room.locals ≤ R.locals := hlocals
  have happ : (headSpec ws rm).appliesLoose y e.platform (U.calling g mk a) = true :=
    Spec.appliesLoose_calling (g := g) h hdg hn hkY hinitY
      (X.room_calling (g := g) (R' := (headSpec ws rm).room) hsize hmY hcY hframes (by rw [hlY]; omega) h4 h5) h1
  obtain ⟨mid, hmid⟩ := h.above
  have hfr : (U.setTop g).frames = (.java g :: mid) ++ below := by rw [State.frames_setTop' g h.top, hmid]; rfl
  obtain ⟨o, s₂, hsteps, -, hend, hq⟩ := Steps.callFree hM p X.admits X.cas X.clock (acts := []) hfr happ hPc trivial
  have hq' : vx_Q Qc XC mc ms free a (U.calling g mk a) o s₂ := hq
  rw [State.frames_setTop' g h.top] at hend
  obtain ⟨g₀, hg0⟩ := Option.isSome_iff_exists.mp h.top
  obtain ⟨r, hr⟩ := State.topJava?_eq_some.mp hg0
  have hr' : (({ U with heap := s₂.heap, slotsUsed := s₂.slotsUsed } : State).setVm s₂.vm).frames = .java g₀ :: r := hr
  rcases hq' with ⟨hqc, L, hfe, hL⟩ | ⟨q, rfl, E, ce, L, hx, hce, hcv, hcl, hW₂, hsm, hL⟩
  · obtain ⟨⟨v, rfl⟩, hW₂, e2, q2, q3, q4, q5, q6⟩ := id hfe
    have e3 : s₂ = ({ (U.calling g mk a).setFrames s₂.frames with heap := s₂.heap, slotsUsed := s₂.slotsUsed } : State).setVm s₂.vm := by
      have : s₂ = ({ s₂ with vm := (U.calling g mk a).vm } : State).setVm s₂.vm := rfl
      rw [e2] at this
      exact this
    obtain ⟨c₂, i₂, len₂, hc₂, hd₂, hf₂⟩ := hend
    have hW' : U.WarmedH s₂.vm := hW₂
    have hcc : c₂ = c := by
      have h1 : s₂.code? g.method = U.code? g.method := by
        rw [State.code?_eq, State.code?_eq, hW'.alike.method?]
      exact Option.some.inj (hc₂.symm.trans (h1.trans h.code))
    subst hcc
    have hlen : len₂ = len := by rw [hdg] at hd₂; cases hd₂; rfl
    subst hlen
    have hs₂ : s₂ = (({ U with heap := s₂.heap, slotsUsed := s₂.slotsUsed } : State).setVm s₂.vm).setTop { g with pc := g.pc + len₂, stack := v.toList ++ g.stack } := by
      refine e3.trans ?_
      rw [hf₂, State.calling_eq h.top, State.setFrames_setFrames, State.setTop_of_frames _ hr', hr]
      rfl
    have hsame : U.sameButNew ({ U with heap := s₂.heap, slotsUsed := s₂.slotsUsed } : State) L mc ms := by
      refine ⟨?_, q2, q3, q4, q5, q6⟩
      obtain ⟨t, ht, -⟩ := State.frames_cons hr
      show ({ U with heap := s₂.heap, slotsUsed := s₂.slotsUsed } : State) = { U.setFrames U.frames with heap := s₂.heap, slotsUsed := s₂.slotsUsed }
      rw [State.setFrames_self ht]
    subst hg
    refine Or.inl ⟨v, ⟨(({ U with heap := s₂.heap, slotsUsed := s₂.slotsUsed } : State).setVm s₂.vm), Ls ++ L, c0 + mc, s0 + ms⟩,
      ⟨X.admits, X.cas, X.clock, X.frames, X.room, X.hears, X.method, X.code, (X.here.setHeapUsed s₂.heap s₂.slotsUsed).setVm hW'.alike, X.tail, State.WarmedH.trans X.warmed hW', X.limits, X.bytes, X.same.trans (hsame.setVm s.vm)⟩,
      ⟨g, mk, s₂, L, rfl, rfl, hqc, rfl, hL, rfl, rfl⟩, ?_⟩
    show Steps p.tables e below _ ((({ U with heap := s₂.heap, slotsUsed := s₂.slotsUsed } : State).setVm s₂.vm).setTop { g with pc := g.pc + len₂, stack := v.toList ++ g.stack })
    rw [← hs₂]
    exact hsteps
  · obtain ⟨e2, q2, q3, q4, q5, q6⟩ := id hsm
    have e3 : s₂ = ({ (U.calling g mk a).setFrames s₂.frames with heap := s₂.heap, slotsUsed := s₂.slotsUsed } : State).setVm s₂.vm := by
      have : s₂ = ({ s₂ with vm := (U.calling g mk a).vm } : State).setVm s₂.vm := rfl
      rw [e2] at this
      exact this
    have hf₂ : s₂.frames = .throwing q :: .java g :: U.frames.tail := hend
    have hW' : U.WarmedH s₂.vm := hW₂
    have hs₂ : s₂ = ((({ U with heap := s₂.heap, slotsUsed := s₂.slotsUsed } : State).setVm s₂.vm).setTop g).pushFrame (.throwing q) := by
      refine e3.trans ?_
      rw [hf₂, State.calling_eq h.top, State.setFrames_setFrames, State.pushFrame, State.frames_setTop _ hr', State.setTop_of_frames _ hr', State.setFrames_setFrames, hr]
      rfl
    have hsame : U.sameButNew ({ U with heap := s₂.heap, slotsUsed := s₂.slotsUsed } : State) L mc ms := by
      refine ⟨?_, q2, q3, q4, q5, q6⟩
      obtain ⟨t, ht, -⟩ := State.frames_cons hr
      show ({ U with heap := s₂.heap, slotsUsed := s₂.slotsUsed } : State) = { U.setFrames U.frames with heap := s₂.heap, slotsUsed := s₂.slotsUsed }
      rw [State.setFrames_self ht]
    subst hg
    refine Or.inr ⟨q, ⟨(({ U with heap := s₂.heap, slotsUsed := s₂.slotsUsed } : State).setVm s₂.vm), Ls ++ L, c0 + mc, s0 + ms⟩,
      ⟨X.admits, X.cas, X.clock, X.frames, X.room, X.hears, X.method, X.code, (X.here.setHeapUsed s₂.heap s₂.slotsUsed).setVm hW'.alike, X.tail, State.WarmedH.trans X.warmed hW', X.limits, X.bytes, X.same.trans (hsame.setVm s.vm)⟩,
      ⟨g, mk, s₂, L, E, ce, rfl, rfl, hx, hce, hcv, hcl, rfl, hL, rfl, rfl⟩, ?_⟩
    show Steps p.tables e below _ (((({ U with heap := s₂.heap, slotsUsed := s₂.slotsUsed } : State).setVm s₂.vm).setTop g).pushFrame (.throwing q))
    rw [← hs₂]
    exact hsteps
end
variable {p : Program} {l : Launch} {e : Env} {R : Room} {s : State} {m : MethodId} {args : Array Value} {below : List Frame} {meth : Method} {c : Code} {T : State} {H : Heap} {locs : List Loc} {cells slots : Nat}
theorem vx_callVX (X : Stand p l e R s m args below meth c T locs cells slots) (hexec : p.tables.exec = Jvm.exec) {own C : String} {index : Nat} {y : MethodName} {bytes : ByteArray} {maxL : Nat} {ret : Option FieldType} {hh : List (Nat × Nat × Nat × Nat)}
    (hown : s.vm.findClass own = some m.cls) (hlink : (Cond.methodLink own index y).before args s = true) (hinst : (Cond.instanceMethod y).before args s = true) (hsel : (Cond.selects C y y).before args s = true)
    (hcode : (Cond.codeWith y bytes maxL ret hh).before args s = true) (hy : y.cls ≠ "java/lang/invoke/MethodHandle" ∧ y.cls ≠ "java/lang/invoke/VarHandle")
    {W9 : Nat} {Pre : Pt → Array Value → Prop} {Post : Pt → Array Value → Option Value → Pt → Prop} {PostX : Pt → Array Value → Addr → Pt → Prop} (hK : vx_Back l R p e below s args y 3 W9 Pre Post PostX)
    {b : Addr} {cellB : Cell} (hcell : T.heap[b]? = some cellB) (hobj : cellB.vm.isStatics = false) (hcls : s.vm.findClass C = some cellB.cls)
    {g : JFrame} (hg : g.method = m) (hsize : g.locals.size = c.maxLocals) {argsL rest : List Value} (hlen : ∀ sig, parseMethodDescriptor y.desc = some sig → argsL.length = sig.parameters.length)
    (hstack : g.stack = argsL.reverse ++ .ref b :: rest) (hW : 2 * g.monitorRoom + (rest.map fun v => v.category).sum ≤ W9) (hdg : decode c.code g.pc = .ok (.invokevirtual index, 3))
    (hpre : ∀ vm₁, s.WarmedH vm₁ → Pre ⟨T.setVm vm₁, locs, cells, slots⟩ (Value.ref b :: argsL).toArray) :
    (∃ (v : Option Value) (vm₁ : Vm) (B : Pt), s.WarmedH vm₁ ∧ Stand p l e R s m args below meth c B.U B.locs B.cells B.slots ∧ Post ⟨T.setVm vm₁, locs, cells, slots⟩ (Value.ref b :: argsL).toArray v B ∧
      ∀ target, Steps p.tables e below (B.U.setTop { g with pc := g.pc + 3, stack := v.toList ++ rest }) target → Steps p.tables e below (T.setTop g) target) ∨
    (∃ (q : Addr) (vm₁ : Vm) (B : Pt), s.WarmedH vm₁ ∧ Stand p l e R s m args below meth c B.U B.locs B.cells B.slots ∧ PostX ⟨T.setVm vm₁, locs, cells, slots⟩ (Value.ref b :: argsL).toArray q B ∧
      Steps p.tables e below (T.setTop g) ((B.U.setTop { g with stack := rest }).pushFrame (.throwing q))) := by
  obtain ⟨mk, methM, hnamed, hmethM, hstM, habM⟩ := Cond.instanceMethod_spec hinst
  obtain ⟨m8, methM', cM, hn8, hmethM', -, -, -, -, -, -, hsigM⟩ := Cond.codeWith_spec hcode
  cases Option.some.inj (hn8.symm.trans hnamed)
  cases hmethM.symm.trans hmethM'
  obtain ⟨c2, r2, m2, q1, q2, q3, q4, kP, hkP, hkPi⟩ := Cond.selects_spec hsel
  cases hcls.symm.trans q1
  cases (State.methodFound?_of_named hnamed hy).symm.trans q2
  cases hnamed.symm.trans q3
  have hselP : selectMethod e.platform s.vm cellB.cls mk = .method mk := by rw [Launch.admits_selectMethod X.admits]; exact q4
  obtain ⟨vm₁, X₁, hstep₁⟩ := X.invokevirtual hexec hown hlink hnamed hmethM hstM hkP hkPi hy (a := b) (cell := cellB) hcell
    (fun z h => by rw [h] at hobj; cases hobj) hselP hmethM habM hkP hkPi (g := g) hg (argsL := argsL) (rest := rest) (hlen _ hsigM) hstack hdg
  rcases hK m meth c ⟨T.setVm vm₁, locs, cells, slots⟩ { g with stack := rest } (.invokevirtual index) mk (Value.ref b :: argsL).toArray X₁ hg hsize hdg hW (X₁.named hnamed) (hpre vm₁ X₁.warmed) with ⟨v, B, X', hpost, hsteps⟩ | ⟨q, B, X', hpost, hsteps⟩
  · exact Or.inl ⟨v, vm₁, B, X₁.warmed, X', hpost, fun target h => hstep₁ _ fun acts => by rw [doInvoke_state]; exact hsteps.trans h⟩
  · exact Or.inr ⟨q, vm₁, B, X₁.warmed, X', hpost, hstep₁ _ fun acts => by rw [doInvoke_state]; exact hsteps⟩
theorem vx_callSX (X : Stand p l e R s m args below meth c T locs cells slots) (hexec : p.tables.exec = Jvm.exec) {own : String} {index : Nat} {y : MethodName} {bytes : ByteArray} {maxL : Nat} {ret : Option FieldType} {hh : List (Nat × Nat × Nat × Nat)}
    (hown : s.vm.findClass own = some m.cls) (hlink : (Cond.methodLink own index y).before args s = true) (hstat : (Cond.static y).before args s = true) (hinit : (Cond.initialized y.cls).before args s = true)
    (hcode : (Cond.codeWith y bytes maxL ret hh).before args s = true) (hy : y.cls ≠ "java/lang/invoke/MethodHandle" ∧ y.cls ≠ "java/lang/invoke/VarHandle")
    {W9 : Nat} {Pre : Pt → Array Value → Prop} {Post : Pt → Array Value → Option Value → Pt → Prop} {PostX : Pt → Array Value → Addr → Pt → Prop} (hK : vx_Back l R p e below s args y 3 W9 Pre Post PostX)
    {g : JFrame} (hg : g.method = m) (hsize : g.locals.size = c.maxLocals) {argsL rest : List Value} (hlen : ∀ sig, parseMethodDescriptor y.desc = some sig → argsL.length = sig.parameters.length)
    (hstack : g.stack = argsL.reverse ++ rest) (hW : 2 * g.monitorRoom + (rest.map fun v => v.category).sum ≤ W9) (hdg : decode c.code g.pc = .ok (.invokestatic index, 3))
    (hpre : ∀ vm₁, s.WarmedH vm₁ → Pre ⟨T.setVm vm₁, locs, cells, slots⟩ argsL.toArray) :
    (∃ (v : Option Value) (vm₁ : Vm) (B : Pt), s.WarmedH vm₁ ∧ Stand p l e R s m args below meth c B.U B.locs B.cells B.slots ∧ Post ⟨T.setVm vm₁, locs, cells, slots⟩ argsL.toArray v B ∧
      ∀ target, Steps p.tables e below (B.U.setTop { g with pc := g.pc + 3, stack := v.toList ++ rest }) target → Steps p.tables e below (T.setTop g) target) ∨
    (∃ (q : Addr) (vm₁ : Vm) (B : Pt), s.WarmedH vm₁ ∧ Stand p l e R s m args below meth c B.U B.locs B.cells B.slots ∧ PostX ⟨T.setVm vm₁, locs, cells, slots⟩ argsL.toArray q B ∧
      Steps p.tables e below (T.setTop g) ((B.U.setTop { g with stack := rest }).pushFrame (.throwing q))) := by
  obtain ⟨mk, methM, cM, hnamed, hmethM, -, -, -, -, -, -, hsigM⟩ := Cond.codeWith_spec hcode
  have hstatic : methM.isStatic = true := Cond.static_spec hnamed hmethM hstat
  obtain ⟨kP, hkP, -⟩ := className_of_methodNamed hnamed
  have hinitP : kP.init = .initialized := Cond.initialized_spec (findClass_of_methodNamed hnamed) hkP hinit
  obtain ⟨vm₁, X₁, hstep₁⟩ := X.invokestatic hexec hown hlink hnamed hmethM hstatic hkP hinitP hy (g := g) hg (argsL := argsL) (rest := rest) (hlen _ hsigM) hstack hdg
  rcases hK m meth c ⟨T.setVm vm₁, locs, cells, slots⟩ { g with stack := rest } (.invokestatic index) mk argsL.toArray X₁ hg hsize hdg hW (X₁.named hnamed) (hpre vm₁ X₁.warmed) with ⟨v, B, X', hpost, hsteps⟩ | ⟨q, B, X', hpost, hsteps⟩
  · exact Or.inl ⟨v, vm₁, B, X₁.warmed, X', hpost, fun target h => hstep₁ _ fun acts => by rw [doInvoke_state]; exact hsteps.trans h⟩
  · exact Or.inr ⟨q, vm₁, B, X₁.warmed, X', hpost, hstep₁ _ fun acts => by rw [doInvoke_state]; exact hsteps⟩
theorem vx_callVW (X : Stand p l e R s m args below meth c T locs cells slots) (hexec : p.tables.exec = Jvm.exec) {own C : String} {index : Nat} {y : MethodName} {bytes : ByteArray} {maxL : Nat} {ret : Option FieldType} {hh : List (Nat × Nat × Nat × Nat)}
    (hown : s.vm.findClass own = some m.cls) (hlink : (Cond.methodLink own index y).before args s = true) (hinst : (Cond.instanceMethod y).before args s = true) (hsel : (Cond.selects C y y).before args s = true)
    (hcode : (Cond.codeWith y bytes maxL ret hh).before args s = true) (hy : y.cls ≠ "java/lang/invoke/MethodHandle" ∧ y.cls ≠ "java/lang/invoke/VarHandle")
    {W9 : Nat} {Pre : Pt → Array Value → Prop} {Post : Pt → Array Value → Option Value → Pt → Prop} (hK : Back l R p e below s args y 3 W9 Pre Post)
    {b : Addr} {cellB : Cell} (hcell : T.heap[b]? = some cellB) (hobj : cellB.vm.isStatics = false) (hcls : s.vm.findClass C = some cellB.cls)
    {g : JFrame} (hg : g.method = m) (hsize : g.locals.size = c.maxLocals) {argsL rest : List Value} (hlen : ∀ sig, parseMethodDescriptor y.desc = some sig → argsL.length = sig.parameters.length)
    (hstack : g.stack = argsL.reverse ++ .ref b :: rest) (hW : 2 * g.monitorRoom + (rest.map fun v => v.category).sum ≤ W9) (hdg : decode c.code g.pc = .ok (.invokevirtual index, 3))
    (hpre : ∀ vm₁, s.WarmedH vm₁ → Pre ⟨T.setVm vm₁, locs, cells, slots⟩ (Value.ref b :: argsL).toArray) :
    ∃ (v : Option Value) (vm₁ : Vm) (B : Pt), s.WarmedH vm₁ ∧ Stand p l e R s m args below meth c B.U B.locs B.cells B.slots ∧ Post ⟨T.setVm vm₁, locs, cells, slots⟩ (Value.ref b :: argsL).toArray v B ∧
      ∀ target, Steps p.tables e below (B.U.setTop { g with pc := g.pc + 3, stack := v.toList ++ rest }) target → Steps p.tables e below (T.setTop g) target := by
  obtain ⟨mk, methM, hnamed, hmethM, hstM, habM⟩ := Cond.instanceMethod_spec hinst
  obtain ⟨m8, methM', cM, hn8, hmethM', -, -, -, -, -, -, hsigM⟩ := Cond.codeWith_spec hcode
  cases Option.some.inj (hn8.symm.trans hnamed)
  cases hmethM.symm.trans hmethM'
  obtain ⟨c2, r2, m2, q1, q2, q3, q4, kP, hkP, hkPi⟩ := Cond.selects_spec hsel
  cases hcls.symm.trans q1
  cases (State.methodFound?_of_named hnamed hy).symm.trans q2
  cases hnamed.symm.trans q3
  have hselP : selectMethod e.platform s.vm cellB.cls mk = .method mk := by rw [Launch.admits_selectMethod X.admits]; exact q4
  obtain ⟨vm₁, X₁, hstep₁⟩ := X.invokevirtual hexec hown hlink hnamed hmethM hstM hkP hkPi hy (a := b) (cell := cellB) hcell
    (fun z h => by rw [h] at hobj; cases hobj) hselP hmethM habM hkP hkPi (g := g) hg (argsL := argsL) (rest := rest) (hlen _ hsigM) hstack hdg
  obtain ⟨v, B, X', hpost, hsteps⟩ := hK m meth c ⟨T.setVm vm₁, locs, cells, slots⟩ { g with stack := rest } (.invokevirtual index) mk (Value.ref b :: argsL).toArray X₁ hg hsize hdg hW (X₁.named hnamed) (hpre vm₁ X₁.warmed)
  exact ⟨v, vm₁, B, X₁.warmed, X', hpost, fun target h => hstep₁ _ fun acts => by rw [doInvoke_state]; exact hsteps.trans h⟩
abbrev vx_CVW (R : Room) (s : State) (args : Array Value) (own C : String) (index : Nat) (y : MethodName) (bytes : ByteArray) (maxL : Nat) (ret : Option FieldType) (hh : List (Nat × Nat × Nat × Nat)) (ws : List Cond) (rm : Room) (mc ms n : Nat) : Prop :=
  (rm.cells = mc ∧ rm.slots = ms ∧ rm.frames + 1 ≤ R.frames ∧ 8 + (maxL + 11) + rm.locals ≤ R.locals ∧ (∀ w ∈ ws, ∀ (a' : Array Value) (U : State), s.WarmedH U.vm → w.before a' U = true) ∧ Cond.codeWith y bytes maxL ret hh ∈ ws) ∧
  (Cond.codeWith y bytes maxL ret hh).before args s = true ∧ (Cond.initialized y.cls).before args s = true ∧ (y.cls ≠ "java/lang/invoke/MethodHandle" ∧ y.cls ≠ "java/lang/invoke/VarHandle") ∧
  (∀ sig, parseMethodDescriptor y.desc = some sig → n = sig.parameters.length) ∧ (Cond.methodLink own index y).before args s = true ∧ (Cond.instanceMethod y).before args s = true ∧ (Cond.selects C y y).before args s = true
theorem vx_cwVW {own C : String} {index maxL mc ms : Nat} {y : MethodName} {bytes : ByteArray} {ret : Option FieldType} {hh : List (Nat × Nat × Nat × Nat)} {Ts ws ws' : List Cond} {rm : Room} (n : Nat) (ht : ∀ w ∈ Ts, w.before args s = true) (hT : GoodIn Ts (wsV own index C y ws)) (hw : ws = Cond.codeWith y bytes maxL ret hh :: ws') (hrc : rm.cells = mc) (hrs : rm.slots = ms)
    (hd : y.cls = C ∧ y.cls ≠ "java/lang/invoke/MethodHandle" ∧ y.cls ≠ "java/lang/invoke/VarHandle" ∧ (parseMethodDescriptor y.desc).map (fun d => d.parameters.length) = some n) (hR : rm.frames + 1 ≤ R.frames ∧ 8 + (maxL + 11) + rm.locals ≤ R.locals) :
    vx_CVW R s args own C index y bytes maxL ret hh ws rm mc ms n := by
  obtain ⟨hC, hd⟩ := hd
  subst hC
  have ok : ∀ w ∈ wsV own index y.cls y ws, w.before args s = true := fun w h => ht w (hT w h).1
  have hG : GoodIn Ts ws := fun w h => hT w (by unfold wsV; exact List.mem_append_right _ h)
  have hc : Cond.codeWith y bytes maxL ret hh ∈ ws := by rw [hw]; exact List.mem_cons_self
  refine ⟨⟨hrc, hrs, hR.1, hR.2, pay_in ht hG, hc⟩, ht _ (hG _ hc).1, ok _ (by simp [wsV]), ⟨hd.1, hd.2.1⟩, fun sig h => ?_, ok _ (by simp [wsV]), ok _ (by simp [wsV]), ok _ (by simp [wsV])⟩
  have h2 := hd.2.2
  rw [h] at h2
  exact (Option.some.inj h2).symm
theorem vx_runVW {y : MethodName} {bytes cc : ByteArray} {maxL nL mc ms n index : Nat} {ret : Option FieldType} {hh : List (Nat × Nat × Nat × Nat)} {ws : List Cond} {rm : Room} {Pc : Array Value → State → Prop} {Qc : Array Value → State → Outcome → State → Prop} {free : Addr → Prop} {Ts : List Cond} {own C : String} {b : Addr} {As rest : List Value} {g : JFrame}
    (S : CallFix p m c cc nL s args Ts own) (hM : Met l y ws rm Pc Qc mc ms free) (cw : vx_CVW R s args own C index y bytes maxL ret hh ws rm mc ms n) (hp : PreV s H C b Pc As)
    (hg : g.method = m) (hn : As.length = n) (hsize : g.locals.size = nL) (hstack : g.stack = As.reverse ++ .ref b :: rest) (hW : 2 * g.monitorRoom + (rest.map fun v => v.category).sum ≤ 8) (hdg : decode cc g.pc = .ok (.invokevirtual index, 3)) (hf : cells + mc ≤ R.cells ∧ slots + ms ≤ R.slots) :
    va_Run p l e R s m args below meth c H locs cells slots mc ms g rest (Qc (Value.ref b :: As).toArray) free := by
  obtain ⟨⟨hrc, hrs, hfr, hlo, hws, hcw⟩, hcode, hini, hy, hlen, hl, hin, hse⟩ := cw
  have hK : Back l R p e below s args y 3 8 (PreOf R mc ms Pc) (PostOf Qc mc ms free) := va_backW (hh := hh) (bytes := bytes) (maxL := maxL) (ret := ret) hM hp.1 hrc hrs hfr hlo hws hcw (fun a' U hW => word_at hW (Or.inl (by first | rfl | simp [Cond.onTables, Cond.keeps, Cond.steady])) hini)
  obtain ⟨hx, hb, hml, ho, -⟩ := S
  obtain ⟨-, ⟨cellB, hcB, hoB, hclB⟩, hPc⟩ := hp
  intro T hT X
  obtain ⟨v, vm₁, ⟨U', l2, c2, s2⟩, hW₁, X', ⟨g', mk, t, L, e1, e2, hq, h1, hL, h2, h3⟩, st⟩ := vx_callVW X hx (C := C) (hh := hh) (bytes := bytes) (maxL := maxL) (ret := ret) ho hl hin hse hcode hy hK (by rw [hT]; exact hcB) hoB hclB hg (hsize.trans hml.symm) (argsL := As) (rest := rest) (fun sig h => hn.trans (hlen sig h)) hstack hW (by rw [hb]; exact hdg)
    (fun vm₁ hW₁ => ⟨hf.1, hf.2, hPc (T.setVm vm₁) hT hW₁⟩)
  dsimp only [Pt.U, Pt.locs, Pt.cells, Pt.slots] at X' e1 e2 h1 h2 h3 st
  subst h1; subst h2; subst h3
  exact ⟨v, (T.setVm vm₁).calling g' mk (Value.ref b :: As).toArray, t, U', L, hT, X', hL, e1, e2, hq, st⟩
section
variable {y : MethodName} {bytes cc : ByteArray} {maxL nL mc ms n index : Nat} {ret : Option FieldType} {ws : List Cond} {rm : Room} {Pc : Array Value → State → Prop} {Qc : Array Value → State → Outcome → State → Prop} {XC : String → State → State → Prop} {free : Addr → Prop} {Ts : List Cond} {own C : String} {b : Addr} {As rest : List Value} {g : JFrame}
theorem vx_runVX {hh : List (Nat × Nat × Nat × Nat)} (S : CallFix p m c cc nL s args Ts own) (hM : vx_Met l y ws rm Pc Qc XC mc ms free) (cw : vx_CVW R s args own C index y bytes maxL ret hh ws rm mc ms n) (hp : PreV s H C b Pc As)
    (hg : g.method = m) (hn : As.length = n) (hsize : g.locals.size = nL) (hstack : g.stack = As.reverse ++ .ref b :: rest) (hW : 2 * g.monitorRoom + (rest.map fun v => v.category).sum ≤ 8) (hdg : decode cc g.pc = .ok (.invokevirtual index, 3)) (hf : cells + mc ≤ R.cells ∧ slots + ms ≤ R.slots) :
    vx_Run p l e R s m args below meth c H locs cells slots mc ms g rest (Qc (Value.ref b :: As).toArray) XC free := by
  obtain ⟨⟨hrc, hrs, hfr, hlo, hws, hcw⟩, hcode, hini, hy, hlen, hl, hin, hse⟩ := cw
  have hK : vx_Back l R p e below s args y 3 8 (PreOf R mc ms Pc) (PostOf Qc mc ms free) (vx_Post XC mc ms free) := vx_backW (hh := hh) (bytes := bytes) (maxL := maxL) (ret := ret) hM hp.1 hrc hrs hfr hlo hws hcw (fun a' U hW => word_at hW (Or.inl (by first | rfl | simp [Cond.onTables, Cond.keeps, Cond.steady])) hini)
  obtain ⟨hx, hb, hml, ho, -⟩ := S
  obtain ⟨-, ⟨cellB, hcB, hoB, hclB⟩, hPc⟩ := hp
  intro T hT X
  rcases vx_callVX X hx (C := C) (hh := hh) (bytes := bytes) (maxL := maxL) (ret := ret) ho hl hin hse hcode hy hK (by rw [hT]; exact hcB) hoB hclB hg (hsize.trans hml.symm) (argsL := As) (rest := rest) (fun sig h => hn.trans (hlen sig h)) hstack hW (by rw [hb]; exact hdg)
    (fun vm₁ hW₁ => ⟨hf.1, hf.2, hPc (T.setVm vm₁) hT hW₁⟩) with ⟨v, vm₁, ⟨U', l2, c2, s2⟩, hW₁, X', ⟨g', mk, t, L, e1, e2, hq, h1, hL, h2, h3⟩, st⟩ | ⟨q, vm₁, ⟨U', l2, c2, s2⟩, hW₁, X', ⟨g', mk, t, L, E, ce, e1, e2, hq, hce, hcv, hcl, h1, hL, h2, h3⟩, st⟩
  · dsimp only [Pt.U, Pt.locs, Pt.cells, Pt.slots] at X' e1 e2 h1 h2 h3 st
    subst h1; subst h2; subst h3
    exact Or.inl ⟨v, (T.setVm vm₁).calling g' mk (Value.ref b :: As).toArray, t, U', L, hT, X', hL, e1, e2, hq, st⟩
  · dsimp only [Pt.U, Pt.locs, Pt.cells, Pt.slots] at X' e1 e2 h1 h2 h3 st hcl
    subst h1; subst h2; subst h3
    exact Or.inr ⟨q, (T.setVm vm₁).calling g' mk (Value.ref b :: As).toArray, t, U', L, E, ce, hT, X', hL, e1, e2, hq, hce, hcv, vx_cls hW₁ hcl, st⟩
theorem vx_runSX {hh : List (Nat × Nat × Nat × Nat)} (S : CallFix p m c cc nL s args Ts own) (hM : vx_Met l y ws rm Pc Qc XC mc ms free) (cw : vx_CSW R s args own index y bytes maxL ret hh ws rm mc ms n) (hp : PreS s H Pc As)
    (hg : g.method = m) (hn : As.length = n) (hsize : g.locals.size = nL) (hstack : g.stack = As.reverse ++ rest) (hW : 2 * g.monitorRoom + (rest.map fun v => v.category).sum ≤ 8) (hdg : decode cc g.pc = .ok (.invokestatic index, 3)) (hf : cells + mc ≤ R.cells ∧ slots + ms ≤ R.slots) :
    vx_Run p l e R s m args below meth c H locs cells slots mc ms g rest (Qc As.toArray) XC free := by
  obtain ⟨⟨hrc, hrs, hfr, hlo, hws, hcw⟩, hcode, hini, hy, hlen, hl, hstt⟩ := cw
  have hK : vx_Back l R p e below s args y 3 8 (PreOf R mc ms Pc) (PostOf Qc mc ms free) (vx_Post XC mc ms free) := vx_backW (hh := hh) (bytes := bytes) (maxL := maxL) (ret := ret) hM hp.1 hrc hrs hfr hlo hws hcw (fun a' U hW => word_at hW (Or.inl (by first | rfl | simp [Cond.onTables, Cond.keeps, Cond.steady])) hini)
  obtain ⟨hx, hb, hml, ho, -⟩ := S
  intro T hT X
  rcases vx_callSX X hx (hh := hh) (bytes := bytes) (maxL := maxL) (ret := ret) ho hl hstt hini hcode hy hK hg (hsize.trans hml.symm) (argsL := As) (rest := rest) (fun sig h => hn.trans (hlen sig h)) hstack hW (by rw [hb]; exact hdg)
    (fun vm₁ hW₁ => ⟨hf.1, hf.2, hp.2 (T.setVm vm₁) hT hW₁⟩) with ⟨v, vm₁, ⟨U', l2, c2, s2⟩, hW₁, X', ⟨g', mk, t, L, e1, e2, hq, h1, hL, h2, h3⟩, st⟩ | ⟨q, vm₁, ⟨U', l2, c2, s2⟩, hW₁, X', ⟨g', mk, t, L, E, ce, e1, e2, hq, hce, hcv, hcl, h1, hL, h2, h3⟩, st⟩
  · dsimp only [Pt.U, Pt.locs, Pt.cells, Pt.slots] at X' e1 e2 h1 h2 h3 st
    subst h1; subst h2; subst h3
    exact Or.inl ⟨v, (T.setVm vm₁).calling g' mk As.toArray, t, U', L, hT, X', hL, e1, e2, hq, st⟩
  · dsimp only [Pt.U, Pt.locs, Pt.cells, Pt.slots] at X' e1 e2 h1 h2 h3 st hcl
    subst h1; subst h2; subst h3
    exact Or.inr ⟨q, (T.setVm vm₁).calling g' mk As.toArray, t, U', L, E, ce, hT, X', hL, e1, e2, hq, hce, hcv, vx_cls hW₁ hcl, st⟩
end
end VXH
theorem vx_ofWH {l : Launch} {y : MethodName} {ws ws' : List Cond} {rm : Room} {Pc : Array Value → State → Prop} {Qc : Array Value → State → Outcome → State → Prop} {XC : String → State → State → Prop} {mc ms : Nat} {free : Addr → Prop} {cc : ByteArray} {maxL : Nat} {ret : Option FieldType} {hh : List (Nat × Nat × Nat × Nat)}
    (hy : plainName y.cls = true) (hw : ws = Cond.codeWith y cc maxL ret hh :: ws')
    (body : ∀ p e s m args below meth c s₁, BodyLoose p l y (headSpec ws rm) cc maxL ret e s m args below meth c s₁ → c.maxLocals = maxL → Pc args s →
      W p l e (headSpec ws rm).room s m args below meth c s.heap [] 0 0 (vx_MQ below Qc XC args s mc ms free) (entryFrame m args maxL)) : vx_Met l y ws rm Pc Qc XC mc ms free := by
  refine MetFree.of_bodyS (code := cc) (maxLocals := maxL) (ret := ret) hy ?_ ?_
  · intro args s m h hn
    obtain ⟨m9, meth, c, hn9, h1, h2, h3, h4, -, h5, h6, -⟩ := Cond.codeWith_spec (atoms_spec (ws := ws) h _ (by rw [hw]; exact List.mem_cons_self))
    cases hn.symm.trans hn9
    exact ⟨meth, c, h1, h2, h3, h4, h5, h6⟩
  · intro p e s m args below meth c s₁ B hml hP _
    have hh0 : s₁.heap = s.heap := by rw [B.state]; rfl
    obtain ⟨t, a1, o, b1, b2, b3⟩ := body p e s m args below meth c s₁ B hml hP s₁ hh0 (Stand.of_body B)
    exact ⟨t, o, a1, b1, b2, b3⟩
/-! ===== END ===== -/
end
section
/-! ===== BEGIN printed: names, fields, word lists, decode rows ===== -/
def RX0 : String := "Branchyard$Cell"
def TX0 : u_T := fun k => match k with
  | 0 => ("Branchyard$Cell", "inputs", "[I", true)
  | 1 => ("Branchyard$Cell", "good", "Z", true)
  | _ => ("Branchyard$Cell", "next", "LBranchyard$Cell;", true)
def tyX0 : Nat → FieldType := fun k => match k with
  | 0 => .array .int
  | 1 => .boolean
  | _ => .object "Branchyard$Cell"
abbrev wsX00 : List Cond := u_ws RX0 TX0 3
theorem nmX0 : ∀ a, a < 3 → ∀ b, b < 3 → a ≠ b → (TX0 a).2.1 ≠ (TX0 b).2.1 := by decide +kernel
theorem tyX0_ok : ∀ k, k < 3 → parseFieldDescriptor (TX0 k).2.2.1 = some (tyX0 k) := by decide +kernel
abbrev cX0_init : ByteArray := prog_2_method_1_code
def yX0_init : MethodName := ⟨RX0, "<init>", "([IZLBranchyard$Cell;)V"⟩
abbrev cX0_holds : ByteArray := prog_2_method_2_code
def yX0_holds : MethodName := ⟨RX0, "holds", "([II)Z"⟩
def RX1 : String := "Branchyard$Change"
def TX1 : u_T := fun k => match k with
  | 0 => ("Branchyard$Change", "author", "I", false)
  | 1 => ("Branchyard$Change", "state", "C", false)
  | 2 => ("Branchyard$Change", "failed", "Z", false)
  | 3 => ("Branchyard$Change", "edits", "J", false)
  | 4 => ("Branchyard$Change", "clashing", "J", false)
  | 5 => ("Branchyard$Change", "values", "[I", true)
  | 6 => ("Branchyard$Change", "votes", "[I", true)
  | 7 => ("Branchyard$Change", "coveredPlaces", "[J", true)
  | _ => ("Branchyard$Change", "coveredValues", "[[I", true)
def tyX1 : Nat → FieldType := fun k => match k with
  | 0 => .int
  | 1 => .char
  | 2 => .boolean
  | 3 => .long
  | 4 => .long
  | 5 => .array .int
  | 6 => .array .int
  | 7 => .array .long
  | _ => .array (.array .int)
abbrev wsX10 : List Cond := u_ws RX1 TX1 9
theorem nmX1 : ∀ a, a < 9 → ∀ b, b < 9 → a ≠ b → (TX1 a).2.1 ≠ (TX1 b).2.1 := by decide +kernel
theorem tyX1_ok : ∀ k, k < 9 → parseFieldDescriptor (TX1 k).2.2.1 = some (tyX1 k) := by decide +kernel
abbrev cX1_init : ByteArray := prog_3_method_1_code
def yX1_init : MethodName := ⟨RX1, "<init>", "()V"⟩
abbrev cX1_editCount : ByteArray := prog_3_method_2_code
def yX1_editCount : MethodName := ⟨RX1, "editCount", "()I"⟩
abbrev cX1_clashCount : ByteArray := prog_3_method_3_code
def yX1_clashCount : MethodName := ⟨RX1, "clashCount", "()I"⟩
abbrev cX1_hasEdit : ByteArray := prog_3_method_4_code
def yX1_hasEdit : MethodName := ⟨RX1, "hasEdit", "(I)Z"⟩
abbrev cX1_putEdit : ByteArray := prog_3_method_5_code
def yX1_putEdit : MethodName := ⟨RX1, "putEdit", "(II)V"⟩
abbrev cX1_removeEdit : ByteArray := prog_3_method_6_code
def yX1_removeEdit : MethodName := ⟨RX1, "removeEdit", "(I)V"⟩
abbrev cX1_touches : ByteArray := prog_3_method_7_code
def yX1_touches : MethodName := ⟨RX1, "touches", "(I)Z"⟩
abbrev cX1_applyTo : ByteArray := prog_3_method_8_code
def yX1_applyTo : MethodName := ⟨RX1, "applyTo", "([I)V"⟩
abbrev cX1_voteFor : ByteArray := prog_3_method_9_code
def yX1_voteFor : MethodName := ⟨RX1, "voteFor", "(I)V"⟩
abbrev cX1_voteAgainst : ByteArray := prog_3_method_10_code
def yX1_voteAgainst : MethodName := ⟨RX1, "voteAgainst", "(I)V"⟩
abbrev cX1_verdictBy : ByteArray := prog_3_method_11_code
def yX1_verdictBy : MethodName := ⟨RX1, "verdictBy", "(II)C"⟩
abbrev cX1_coversAll : ByteArray := prog_3_method_12_code
def yX1_coversAll : MethodName := ⟨RX1, "coversAll", "(II)Z"⟩
abbrev cX1_covers : ByteArray := prog_3_method_13_code
def yX1_covers : MethodName := ⟨RX1, "covers", "(II)Z"⟩
abbrev cX1_bringUpToDate : ByteArray := prog_3_method_14_code
def yX1_bringUpToDate : MethodName := ⟨RX1, "bringUpToDate", "()V"⟩
def RX2 : String := "Branchyard$Order"
def TX2 : u_T := fun k => match k with
  | 0 => ("Branchyard$Order", "numbers", "[I", true)
  | _ => ("Branchyard$Order", "size", "I", false)
def tyX2 : Nat → FieldType := fun k => match k with
  | 0 => .array .int
  | _ => .int
abbrev wsX20 : List Cond := u_ws RX2 TX2 2
theorem nmX2 : ∀ a, a < 2 → ∀ b, b < 2 → a ≠ b → (TX2 a).2.1 ≠ (TX2 b).2.1 := by decide +kernel
theorem tyX2_ok : ∀ k, k < 2 → parseFieldDescriptor (TX2 k).2.2.1 = some (tyX2 k) := by decide +kernel
abbrev cX2_init : ByteArray := prog_4_method_1_code
def yX2_init : MethodName := ⟨RX2, "<init>", "()V"⟩
abbrev cX2_at : ByteArray := prog_4_method_2_code
def yX2_at : MethodName := ⟨RX2, "at", "(I)I"⟩
abbrev cX2_append : ByteArray := prog_4_method_3_code
def yX2_append : MethodName := ⟨RX2, "append", "(I)V"⟩
abbrev cX2_drop : ByteArray := prog_4_method_4_code
def yX2_drop : MethodName := ⟨RX2, "drop", "(I)V"⟩
def RX3 : String := "Branchyard$Test"
def TX3 : u_T := fun k => match k with
  | 0 => ("Branchyard$Test", "first", "I", false)
  | 1 => ("Branchyard$Test", "second", "I", false)
  | 2 => ("Branchyard$Test", "limit", "I", false)
  | _ => ("Branchyard$Test", "counts", "Z", false)
def tyX3 : Nat → FieldType := fun k => match k with
  | 0 => .int
  | 1 => .int
  | 2 => .int
  | _ => .boolean
abbrev wsX30 : List Cond := u_ws RX3 TX3 4
theorem nmX3 : ∀ a, a < 4 → ∀ b, b < 4 → a ≠ b → (TX3 a).2.1 ≠ (TX3 b).2.1 := by decide +kernel
theorem tyX3_ok : ∀ k, k < 4 → parseFieldDescriptor (TX3 k).2.2.1 = some (tyX3 k) := by decide +kernel
abbrev cX3_init : ByteArray := prog_5_method_1_code
def yX3_init : MethodName := ⟨RX3, "<init>", "()V"⟩
abbrev cX3_isOf : ByteArray := prog_5_method_2_code
def yX3_isOf : MethodName := ⟨RX3, "isOf", "(I)Z"⟩
abbrev cX3_passes : ByteArray := prog_5_method_3_code
def yX3_passes : MethodName := ⟨RX3, "passes", "([I)Z"⟩
def RX4 : String := "Branchyard$Works"
def TX4 : u_T := fun k => match k with
  | 0 => ("Branchyard$Works", "tests", "[LBranchyard$Test;", true)
  | 1 => ("Branchyard$Works", "added", "I", false)
  | 2 => ("Branchyard$Works", "newest", "[LBranchyard$Cell;", true)
  | 3 => ("Branchyard$Works", "cellsMade", "I", false)
  | 4 => ("Branchyard$Works", "inputs", "[I", true)
  | 5 => ("Branchyard$Works", "buildsRun", "I", false)
  | _ => ("Branchyard$Works", "takenFromCells", "J", false)
def tyX4 : Nat → FieldType := fun k => match k with
  | 0 => .array (.object "Branchyard$Test")
  | 1 => .int
  | 2 => .array (.object "Branchyard$Cell")
  | 3 => .int
  | 4 => .array .int
  | 5 => .int
  | _ => .long
abbrev wsX40 : List Cond := u_ws RX4 TX4 7
theorem nmX4 : ∀ a, a < 7 → ∀ b, b < 7 → a ≠ b → (TX4 a).2.1 ≠ (TX4 b).2.1 := by decide +kernel
theorem tyX4_ok : ∀ k, k < 7 → parseFieldDescriptor (TX4 k).2.2.1 = some (tyX4 k) := by decide +kernel
abbrev cX4_init : ByteArray := prog_6_method_1_code
def yX4_init : MethodName := ⟨RX4, "<init>", "()V"⟩
abbrev cX4_add : ByteArray := prog_6_method_2_code
def yX4_add : MethodName := ⟨RX4, "add", "(III)I"⟩
abbrev cX4_drop : ByteArray := prog_6_method_3_code
def yX4_drop : MethodName := ⟨RX4, "drop", "(I)I"⟩
abbrev cX4_forgetCells : ByteArray := prog_6_method_4_code
def yX4_forgetCells : MethodName := ⟨RX4, "forgetCells", "()V"⟩
abbrev cX4_allPass : ByteArray := prog_6_method_5_code
def yX4_allPass : MethodName := ⟨RX4, "allPass", "(I[I)Z"⟩
abbrev cX4_buildTrunk : ByteArray := prog_6_method_6_code
def yX4_buildTrunk : MethodName := ⟨RX4, "buildTrunk", "([I)Z"⟩
abbrev cX4_readInputs : ByteArray := prog_6_method_7_code
def yX4_readInputs : MethodName := ⟨RX4, "readInputs", "(I[I)I"⟩
abbrev cX4_resultOf : ByteArray := prog_6_method_8_code
def yX4_resultOf : MethodName := ⟨RX4, "resultOf", "(I[II)Z"⟩
def RX5 : String := "Branchyard"
def TX5 : u_T := fun k => match k with
  | 0 => ("Branchyard", "owners", "[I", true)
  | 1 => ("Branchyard", "standIns", "[I", true)
  | 2 => ("Branchyard", "frozen", "[Z", true)
  | 3 => ("Branchyard", "away", "[Z", true)
  | 4 => ("Branchyard", "changes", "[LBranchyard$Change;", true)
  | 5 => ("Branchyard", "changeCount", "I", false)
  | 6 => ("Branchyard", "queued", "LBranchyard$Order;", true)
  | 7 => ("Branchyard", "merged", "LBranchyard$Order;", true)
  | 8 => ("Branchyard", "batch", "[I", true)
  | 9 => ("Branchyard", "trunk", "[I", true)
  | 10 => ("Branchyard", "candidate", "[I", true)
  | _ => ("Branchyard", "works", "LBranchyard$Works;", true)
def tyX5 : Nat → FieldType := fun k => match k with
  | 0 => .array .int
  | 1 => .array .int
  | 2 => .array .boolean
  | 3 => .array .boolean
  | 4 => .array (.object "Branchyard$Change")
  | 5 => .int
  | 6 => .object "Branchyard$Order"
  | 7 => .object "Branchyard$Order"
  | 8 => .array .int
  | 9 => .array .int
  | 10 => .array .int
  | _ => .object "Branchyard$Works"
abbrev wsX50 : List Cond := u_ws RX5 TX5 12
theorem nmX5 : ∀ a, a < 12 → ∀ b, b < 12 → a ≠ b → (TX5 a).2.1 ≠ (TX5 b).2.1 := by decide +kernel
theorem tyX5_ok : ∀ k, k < 12 → parseFieldDescriptor (TX5 k).2.2.1 = some (tyX5 k) := by decide +kernel
abbrev cX5_init : ByteArray := prog_1_method_1_code
def yX5_init : MethodName := ⟨RX5, "<init>", "()V"⟩
abbrev cX5_setOwner : ByteArray := prog_1_method_2_code
def yX5_setOwner : MethodName := ⟨RX5, "setOwner", "(III)I"⟩
abbrev cX5_setAway : ByteArray := prog_1_method_3_code
def yX5_setAway : MethodName := ⟨RX5, "setAway", "(IZ)Z"⟩
abbrev cX5_open : ByteArray := prog_1_method_4_code
def yX5_open : MethodName := ⟨RX5, "open", "(I)I"⟩
abbrev cX5_edit : ByteArray := prog_1_method_5_code
def yX5_edit : MethodName := ⟨RX5, "edit", "(IIII)I"⟩
abbrev cX5_take : ByteArray := prog_1_method_6_code
def yX5_take : MethodName := ⟨RX5, "take", "(III)I"⟩
abbrev cX5_close : ByteArray := prog_1_method_7_code
def yX5_close : MethodName := ⟨RX5, "close", "(I)I"⟩
abbrev cX5_vote : ByteArray := prog_1_method_8_code
def yX5_vote : MethodName := ⟨RX5, "vote", "(IIZ)I"⟩
abbrev cX5_verdict : ByteArray := prog_1_method_9_code
def yX5_verdict : MethodName := ⟨RX5, "verdict", "(II)C"⟩
abbrev cX5_asked : ByteArray := prog_1_method_10_code
def yX5_asked : MethodName := ⟨RX5, "asked", "(II)I"⟩
abbrev cX5_missing : ByteArray := prog_1_method_11_code
def yX5_missing : MethodName := ⟨RX5, "missing", "(I)I"⟩
abbrev cX5_queue : ByteArray := prog_1_method_12_code
def yX5_queue : MethodName := ⟨RX5, "queue", "(I)I"⟩
abbrev cX5_unqueue : ByteArray := prog_1_method_13_code
def yX5_unqueue : MethodName := ⟨RX5, "unqueue", "(I)I"⟩
abbrev cX5_queueAt : ByteArray := prog_1_method_14_code
def yX5_queueAt : MethodName := ⟨RX5, "queueAt", "(I)I"⟩
abbrev cX5_step : ByteArray := prog_1_method_15_code
def yX5_step : MethodName := ⟨RX5, "step", "()I"⟩
abbrev cX5_setFrozen : ByteArray := prog_1_method_16_code
def yX5_setFrozen : MethodName := ⟨RX5, "setFrozen", "(IZ)Z"⟩
abbrev cX5_stateOf : ByteArray := prog_1_method_17_code
def yX5_stateOf : MethodName := ⟨RX5, "stateOf", "(I)C"⟩
abbrev cX5_hasFailed : ByteArray := prog_1_method_18_code
def yX5_hasFailed : MethodName := ⟨RX5, "hasFailed", "(I)Z"⟩
abbrev cX5_clashes : ByteArray := prog_1_method_19_code
def yX5_clashes : MethodName := ⟨RX5, "clashes", "(I)I"⟩
abbrev cX5_update : ByteArray := prog_1_method_20_code
def yX5_update : MethodName := ⟨RX5, "update", "(I)I"⟩
abbrev cX5_addTest : ByteArray := prog_1_method_21_code
def yX5_addTest : MethodName := ⟨RX5, "addTest", "(IIIII)I"⟩
abbrev cX5_dropTest : ByteArray := prog_1_method_22_code
def yX5_dropTest : MethodName := ⟨RX5, "dropTest", "(I)I"⟩
abbrev cX5_value : ByteArray := prog_1_method_23_code
def yX5_value : MethodName := ⟨RX5, "value", "(II)I"⟩
abbrev cX5_valueByMerges : ByteArray := prog_1_method_24_code
def yX5_valueByMerges : MethodName := ⟨RX5, "valueByMerges", "(II)I"⟩
abbrev cX5_valueWith : ByteArray := prog_1_method_25_code
def yX5_valueWith : MethodName := ⟨RX5, "valueWith", "(III)I"⟩
abbrev cX5_along : ByteArray := prog_1_method_26_code
def yX5_along : MethodName := ⟨RX5, "along", "(I)I"⟩
abbrev cX5_revert : ByteArray := prog_1_method_27_code
def yX5_revert : MethodName := ⟨RX5, "revert", "(I)I"⟩
abbrev cX5_mergedAt : ByteArray := prog_1_method_28_code
def yX5_mergedAt : MethodName := ⟨RX5, "mergedAt", "(I)I"⟩
abbrev cX5_isGood : ByteArray := prog_1_method_29_code
def yX5_isGood : MethodName := ⟨RX5, "isGood", "(I)Z"⟩
abbrev cX5_builds : ByteArray := prog_1_method_30_code
def yX5_builds : MethodName := ⟨RX5, "builds", "()I"⟩
abbrev cX5_taken : ByteArray := prog_1_method_31_code
def yX5_taken : MethodName := ⟨RX5, "taken", "()J"⟩
abbrev cX5_takenShare : ByteArray := prog_1_method_32_code
def yX5_takenShare : MethodName := ⟨RX5, "takenShare", "()F"⟩
abbrev cX5_meanEdits : ByteArray := prog_1_method_33_code
def yX5_meanEdits : MethodName := ⟨RX5, "meanEdits", "()D"⟩
abbrev cX5_isSound : ByteArray := prog_1_method_34_code
def yX5_isSound : MethodName := ⟨RX5, "isSound", "()Z"⟩
abbrev cX5_checkDirectory : ByteArray := prog_1_method_35_code
def yX5_checkDirectory : MethodName := ⟨RX5, "checkDirectory", "(I)V"⟩
abbrev cX5_checkPerson : ByteArray := prog_1_method_36_code
def yX5_checkPerson : MethodName := ⟨RX5, "checkPerson", "(I)V"⟩
abbrev cX5_checkIndex : ByteArray := prog_1_method_37_code
def yX5_checkIndex : MethodName := ⟨RX5, "checkIndex", "(LBranchyard$Order;I)V"⟩
abbrev cX5_checkOpen : ByteArray := prog_1_method_38_code
def yX5_checkOpen : MethodName := ⟨RX5, "checkOpen", "(LBranchyard$Change;)V"⟩
abbrev cX5_checkMerged : ByteArray := prog_1_method_39_code
def yX5_checkMerged : MethodName := ⟨RX5, "checkMerged", "(LBranchyard$Change;)V"⟩
abbrev cX5_placeOf : ByteArray := prog_1_method_40_code
def yX5_placeOf : MethodName := ⟨RX5, "placeOf", "(II)I"⟩
abbrev cX5_changeOf : ByteArray := prog_1_method_41_code
def yX5_changeOf : MethodName := ⟨RX5, "changeOf", "(I)LBranchyard$Change;"⟩
abbrev cX5_personAsked : ByteArray := prog_1_method_42_code
def yX5_personAsked : MethodName := ⟨RX5, "personAsked", "(LBranchyard$Change;I)I"⟩
abbrev cX5_verdictOf : ByteArray := prog_1_method_43_code
def yX5_verdictOf : MethodName := ⟨RX5, "verdictOf", "(LBranchyard$Change;I)C"⟩
abbrev cX5_missingVerdicts : ByteArray := prog_1_method_44_code
def yX5_missingVerdicts : MethodName := ⟨RX5, "missingVerdicts", "(LBranchyard$Change;)I"⟩
abbrev cX5_reopen : ByteArray := prog_1_method_45_code
def yX5_reopen : MethodName := ⟨RX5, "reopen", "(I)V"⟩
abbrev cX5_touchesFrozen : ByteArray := prog_1_method_46_code
def yX5_touchesFrozen : MethodName := ⟨RX5, "touchesFrozen", "(LBranchyard$Change;)Z"⟩
abbrev cX5_pickBatch : ByteArray := prog_1_method_47_code
def yX5_pickBatch : MethodName := ⟨RX5, "pickBatch", "()I"⟩
abbrev cX5_tryTogether : ByteArray := prog_1_method_48_code
def yX5_tryTogether : MethodName := ⟨RX5, "tryTogether", "(III)I"⟩
abbrev cX5_tryHalves : ByteArray := prog_1_method_49_code
def yX5_tryHalves : MethodName := ⟨RX5, "tryHalves", "(III)I"⟩
abbrev cX5_isGoodWithBatch : ByteArray := prog_1_method_50_code
def yX5_isGoodWithBatch : MethodName := ⟨RX5, "isGoodWithBatch", "(II)Z"⟩
abbrev cX5_merge : ByteArray := prog_1_method_51_code
def yX5_merge : MethodName := ⟨RX5, "merge", "(I)V"⟩
abbrev cX5_clashIfShared : ByteArray := prog_1_method_52_code
def yX5_clashIfShared : MethodName := ⟨RX5, "clashIfShared", "(IJ)V"⟩
abbrev cX5_replayedValue : ByteArray := prog_1_method_53_code
def yX5_replayedValue : MethodName := ⟨RX5, "replayedValue", "(I)I"⟩
abbrev cX5_goingAlong : ByteArray := prog_1_method_54_code
def yX5_goingAlong : MethodName := ⟨RX5, "goingAlong", "(I)I"⟩
abbrev cX5_isGoodWithout : ByteArray := prog_1_method_55_code
def yX5_isGoodWithout : MethodName := ⟨RX5, "isGoodWithout", "(I)Z"⟩
abbrev cX5_takeBack : ByteArray := prog_1_method_56_code
def yX5_takeBack : MethodName := ⟨RX5, "takeBack", "(I)V"⟩
def RX6 : String := "BranchyardModel"
def TX6 : u_T := fun k => match k with
  | 0 => ("BranchyardModel", "thrown", "I", false)
  | 1 => ("BranchyardModel", "trunk", "[I", true)
  | 2 => ("BranchyardModel", "firsts", "[I", true)
  | 3 => ("BranchyardModel", "seconds", "[I", true)
  | 4 => ("BranchyardModel", "limits", "[I", true)
  | 5 => ("BranchyardModel", "isDropped", "[Z", true)
  | 6 => ("BranchyardModel", "tests", "I", false)
  | 7 => ("BranchyardModel", "owners", "[I", true)
  | 8 => ("BranchyardModel", "standIns", "[I", true)
  | 9 => ("BranchyardModel", "isFrozen", "[Z", true)
  | 10 => ("BranchyardModel", "isAway", "[Z", true)
  | 11 => ("BranchyardModel", "edits", "[[I", true)
  | 12 => ("BranchyardModel", "isClash", "[[Z", true)
  | 13 => ("BranchyardModel", "votes", "[[C", true)
  | 14 => ("BranchyardModel", "covers", "[[[I", true)
  | 15 => ("BranchyardModel", "authors", "[I", true)
  | 16 => ("BranchyardModel", "queue", "[I", true)
  | 17 => ("BranchyardModel", "merged", "[I", true)
  | 18 => ("BranchyardModel", "states", "[C", true)
  | 19 => ("BranchyardModel", "hasFailed", "[Z", true)
  | 20 => ("BranchyardModel", "changes", "I", false)
  | 21 => ("BranchyardModel", "queued", "I", false)
  | 22 => ("BranchyardModel", "mergedMany", "I", false)
  | 23 => ("BranchyardModel", "builds", "I", false)
  | 24 => ("BranchyardModel", "taken", "J", false)
  | _ => ("BranchyardModel", "cells", "Ljava/util/ArrayList;", true)
def tyX6 : Nat → FieldType := fun k => match k with
  | 0 => .int
  | 1 => .array .int
  | 2 => .array .int
  | 3 => .array .int
  | 4 => .array .int
  | 5 => .array .boolean
  | 6 => .int
  | 7 => .array .int
  | 8 => .array .int
  | 9 => .array .boolean
  | 10 => .array .boolean
  | 11 => .array (.array .int)
  | 12 => .array (.array .boolean)
  | 13 => .array (.array .char)
  | 14 => .array (.array (.array .int))
  | 15 => .array .int
  | 16 => .array .int
  | 17 => .array .int
  | 18 => .array .char
  | 19 => .array .boolean
  | 20 => .int
  | 21 => .int
  | 22 => .int
  | 23 => .int
  | 24 => .long
  | _ => .object "java/util/ArrayList"
abbrev wsX60 : List Cond := u_ws RX6 TX6 26
theorem nmX6 : ∀ a, a < 26 → ∀ b, b < 26 → a ≠ b → (TX6 a).2.1 ≠ (TX6 b).2.1 := by decide +kernel
theorem tyX6_ok : ∀ k, k < 26 → parseFieldDescriptor (TX6 k).2.2.1 = some (tyX6 k) := by decide +kernel
abbrev cX6_thrown : ByteArray := prog_8_method_1_code
def yX6_thrown : MethodName := ⟨RX6, "thrown", "()I"⟩
abbrev cX6_fails : ByteArray := prog_8_method_2_code
def yX6_fails : MethodName := ⟨RX6, "fails", "(I)I"⟩
abbrev cX6_isWrong : ByteArray := prog_8_method_3_code
def yX6_isWrong : MethodName := ⟨RX6, "isWrong", "(I)Z"⟩
abbrev cX6_isBetween : ByteArray := prog_8_method_4_code
def yX6_isBetween : MethodName := ⟨RX6, "isBetween", "(III)Z"⟩
abbrev cX6_isPerson : ByteArray := prog_8_method_5_code
def yX6_isPerson : MethodName := ⟨RX6, "isPerson", "(I)Z"⟩
abbrev cX6_isDirectory : ByteArray := prog_8_method_6_code
def yX6_isDirectory : MethodName := ⟨RX6, "isDirectory", "(I)Z"⟩
abbrev cX6_isSpan : ByteArray := prog_8_method_7_code
def yX6_isSpan : MethodName := ⟨RX6, "isSpan", "(II)Z"⟩
abbrev cX6_init : ByteArray := prog_8_method_8_code
def yX6_init : MethodName := ⟨RX6, "<init>", "()V"⟩
abbrev cX6_isChange : ByteArray := prog_8_method_9_code
def yX6_isChange : MethodName := ⟨RX6, "isChange", "(I)Z"⟩
abbrev cX6_directoryOf : ByteArray := prog_8_method_10_code
def yX6_directoryOf : MethodName := ⟨RX6, "directoryOf", "(I)I"⟩
abbrev cX6_setOwner : ByteArray := prog_8_method_11_code
def yX6_setOwner : MethodName := ⟨RX6, "setOwner", "(III)I"⟩
abbrev cX6_setAway : ByteArray := prog_8_method_12_code
def yX6_setAway : MethodName := ⟨RX6, "setAway", "(IZ)Z"⟩
abbrev cX6_open : ByteArray := prog_8_method_13_code
def yX6_open : MethodName := ⟨RX6, "open", "(I)I"⟩
abbrev cX6_editMany : ByteArray := prog_8_method_14_code
def yX6_editMany : MethodName := ⟨RX6, "editMany", "(I)I"⟩
abbrev cX6_edit : ByteArray := prog_8_method_15_code
def yX6_edit : MethodName := ⟨RX6, "edit", "(IIII)I"⟩
abbrev cX6_take : ByteArray := prog_8_method_16_code
def yX6_take : MethodName := ⟨RX6, "take", "(III)I"⟩
abbrev cX6_isUnlike : ByteArray := prog_8_method_17_code
def yX6_isUnlike : MethodName := ⟨RX6, "isUnlike", "(IC)Z"⟩
abbrev cX6_close : ByteArray := prog_8_method_18_code
def yX6_close : MethodName := ⟨RX6, "close", "(I)I"⟩
abbrev cX6_vote : ByteArray := prog_8_method_19_code
def yX6_vote : MethodName := ⟨RX6, "vote", "(IIZ)I"⟩
abbrev cX6_ask : ByteArray := prog_8_method_20_code
def yX6_ask : MethodName := ⟨RX6, "ask", "(II)I"⟩
abbrev cX6_touches : ByteArray := prog_8_method_21_code
def yX6_touches : MethodName := ⟨RX6, "touches", "(II)Z"⟩
abbrev cX6_isCovered : ByteArray := prog_8_method_22_code
def yX6_isCovered : MethodName := ⟨RX6, "isCovered", "(III)Z"⟩
abbrev cX6_verdictOf : ByteArray := prog_8_method_23_code
def yX6_verdictOf : MethodName := ⟨RX6, "verdictOf", "(II)C"⟩
abbrev cX6_verdict : ByteArray := prog_8_method_24_code
def yX6_verdict : MethodName := ⟨RX6, "verdict", "(II)C"⟩
abbrev cX6_asked : ByteArray := prog_8_method_25_code
def yX6_asked : MethodName := ⟨RX6, "asked", "(II)I"⟩
abbrev cX6_missingIn : ByteArray := prog_8_method_26_code
def yX6_missingIn : MethodName := ⟨RX6, "missingIn", "(I)I"⟩
abbrev cX6_missing : ByteArray := prog_8_method_27_code
def yX6_missing : MethodName := ⟨RX6, "missing", "(I)I"⟩
abbrev cX6_clashMany : ByteArray := prog_8_method_28_code
def yX6_clashMany : MethodName := ⟨RX6, "clashMany", "(I)I"⟩
abbrev cX6_queue : ByteArray := prog_8_method_29_code
def yX6_queue : MethodName := ⟨RX6, "queue", "(I)I"⟩
abbrev cX6_leaves : ByteArray := prog_8_method_30_code
def yX6_leaves : MethodName := ⟨RX6, "leaves", "(I)V"⟩
abbrev cX6_unqueue : ByteArray := prog_8_method_31_code
def yX6_unqueue : MethodName := ⟨RX6, "unqueue", "(I)I"⟩
abbrev cX6_queueAt : ByteArray := prog_8_method_32_code
def yX6_queueAt : MethodName := ⟨RX6, "queueAt", "(I)I"⟩
abbrev cX6_counts : ByteArray := prog_8_method_33_code
def yX6_counts : MethodName := ⟨RX6, "counts", "(II)Z"⟩
abbrev cX6_isGoodOn : ByteArray := prog_8_method_34_code
def yX6_isGoodOn : MethodName := ⟨RX6, "isGoodOn", "([II)Z"⟩
abbrev cX6_inputs : ByteArray := prog_8_method_35_code
def yX6_inputs : MethodName := ⟨RX6, "inputs", "([II)[I"⟩
abbrev cX6_isKept : ByteArray := prog_8_method_36_code
def yX6_isKept : MethodName := ⟨RX6, "isKept", "([I)Z"⟩
abbrev cX6_isBuilt : ByteArray := prog_8_method_37_code
def yX6_isBuilt : MethodName := ⟨RX6, "isBuilt", "([I)Z"⟩
abbrev cX6_shares : ByteArray := prog_8_method_38_code
def yX6_shares : MethodName := ⟨RX6, "shares", "(II)Z"⟩
abbrev cX6_isHeld : ByteArray := prog_8_method_39_code
def yX6_isHeld : MethodName := ⟨RX6, "isHeld", "(I)Z"⟩
abbrev cX6_lays : ByteArray := prog_8_method_40_code
def yX6_lays : MethodName := ⟨RX6, "lays", "(I[I)V"⟩
abbrev cX6_merges : ByteArray := prog_8_method_41_code
def yX6_merges : MethodName := ⟨RX6, "merges", "(I)V"⟩
abbrev cX6_tries : ByteArray := prog_8_method_42_code
def yX6_tries : MethodName := ⟨RX6, "tries", "([III)I"⟩
abbrev cX6_step : ByteArray := prog_8_method_43_code
def yX6_step : MethodName := ⟨RX6, "step", "()I"⟩
abbrev cX6_setFrozen : ByteArray := prog_8_method_44_code
def yX6_setFrozen : MethodName := ⟨RX6, "setFrozen", "(IZ)Z"⟩
abbrev cX6_stateOf : ByteArray := prog_8_method_45_code
def yX6_stateOf : MethodName := ⟨RX6, "stateOf", "(I)C"⟩
abbrev cX6_hasFailed : ByteArray := prog_8_method_46_code
def yX6_hasFailed : MethodName := ⟨RX6, "hasFailed", "(I)Z"⟩
abbrev cX6_clashes : ByteArray := prog_8_method_47_code
def yX6_clashes : MethodName := ⟨RX6, "clashes", "(I)I"⟩
abbrev cX6_update : ByteArray := prog_8_method_48_code
def yX6_update : MethodName := ⟨RX6, "update", "(I)I"⟩
abbrev cX6_addTest : ByteArray := prog_8_method_49_code
def yX6_addTest : MethodName := ⟨RX6, "addTest", "(IIIII)I"⟩
abbrev cX6_dropTest : ByteArray := prog_8_method_50_code
def yX6_dropTest : MethodName := ⟨RX6, "dropTest", "(I)I"⟩
abbrev cX6_value : ByteArray := prog_8_method_51_code
def yX6_value : MethodName := ⟨RX6, "value", "(II)I"⟩
abbrev cX6_valueByMerges : ByteArray := prog_8_method_52_code
def yX6_valueByMerges : MethodName := ⟨RX6, "valueByMerges", "(II)I"⟩
abbrev cX6_valueWith : ByteArray := prog_8_method_53_code
def yX6_valueWith : MethodName := ⟨RX6, "valueWith", "(III)I"⟩
abbrev cX6_marks : ByteArray := prog_8_method_54_code
def yX6_marks : MethodName := ⟨RX6, "marks", "(I[Z)I"⟩
abbrev cX6_along : ByteArray := prog_8_method_55_code
def yX6_along : MethodName := ⟨RX6, "along", "(I)I"⟩
abbrev cX6_revert : ByteArray := prog_8_method_56_code
def yX6_revert : MethodName := ⟨RX6, "revert", "(I)I"⟩
abbrev cX6_mergedAt : ByteArray := prog_8_method_57_code
def yX6_mergedAt : MethodName := ⟨RX6, "mergedAt", "(I)I"⟩
abbrev cX6_isGood : ByteArray := prog_8_method_58_code
def yX6_isGood : MethodName := ⟨RX6, "isGood", "(I)Z"⟩
abbrev cX6_builds : ByteArray := prog_8_method_59_code
def yX6_builds : MethodName := ⟨RX6, "builds", "()I"⟩
abbrev cX6_taken : ByteArray := prog_8_method_60_code
def yX6_taken : MethodName := ⟨RX6, "taken", "()J"⟩
abbrev cX6_takenShare : ByteArray := prog_8_method_61_code
def yX6_takenShare : MethodName := ⟨RX6, "takenShare", "()F"⟩
abbrev cX6_meanEdits : ByteArray := prog_8_method_62_code
def yX6_meanEdits : MethodName := ⟨RX6, "meanEdits", "()D"⟩
abbrev cX6_isSound : ByteArray := prog_8_method_63_code
def yX6_isSound : MethodName := ⟨RX6, "isSound", "()Z"⟩
def RJx145de : String := "java/io/Serializable"
def TJx145de : u_T := fun k => match k with
  | _ => ("", "", "", false)
def tyJx145de : Nat → FieldType := fun k => match k with
  | _ => .int
abbrev wsJx145de0 : List Cond := u_ws RJx145de TJx145de 0
theorem nmJx145de : ∀ a, a < 0 → ∀ b, b < 0 → a ≠ b → (TJx145de a).2.1 ≠ (TJx145de b).2.1 := by decide +kernel
theorem tyJx145de_ok : ∀ k, k < 0 → parseFieldDescriptor (TJx145de k).2.2.1 = some (tyJx145de k) := by decide +kernel
def RJx00060 : String := "java/lang/ArrayIndexOutOfBoundsException"
def TJx00060 : u_T := fun k => match k with
  | 0 => ("java/lang/Throwable", "backtrace", "Ljava/lang/Object;", false)
  | 1 => ("java/lang/Throwable", "detailMessage", "Ljava/lang/String;", false)
  | 2 => ("java/lang/Throwable", "cause", "Ljava/lang/Throwable;", false)
  | 3 => ("java/lang/Throwable", "stackTrace", "[Ljava/lang/StackTraceElement;", false)
  | 4 => ("java/lang/Throwable", "depth", "I", false)
  | _ => ("java/lang/Throwable", "suppressedExceptions", "Ljava/util/List;", false)
def tyJx00060 : Nat → FieldType := fun k => match k with
  | 0 => .object "java/lang/Object"
  | 1 => .object "java/lang/String"
  | 2 => .object "java/lang/Throwable"
  | 3 => .array (.object "java/lang/StackTraceElement")
  | 4 => .int
  | _ => .object "java/util/List"
abbrev wsJx000600 : List Cond := u_ws RJx00060 TJx00060 6
theorem nmJx00060 : ∀ a, a < 6 → ∀ b, b < 6 → a ≠ b → (TJx00060 a).2.1 ≠ (TJx00060 b).2.1 := by decide +kernel
theorem tyJx00060_ok : ∀ k, k < 6 → parseFieldDescriptor (TJx00060 k).2.2.1 = some (tyJx00060 k) := by decide +kernel
abbrev cJx00060_init_a7421 : ByteArray := prog_11_method_2_code
def yJx00060_init_a7421 : MethodName := ⟨RJx00060, "<init>", "(Ljava/lang/String;)V"⟩
def RJx8e188 : String := "java/lang/Cloneable"
def TJx8e188 : u_T := fun k => match k with
  | _ => ("", "", "", false)
def tyJx8e188 : Nat → FieldType := fun k => match k with
  | _ => .int
abbrev wsJx8e1880 : List Cond := u_ws RJx8e188 TJx8e188 0
theorem nmJx8e188 : ∀ a, a < 0 → ∀ b, b < 0 → a ≠ b → (TJx8e188 a).2.1 ≠ (TJx8e188 b).2.1 := by decide +kernel
theorem tyJx8e188_ok : ∀ k, k < 0 → parseFieldDescriptor (TJx8e188 k).2.2.1 = some (tyJx8e188 k) := by decide +kernel
def RJ6 : String := "java/lang/Integer"
def TJ6 : u_T := fun k => match k with
  | _ => ("", "", "", false)
def tyJ6 : Nat → FieldType := fun k => match k with
  | _ => .int
abbrev wsJ60 : List Cond := u_ws RJ6 TJ6 0
theorem nmJ6 : ∀ a, a < 0 → ∀ b, b < 0 → a ≠ b → (TJ6 a).2.1 ≠ (TJ6 b).2.1 := by decide +kernel
theorem tyJ6_ok : ∀ k, k < 0 → parseFieldDescriptor (TJ6 k).2.2.1 = some (tyJ6 k) := by decide +kernel
abbrev cJ6_bitCount_0f7a4 : ByteArray := prog_17_method_49_code
def yJ6_bitCount_0f7a4 : MethodName := ⟨RJ6, "bitCount", "(I)I"⟩
def RJxab1ab : String := "java/lang/Iterable"
def TJxab1ab : u_T := fun k => match k with
  | _ => ("", "", "", false)
def tyJxab1ab : Nat → FieldType := fun k => match k with
  | _ => .int
abbrev wsJxab1ab0 : List Cond := u_ws RJxab1ab TJxab1ab 0
theorem nmJxab1ab : ∀ a, a < 0 → ∀ b, b < 0 → a ≠ b → (TJxab1ab a).2.1 ≠ (TJxab1ab b).2.1 := by decide +kernel
theorem tyJxab1ab_ok : ∀ k, k < 0 → parseFieldDescriptor (TJxab1ab k).2.2.1 = some (tyJxab1ab k) := by decide +kernel
def RJ13 : String := "java/lang/Long"
def TJ13 : u_T := fun k => match k with
  | _ => ("", "", "", false)
def tyJ13 : Nat → FieldType := fun k => match k with
  | _ => .int
abbrev wsJ130 : List Cond := u_ws RJ13 TJ13 0
theorem nmJ13 : ∀ a, a < 0 → ∀ b, b < 0 → a ≠ b → (TJ13 a).2.1 ≠ (TJ13 b).2.1 := by decide +kernel
theorem tyJ13_ok : ∀ k, k < 0 → parseFieldDescriptor (TJ13 k).2.2.1 = some (tyJ13 k) := by decide +kernel
abbrev cJ13_bitCount_95d88 : ByteArray := prog_19_method_50_code
def yJ13_bitCount_95d88 : MethodName := ⟨RJ13, "bitCount", "(J)I"⟩
def RJ9 : String := "java/lang/Math"
def TJ9 : u_T := fun k => match k with
  | _ => ("", "", "", false)
def tyJ9 : Nat → FieldType := fun k => match k with
  | _ => .int
abbrev wsJ90 : List Cond := u_ws RJ9 TJ9 0
theorem nmJ9 : ∀ a, a < 0 → ∀ b, b < 0 → a ≠ b → (TJ9 a).2.1 ≠ (TJ9 b).2.1 := by decide +kernel
theorem tyJ9_ok : ∀ k, k < 0 → parseFieldDescriptor (TJ9 k).2.2.1 = some (tyJ9 k) := by decide +kernel
abbrev cJ9_max_7cf53 : ByteArray := prog_20_method_65_code
def yJ9_max_7cf53 : MethodName := ⟨RJ9, "max", "(II)I"⟩
abbrev cJ9_min_7cf53 : ByteArray := prog_20_method_69_code
def yJ9_min_7cf53 : MethodName := ⟨RJ9, "min", "(II)I"⟩
def RJ0 : String := "java/lang/String"
def TJ0 : u_T := fun k => match k with
  | 0 => ("java/lang/String", "value", "[B", true)
  | _ => ("java/lang/String", "coder", "B", true)
def tyJ0 : Nat → FieldType := fun k => match k with
  | 0 => .array .byte
  | _ => .byte
abbrev wsJ00 : List Cond := u_ws RJ0 TJ0 2
theorem nmJ0 : ∀ a, a < 2 → ∀ b, b < 2 → a ≠ b → (TJ0 a).2.1 ≠ (TJ0 b).2.1 := by decide +kernel
theorem tyJ0_ok : ∀ k, k < 2 → parseFieldDescriptor (TJ0 k).2.2.1 = some (tyJ0 k) := by decide +kernel
def RJ10 : String := "java/lang/System"
def TJ10 : u_T := fun k => match k with
  | _ => ("", "", "", false)
def tyJ10 : Nat → FieldType := fun k => match k with
  | _ => .int
abbrev wsJ100 : List Cond := u_ws RJ10 TJ10 0
theorem nmJ10 : ∀ a, a < 0 → ∀ b, b < 0 → a ≠ b → (TJ10 a).2.1 ≠ (TJ10 b).2.1 := by decide +kernel
theorem tyJ10_ok : ∀ k, k < 0 → parseFieldDescriptor (TJ10 k).2.2.1 = some (tyJ10 k) := by decide +kernel
def RJxa1e45 : String := "java/util/AbstractCollection"
def TJxa1e45 : u_T := fun k => match k with
  | _ => ("", "", "", false)
def tyJxa1e45 : Nat → FieldType := fun k => match k with
  | _ => .int
abbrev wsJxa1e450 : List Cond := u_ws RJxa1e45 TJxa1e45 0
theorem nmJxa1e45 : ∀ a, a < 0 → ∀ b, b < 0 → a ≠ b → (TJxa1e45 a).2.1 ≠ (TJxa1e45 b).2.1 := by decide +kernel
theorem tyJxa1e45_ok : ∀ k, k < 0 → parseFieldDescriptor (TJxa1e45 k).2.2.1 = some (tyJxa1e45 k) := by decide +kernel
abbrev cJxa1e45_init_da8c8 : ByteArray := prog_26_method_1_code
def yJxa1e45_init_da8c8 : MethodName := ⟨RJxa1e45, "<init>", "()V"⟩
def RJxc12de : String := "java/util/AbstractList"
def TJxc12de : u_T := fun k => match k with
  | _ => ("", "", "", false)
def tyJxc12de : Nat → FieldType := fun k => match k with
  | _ => .int
abbrev wsJxc12de0 : List Cond := u_ws RJxc12de TJxc12de 0
theorem nmJxc12de : ∀ a, a < 0 → ∀ b, b < 0 → a ≠ b → (TJxc12de a).2.1 ≠ (TJxc12de b).2.1 := by decide +kernel
theorem tyJxc12de_ok : ∀ k, k < 0 → parseFieldDescriptor (TJxc12de k).2.2.1 = some (tyJxc12de k) := by decide +kernel
abbrev cJxc12de_init_da8c8 : ByteArray := prog_27_method_1_code
def yJxc12de_init_da8c8 : MethodName := ⟨RJxc12de, "<init>", "()V"⟩
def RJx35411 : String := "java/util/ArrayList$Itr"
def TJx35411 : u_T := fun k => match k with
  | 0 => ("java/util/ArrayList$Itr", "cursor", "I", false)
  | 1 => ("java/util/ArrayList$Itr", "lastRet", "I", false)
  | 2 => ("java/util/ArrayList$Itr", "expectedModCount", "I", false)
  | _ => ("java/util/ArrayList$Itr", "this$0", "Ljava/util/ArrayList;", true)
def tyJx35411 : Nat → FieldType := fun k => match k with
  | 0 => .int
  | 1 => .int
  | 2 => .int
  | _ => .object "java/util/ArrayList"
abbrev wsJx354110 : List Cond := u_ws RJx35411 TJx35411 4
theorem nmJx35411 : ∀ a, a < 4 → ∀ b, b < 4 → a ≠ b → (TJx35411 a).2.1 ≠ (TJx35411 b).2.1 := by decide +kernel
theorem tyJx35411_ok : ∀ k, k < 4 → parseFieldDescriptor (TJx35411 k).2.2.1 = some (tyJx35411 k) := by decide +kernel
abbrev cJx35411_init_45d68 : ByteArray := prog_29_method_1_code
def yJx35411_init_45d68 : MethodName := ⟨RJx35411, "<init>", "(Ljava/util/ArrayList;)V"⟩
abbrev cJx35411_hasNext_aae02 : ByteArray := prog_29_method_2_code
def yJx35411_hasNext_aae02 : MethodName := ⟨RJx35411, "hasNext", "()Z"⟩
abbrev cJx35411_next_0502b : ByteArray := prog_29_method_3_code
def yJx35411_next_0502b : MethodName := ⟨RJx35411, "next", "()Ljava/lang/Object;"⟩
abbrev cJx35411_checkForComodification_da8c8 : ByteArray := prog_29_method_6_code
def yJx35411_checkForComodification_da8c8 : MethodName := ⟨RJx35411, "checkForComodification", "()V"⟩
def RJx4a65c : String := "java/util/ArrayList"
def TJx4a65c : u_T := fun k => match k with
  | 0 => ("java/util/AbstractList", "modCount", "I", false)
  | 1 => ("java/util/ArrayList", "elementData", "[Ljava/lang/Object;", false)
  | _ => ("java/util/ArrayList", "size", "I", false)
def tyJx4a65c : Nat → FieldType := fun k => match k with
  | 0 => .int
  | 1 => .array (.object "java/lang/Object")
  | _ => .int
abbrev wsJx4a65c0 : List Cond := u_ws RJx4a65c TJx4a65c 3
theorem nmJx4a65c : ∀ a, a < 3 → ∀ b, b < 3 → a ≠ b → (TJx4a65c a).2.1 ≠ (TJx4a65c b).2.1 := by decide +kernel
theorem tyJx4a65c_ok : ∀ k, k < 3 → parseFieldDescriptor (TJx4a65c k).2.2.1 = some (tyJx4a65c k) := by decide +kernel
abbrev cJx4a65c_init_da8c8 : ByteArray := prog_28_method_2_code
def yJx4a65c_init_da8c8 : MethodName := ⟨RJx4a65c, "<init>", "()V"⟩
abbrev cJx4a65c_grow_92f84 : ByteArray := prog_28_method_6_code
def yJx4a65c_grow_92f84 : MethodName := ⟨RJx4a65c, "grow", "(I)[Ljava/lang/Object;"⟩
abbrev cJx4a65c_grow_d5877 : ByteArray := prog_28_method_7_code
def yJx4a65c_grow_d5877 : MethodName := ⟨RJx4a65c, "grow", "()[Ljava/lang/Object;"⟩
abbrev cJx4a65c_add_72be8 : ByteArray := prog_28_method_24_code
def yJx4a65c_add_72be8 : MethodName := ⟨RJx4a65c, "add", "(Ljava/lang/Object;[Ljava/lang/Object;I)V"⟩
abbrev cJx4a65c_add_9ea2d : ByteArray := prog_28_method_25_code
def yJx4a65c_add_9ea2d : MethodName := ⟨RJx4a65c, "add", "(Ljava/lang/Object;)Z"⟩
abbrev cJx4a65c_clear_da8c8 : ByteArray := prog_28_method_40_code
def yJx4a65c_clear_da8c8 : MethodName := ⟨RJx4a65c, "clear", "()V"⟩
abbrev cJx4a65c_iterator_32c93 : ByteArray := prog_28_method_55_code
def yJx4a65c_iterator_32c93 : MethodName := ⟨RJx4a65c, "iterator", "()Ljava/util/Iterator;"⟩
def RJ7 : String := "java/util/Arrays"
def TJ7 : u_T := fun k => match k with
  | _ => ("", "", "", false)
def tyJ7 : Nat → FieldType := fun k => match k with
  | _ => .int
abbrev wsJ70 : List Cond := u_ws RJ7 TJ7 0
theorem nmJ7 : ∀ a, a < 0 → ∀ b, b < 0 → a ≠ b → (TJ7 a).2.1 ≠ (TJ7 b).2.1 := by decide +kernel
theorem tyJ7_ok : ∀ k, k < 0 → parseFieldDescriptor (TJ7 k).2.2.1 = some (tyJ7 k) := by decide +kernel
abbrev cJ7_fill_53178 : ByteArray := prog_30_method_103_code
def yJ7_fill_53178 : MethodName := ⟨RJ7, "fill", "([II)V"⟩
abbrev cJ7_copyOf_1904c : ByteArray := prog_30_method_119_code
def yJ7_copyOf_1904c : MethodName := ⟨RJ7, "copyOf", "([Ljava/lang/Object;I)[Ljava/lang/Object;"⟩
abbrev cJ7_copyOf_6403c : ByteArray := prog_30_method_120_code
def yJ7_copyOf_6403c : MethodName := ⟨RJ7, "copyOf", "([Ljava/lang/Object;ILjava/lang/Class;)[Ljava/lang/Object;"⟩
abbrev cJ7_copyOf_59c91 : ByteArray := prog_30_method_123_code
def yJ7_copyOf_59c91 : MethodName := ⟨RJ7, "copyOf", "([II)[I"⟩
def RJx5ef63 : String := "java/util/Collection"
def TJx5ef63 : u_T := fun k => match k with
  | _ => ("", "", "", false)
def tyJx5ef63 : Nat → FieldType := fun k => match k with
  | _ => .int
abbrev wsJx5ef630 : List Cond := u_ws RJx5ef63 TJx5ef63 0
theorem nmJx5ef63 : ∀ a, a < 0 → ∀ b, b < 0 → a ≠ b → (TJx5ef63 a).2.1 ≠ (TJx5ef63 b).2.1 := by decide +kernel
theorem tyJx5ef63_ok : ∀ k, k < 0 → parseFieldDescriptor (TJx5ef63 k).2.2.1 = some (tyJx5ef63 k) := by decide +kernel
def RJx4d0d8 : String := "java/util/Iterator"
def TJx4d0d8 : u_T := fun k => match k with
  | _ => ("", "", "", false)
def tyJx4d0d8 : Nat → FieldType := fun k => match k with
  | _ => .int
abbrev wsJx4d0d80 : List Cond := u_ws RJx4d0d8 TJx4d0d8 0
theorem nmJx4d0d8 : ∀ a, a < 0 → ∀ b, b < 0 → a ≠ b → (TJx4d0d8 a).2.1 ≠ (TJx4d0d8 b).2.1 := by decide +kernel
theorem tyJx4d0d8_ok : ∀ k, k < 0 → parseFieldDescriptor (TJx4d0d8 k).2.2.1 = some (tyJx4d0d8 k) := by decide +kernel
def RJxbd725 : String := "java/util/List"
def TJxbd725 : u_T := fun k => match k with
  | _ => ("", "", "", false)
def tyJxbd725 : Nat → FieldType := fun k => match k with
  | _ => .int
abbrev wsJxbd7250 : List Cond := u_ws RJxbd725 TJxbd725 0
theorem nmJxbd725 : ∀ a, a < 0 → ∀ b, b < 0 → a ≠ b → (TJxbd725 a).2.1 ≠ (TJxbd725 b).2.1 := by decide +kernel
theorem tyJxbd725_ok : ∀ k, k < 0 → parseFieldDescriptor (TJxbd725 k).2.2.1 = some (tyJxbd725 k) := by decide +kernel
def RJxf0a74 : String := "java/util/RandomAccess"
def TJxf0a74 : u_T := fun k => match k with
  | _ => ("", "", "", false)
def tyJxf0a74 : Nat → FieldType := fun k => match k with
  | _ => .int
abbrev wsJxf0a740 : List Cond := u_ws RJxf0a74 TJxf0a74 0
theorem nmJxf0a74 : ∀ a, a < 0 → ∀ b, b < 0 → a ≠ b → (TJxf0a74 a).2.1 ≠ (TJxf0a74 b).2.1 := by decide +kernel
theorem tyJxf0a74_ok : ∀ k, k < 0 → parseFieldDescriptor (TJxf0a74 k).2.2.1 = some (tyJxf0a74 k) := by decide +kernel
def RJxa66e6 : String := "java/util/SequencedCollection"
def TJxa66e6 : u_T := fun k => match k with
  | _ => ("", "", "", false)
def tyJxa66e6 : Nat → FieldType := fun k => match k with
  | _ => .int
abbrev wsJxa66e60 : List Cond := u_ws RJxa66e6 TJxa66e6 0
theorem nmJxa66e6 : ∀ a, a < 0 → ∀ b, b < 0 → a ≠ b → (TJxa66e6 a).2.1 ≠ (TJxa66e6 b).2.1 := by decide +kernel
theorem tyJxa66e6_ok : ∀ k, k < 0 → parseFieldDescriptor (TJxa66e6 k).2.2.1 = some (tyJxa66e6 k) := by decide +kernel
def RJ8 : String := "jdk/internal/util/ArraysSupport"
def TJ8 : u_T := fun k => match k with
  | _ => ("", "", "", false)
def tyJ8 : Nat → FieldType := fun k => match k with
  | _ => .int
abbrev wsJ80 : List Cond := u_ws RJ8 TJ8 0
theorem nmJ8 : ∀ a, a < 0 → ∀ b, b < 0 → a ≠ b → (TJ8 a).2.1 ≠ (TJ8 b).2.1 := by decide +kernel
theorem tyJ8_ok : ∀ k, k < 0 → parseFieldDescriptor (TJ8 k).2.2.1 = some (tyJ8 k) := by decide +kernel
abbrev cJ8_newLength_cabcc : ByteArray := prog_37_method_27_code
def yJ8_newLength_cabcc : MethodName := ⟨RJ8, "newLength", "(III)I"⟩
abbrev cJ8_hugeLength_7cf53 : ByteArray := prog_37_method_28_code
def yJ8_hugeLength_7cf53 : MethodName := ⟨RJ8, "hugeLength", "(II)I"⟩
def RL : String := "BranchyardLaw"
abbrev cL_setOwner : ByteArray := method_3_code
def yL_setOwner : MethodName := ⟨RL, "setOwner", "(LBranchyard;III[J)I"⟩
abbrev cL_setAway : ByteArray := method_4_code
def yL_setAway : MethodName := ⟨RL, "setAway", "(LBranchyard;IZ[J)I"⟩
abbrev cL_open : ByteArray := method_5_code
def yL_open : MethodName := ⟨RL, "open", "(LBranchyard;I[J)I"⟩
abbrev cL_edit : ByteArray := method_6_code
def yL_edit : MethodName := ⟨RL, "edit", "(LBranchyard;IIII[J)I"⟩
abbrev cL_take : ByteArray := method_7_code
def yL_take : MethodName := ⟨RL, "take", "(LBranchyard;III[J)I"⟩
abbrev cL_close : ByteArray := method_8_code
def yL_close : MethodName := ⟨RL, "close", "(LBranchyard;I[J)I"⟩
abbrev cL_vote : ByteArray := method_9_code
def yL_vote : MethodName := ⟨RL, "vote", "(LBranchyard;IIZ[J)I"⟩
abbrev cL_verdict : ByteArray := method_10_code
def yL_verdict : MethodName := ⟨RL, "verdict", "(LBranchyard;II[J)I"⟩
abbrev cL_asked : ByteArray := method_11_code
def yL_asked : MethodName := ⟨RL, "asked", "(LBranchyard;II[J)I"⟩
abbrev cL_missing : ByteArray := method_12_code
def yL_missing : MethodName := ⟨RL, "missing", "(LBranchyard;I[J)I"⟩
abbrev cL_queue : ByteArray := method_13_code
def yL_queue : MethodName := ⟨RL, "queue", "(LBranchyard;I[J)I"⟩
abbrev cL_unqueue : ByteArray := method_14_code
def yL_unqueue : MethodName := ⟨RL, "unqueue", "(LBranchyard;I[J)I"⟩
abbrev cL_queueAt : ByteArray := method_15_code
def yL_queueAt : MethodName := ⟨RL, "queueAt", "(LBranchyard;I[J)I"⟩
abbrev cL_step : ByteArray := method_16_code
def yL_step : MethodName := ⟨RL, "step", "(LBranchyard;[J)I"⟩
abbrev cL_setFrozen : ByteArray := method_17_code
def yL_setFrozen : MethodName := ⟨RL, "setFrozen", "(LBranchyard;IZ[J)I"⟩
abbrev cL_stateOf : ByteArray := method_18_code
def yL_stateOf : MethodName := ⟨RL, "stateOf", "(LBranchyard;I[J)I"⟩
abbrev cL_hasFailed : ByteArray := method_19_code
def yL_hasFailed : MethodName := ⟨RL, "hasFailed", "(LBranchyard;I[J)I"⟩
abbrev cL_clashes : ByteArray := method_20_code
def yL_clashes : MethodName := ⟨RL, "clashes", "(LBranchyard;I[J)I"⟩
abbrev cL_update : ByteArray := method_21_code
def yL_update : MethodName := ⟨RL, "update", "(LBranchyard;I[J)I"⟩
abbrev cL_addTest : ByteArray := method_22_code
def yL_addTest : MethodName := ⟨RL, "addTest", "(LBranchyard;IIIII[J)I"⟩
abbrev cL_dropTest : ByteArray := method_23_code
def yL_dropTest : MethodName := ⟨RL, "dropTest", "(LBranchyard;I[J)I"⟩
abbrev cL_value : ByteArray := method_24_code
def yL_value : MethodName := ⟨RL, "value", "(LBranchyard;II[J)I"⟩
abbrev cL_valueByMerges : ByteArray := method_25_code
def yL_valueByMerges : MethodName := ⟨RL, "valueByMerges", "(LBranchyard;II[J)I"⟩
abbrev cL_valueWith : ByteArray := method_26_code
def yL_valueWith : MethodName := ⟨RL, "valueWith", "(LBranchyard;III[J)I"⟩
abbrev cL_along : ByteArray := method_27_code
def yL_along : MethodName := ⟨RL, "along", "(LBranchyard;I[J)I"⟩
abbrev cL_revert : ByteArray := method_28_code
def yL_revert : MethodName := ⟨RL, "revert", "(LBranchyard;I[J)I"⟩
abbrev cL_mergedAt : ByteArray := method_29_code
def yL_mergedAt : MethodName := ⟨RL, "mergedAt", "(LBranchyard;I[J)I"⟩
abbrev cL_isGood : ByteArray := method_30_code
def yL_isGood : MethodName := ⟨RL, "isGood", "(LBranchyard;I[J)I"⟩
abbrev cL_takenShare : ByteArray := method_31_code
def yL_takenShare : MethodName := ⟨RL, "takenShare", "(LBranchyard;[D)I"⟩
abbrev cL_meanEdits : ByteArray := method_32_code
def yL_meanEdits : MethodName := ⟨RL, "meanEdits", "(LBranchyard;[D)I"⟩
abbrev cL_law : ByteArray := code
def yL_law : MethodName := ⟨RL, "law", "([I)Z"⟩
end
section
theorem dX0_init_0 : decode cX0_init 0 = .ok (.aload_n 0, 1) := by decide +kernel
theorem dX0_init_1 : decode cX0_init 1 = .ok (.invokespecial 1, 3) := by decide +kernel
theorem dX0_init_4 : decode cX0_init 4 = .ok (.aload_n 0, 1) := by decide +kernel
theorem dX0_init_5 : decode cX0_init 5 = .ok (.aload_n 1, 1) := by decide +kernel
theorem dX0_init_6 : decode cX0_init 6 = .ok (.putfield 7, 3) := by decide +kernel
theorem dX0_init_9 : decode cX0_init 9 = .ok (.aload_n 0, 1) := by decide +kernel
theorem dX0_init_10 : decode cX0_init 10 = .ok (.iload_n 2, 1) := by decide +kernel
theorem dX0_init_11 : decode cX0_init 11 = .ok (.putfield 13, 3) := by decide +kernel
theorem dX0_init_14 : decode cX0_init 14 = .ok (.aload_n 0, 1) := by decide +kernel
theorem dX0_init_15 : decode cX0_init 15 = .ok (.aload_n 3, 1) := by decide +kernel
theorem dX0_init_16 : decode cX0_init 16 = .ok (.putfield 17, 3) := by decide +kernel
theorem dX0_init_19 : decode cX0_init 19 = .ok (.return_, 1) := by decide +kernel
theorem dX0_holds_0 : decode cX0_holds 0 = .ok (.iload_n 2, 1) := by decide +kernel
theorem dX0_holds_1 : decode cX0_holds 1 = .ok (.aload_n 0, 1) := by decide +kernel
theorem dX0_holds_2 : decode cX0_holds 2 = .ok (.getfield 7, 3) := by decide +kernel
theorem dX0_holds_5 : decode cX0_holds 5 = .ok (.arraylength, 1) := by decide +kernel
theorem dX0_holds_6 : decode cX0_holds 6 = .ok (.if_icmp .ne 9, 3) := by decide +kernel
theorem dX0_holds_9 : decode cX0_holds 9 = .ok (.iload_n 2, 1) := by decide +kernel
theorem dX0_holds_10 : decode cX0_holds 10 = .ok (.aload_n 1, 1) := by decide +kernel
theorem dX0_holds_11 : decode cX0_holds 11 = .ok (.arraylength, 1) := by decide +kernel
theorem dX0_holds_12 : decode cX0_holds 12 = .ok (.if_icmp .le 5, 3) := by decide +kernel
theorem dX0_holds_15 : decode cX0_holds 15 = .ok (.iconst 0, 1) := by decide +kernel
theorem dX0_holds_16 : decode cX0_holds 16 = .ok (.ireturn, 1) := by decide +kernel
theorem dX0_holds_17 : decode cX0_holds 17 = .ok (.iconst 0, 1) := by decide +kernel
theorem dX0_holds_18 : decode cX0_holds 18 = .ok (.istore_n 3, 1) := by decide +kernel
theorem dX0_holds_19 : decode cX0_holds 19 = .ok (.iload_n 3, 1) := by decide +kernel
theorem dX0_holds_20 : decode cX0_holds 20 = .ok (.iload_n 2, 1) := by decide +kernel
theorem dX0_holds_21 : decode cX0_holds 21 = .ok (.if_icmp .ge 23, 3) := by decide +kernel
theorem dX0_holds_24 : decode cX0_holds 24 = .ok (.aload_n 0, 1) := by decide +kernel
theorem dX0_holds_25 : decode cX0_holds 25 = .ok (.getfield 7, 3) := by decide +kernel
theorem dX0_holds_28 : decode cX0_holds 28 = .ok (.iload_n 3, 1) := by decide +kernel
theorem dX0_holds_29 : decode cX0_holds 29 = .ok (.iaload, 1) := by decide +kernel
theorem dX0_holds_30 : decode cX0_holds 30 = .ok (.aload_n 1, 1) := by decide +kernel
theorem dX0_holds_31 : decode cX0_holds 31 = .ok (.iload_n 3, 1) := by decide +kernel
theorem dX0_holds_32 : decode cX0_holds 32 = .ok (.iaload, 1) := by decide +kernel
theorem dX0_holds_33 : decode cX0_holds 33 = .ok (.if_icmp .eq 5, 3) := by decide +kernel
theorem dX0_holds_36 : decode cX0_holds 36 = .ok (.iconst 0, 1) := by decide +kernel
theorem dX0_holds_37 : decode cX0_holds 37 = .ok (.ireturn, 1) := by decide +kernel
theorem dX0_holds_38 : decode cX0_holds 38 = .ok (.iinc 3 1, 3) := by decide +kernel
theorem dX0_holds_41 : decode cX0_holds 41 = .ok (.goto (-22), 3) := by decide +kernel
theorem dX0_holds_44 : decode cX0_holds 44 = .ok (.iconst 1, 1) := by decide +kernel
theorem dX0_holds_45 : decode cX0_holds 45 = .ok (.ireturn, 1) := by decide +kernel
theorem dX1_init_0 : decode cX1_init 0 = .ok (.aload_n 0, 1) := by decide +kernel
theorem dX1_init_1 : decode cX1_init 1 = .ok (.invokespecial 3, 3) := by decide +kernel
theorem dX1_init_4 : decode cX1_init 4 = .ok (.aload_n 0, 1) := by decide +kernel
theorem dX1_init_5 : decode cX1_init 5 = .ok (.bipush 111, 2) := by decide +kernel
theorem dX1_init_7 : decode cX1_init 7 = .ok (.putfield 9, 3) := by decide +kernel
theorem dX1_init_10 : decode cX1_init 10 = .ok (.aload_n 0, 1) := by decide +kernel
theorem dX1_init_11 : decode cX1_init 11 = .ok (.bipush 64, 2) := by decide +kernel
theorem dX1_init_13 : decode cX1_init 13 = .ok (.newarray .int, 2) := by decide +kernel
theorem dX1_init_15 : decode cX1_init 15 = .ok (.putfield 15, 3) := by decide +kernel
theorem dX1_init_18 : decode cX1_init 18 = .ok (.aload_n 0, 1) := by decide +kernel
theorem dX1_init_19 : decode cX1_init 19 = .ok (.bipush 6, 2) := by decide +kernel
theorem dX1_init_21 : decode cX1_init 21 = .ok (.newarray .int, 2) := by decide +kernel
theorem dX1_init_23 : decode cX1_init 23 = .ok (.putfield 19, 3) := by decide +kernel
theorem dX1_init_26 : decode cX1_init 26 = .ok (.aload_n 0, 1) := by decide +kernel
theorem dX1_init_27 : decode cX1_init 27 = .ok (.bipush 6, 2) := by decide +kernel
theorem dX1_init_29 : decode cX1_init 29 = .ok (.newarray .long, 2) := by decide +kernel
theorem dX1_init_31 : decode cX1_init 31 = .ok (.putfield 22, 3) := by decide +kernel
theorem dX1_init_34 : decode cX1_init 34 = .ok (.aload_n 0, 1) := by decide +kernel
theorem dX1_init_35 : decode cX1_init 35 = .ok (.bipush 6, 2) := by decide +kernel
theorem dX1_init_37 : decode cX1_init 37 = .ok (.bipush 64, 2) := by decide +kernel
theorem dX1_init_39 : decode cX1_init 39 = .ok (.multianewarray 26 2, 4) := by decide +kernel
theorem dX1_init_43 : decode cX1_init 43 = .ok (.putfield 28, 3) := by decide +kernel
theorem dX1_init_46 : decode cX1_init 46 = .ok (.return_, 1) := by decide +kernel
theorem dX1_editCount_0 : decode cX1_editCount 0 = .ok (.aload_n 0, 1) := by decide +kernel
theorem dX1_editCount_1 : decode cX1_editCount 1 = .ok (.getfield 31, 3) := by decide +kernel
theorem dX1_editCount_4 : decode cX1_editCount 4 = .ok (.invokestatic 35, 3) := by decide +kernel
theorem dX1_editCount_7 : decode cX1_editCount 7 = .ok (.ireturn, 1) := by decide +kernel
theorem dX1_clashCount_0 : decode cX1_clashCount 0 = .ok (.aload_n 0, 1) := by decide +kernel
theorem dX1_clashCount_1 : decode cX1_clashCount 1 = .ok (.getfield 41, 3) := by decide +kernel
theorem dX1_clashCount_4 : decode cX1_clashCount 4 = .ok (.invokestatic 35, 3) := by decide +kernel
theorem dX1_clashCount_7 : decode cX1_clashCount 7 = .ok (.ireturn, 1) := by decide +kernel
theorem dX1_hasEdit_0 : decode cX1_hasEdit 0 = .ok (.aload_n 0, 1) := by decide +kernel
theorem dX1_hasEdit_1 : decode cX1_hasEdit 1 = .ok (.getfield 31, 3) := by decide +kernel
theorem dX1_hasEdit_4 : decode cX1_hasEdit 4 = .ok (.lconst 1, 1) := by decide +kernel
theorem dX1_hasEdit_5 : decode cX1_hasEdit 5 = .ok (.iload_n 1, 1) := by decide +kernel
theorem dX1_hasEdit_6 : decode cX1_hasEdit 6 = .ok (.lshl, 1) := by decide +kernel
theorem dX1_hasEdit_7 : decode cX1_hasEdit 7 = .ok (.land, 1) := by decide +kernel
theorem dX1_hasEdit_8 : decode cX1_hasEdit 8 = .ok (.lconst 0, 1) := by decide +kernel
theorem dX1_hasEdit_9 : decode cX1_hasEdit 9 = .ok (.lcmp, 1) := by decide +kernel
theorem dX1_hasEdit_10 : decode cX1_hasEdit 10 = .ok (.ifCond .eq 7, 3) := by decide +kernel
theorem dX1_hasEdit_13 : decode cX1_hasEdit 13 = .ok (.iconst 1, 1) := by decide +kernel
theorem dX1_hasEdit_14 : decode cX1_hasEdit 14 = .ok (.goto 4, 3) := by decide +kernel
theorem dX1_hasEdit_17 : decode cX1_hasEdit 17 = .ok (.iconst 0, 1) := by decide +kernel
theorem dX1_hasEdit_18 : decode cX1_hasEdit 18 = .ok (.ireturn, 1) := by decide +kernel
theorem dX1_putEdit_0 : decode cX1_putEdit 0 = .ok (.aload_n 0, 1) := by decide +kernel
theorem dX1_putEdit_1 : decode cX1_putEdit 1 = .ok (.dup, 1) := by decide +kernel
theorem dX1_putEdit_2 : decode cX1_putEdit 2 = .ok (.getfield 31, 3) := by decide +kernel
theorem dX1_putEdit_5 : decode cX1_putEdit 5 = .ok (.lconst 1, 1) := by decide +kernel
theorem dX1_putEdit_6 : decode cX1_putEdit 6 = .ok (.iload_n 1, 1) := by decide +kernel
theorem dX1_putEdit_7 : decode cX1_putEdit 7 = .ok (.lshl, 1) := by decide +kernel
theorem dX1_putEdit_8 : decode cX1_putEdit 8 = .ok (.lor, 1) := by decide +kernel
theorem dX1_putEdit_9 : decode cX1_putEdit 9 = .ok (.putfield 31, 3) := by decide +kernel
theorem dX1_putEdit_12 : decode cX1_putEdit 12 = .ok (.aload_n 0, 1) := by decide +kernel
theorem dX1_putEdit_13 : decode cX1_putEdit 13 = .ok (.getfield 15, 3) := by decide +kernel
theorem dX1_putEdit_16 : decode cX1_putEdit 16 = .ok (.iload_n 1, 1) := by decide +kernel
theorem dX1_putEdit_17 : decode cX1_putEdit 17 = .ok (.iload_n 2, 1) := by decide +kernel
theorem dX1_putEdit_18 : decode cX1_putEdit 18 = .ok (.iastore, 1) := by decide +kernel
theorem dX1_putEdit_19 : decode cX1_putEdit 19 = .ok (.return_, 1) := by decide +kernel
theorem dX1_removeEdit_0 : decode cX1_removeEdit 0 = .ok (.aload_n 0, 1) := by decide +kernel
theorem dX1_removeEdit_1 : decode cX1_removeEdit 1 = .ok (.dup, 1) := by decide +kernel
theorem dX1_removeEdit_2 : decode cX1_removeEdit 2 = .ok (.getfield 31, 3) := by decide +kernel
theorem dX1_removeEdit_5 : decode cX1_removeEdit 5 = .ok (.lconst 1, 1) := by decide +kernel
theorem dX1_removeEdit_6 : decode cX1_removeEdit 6 = .ok (.iload_n 1, 1) := by decide +kernel
theorem dX1_removeEdit_7 : decode cX1_removeEdit 7 = .ok (.lshl, 1) := by decide +kernel
theorem dX1_removeEdit_8 : decode cX1_removeEdit 8 = .ok (.ldc2_w 44, 3) := by decide +kernel
theorem dX1_removeEdit_11 : decode cX1_removeEdit 11 = .ok (.lxor, 1) := by decide +kernel
theorem dX1_removeEdit_12 : decode cX1_removeEdit 12 = .ok (.land, 1) := by decide +kernel
theorem dX1_removeEdit_13 : decode cX1_removeEdit 13 = .ok (.putfield 31, 3) := by decide +kernel
theorem dX1_removeEdit_16 : decode cX1_removeEdit 16 = .ok (.aload_n 0, 1) := by decide +kernel
theorem dX1_removeEdit_17 : decode cX1_removeEdit 17 = .ok (.dup, 1) := by decide +kernel
theorem dX1_removeEdit_18 : decode cX1_removeEdit 18 = .ok (.getfield 41, 3) := by decide +kernel
theorem dX1_removeEdit_21 : decode cX1_removeEdit 21 = .ok (.lconst 1, 1) := by decide +kernel
theorem dX1_removeEdit_22 : decode cX1_removeEdit 22 = .ok (.iload_n 1, 1) := by decide +kernel
theorem dX1_removeEdit_23 : decode cX1_removeEdit 23 = .ok (.lshl, 1) := by decide +kernel
theorem dX1_removeEdit_24 : decode cX1_removeEdit 24 = .ok (.ldc2_w 44, 3) := by decide +kernel
theorem dX1_removeEdit_27 : decode cX1_removeEdit 27 = .ok (.lxor, 1) := by decide +kernel
theorem dX1_removeEdit_28 : decode cX1_removeEdit 28 = .ok (.land, 1) := by decide +kernel
theorem dX1_removeEdit_29 : decode cX1_removeEdit 29 = .ok (.putfield 41, 3) := by decide +kernel
theorem dX1_removeEdit_32 : decode cX1_removeEdit 32 = .ok (.return_, 1) := by decide +kernel
theorem dX1_touches_0 : decode cX1_touches 0 = .ok (.aload_n 0, 1) := by decide +kernel
theorem dX1_touches_1 : decode cX1_touches 1 = .ok (.getfield 31, 3) := by decide +kernel
theorem dX1_touches_4 : decode cX1_touches 4 = .ok (.ldc2_w 46, 3) := by decide +kernel
theorem dX1_touches_7 : decode cX1_touches 7 = .ok (.iload_n 1, 1) := by decide +kernel
theorem dX1_touches_8 : decode cX1_touches 8 = .ok (.bipush 16, 2) := by decide +kernel
theorem dX1_touches_10 : decode cX1_touches 10 = .ok (.imul, 1) := by decide +kernel
theorem dX1_touches_11 : decode cX1_touches 11 = .ok (.lshl, 1) := by decide +kernel
theorem dX1_touches_12 : decode cX1_touches 12 = .ok (.land, 1) := by decide +kernel
theorem dX1_touches_13 : decode cX1_touches 13 = .ok (.lconst 0, 1) := by decide +kernel
theorem dX1_touches_14 : decode cX1_touches 14 = .ok (.lcmp, 1) := by decide +kernel
theorem dX1_touches_15 : decode cX1_touches 15 = .ok (.ifCond .eq 7, 3) := by decide +kernel
theorem dX1_touches_18 : decode cX1_touches 18 = .ok (.iconst 1, 1) := by decide +kernel
theorem dX1_touches_19 : decode cX1_touches 19 = .ok (.goto 4, 3) := by decide +kernel
theorem dX1_touches_22 : decode cX1_touches 22 = .ok (.iconst 0, 1) := by decide +kernel
theorem dX1_touches_23 : decode cX1_touches 23 = .ok (.ireturn, 1) := by decide +kernel
theorem dX1_applyTo_0 : decode cX1_applyTo 0 = .ok (.iconst 0, 1) := by decide +kernel
theorem dX1_applyTo_1 : decode cX1_applyTo 1 = .ok (.istore_n 2, 1) := by decide +kernel
theorem dX1_applyTo_2 : decode cX1_applyTo 2 = .ok (.iload_n 2, 1) := by decide +kernel
theorem dX1_applyTo_3 : decode cX1_applyTo 3 = .ok (.bipush 64, 2) := by decide +kernel
theorem dX1_applyTo_5 : decode cX1_applyTo 5 = .ok (.if_icmp .ge 26, 3) := by decide +kernel
theorem dX1_applyTo_8 : decode cX1_applyTo 8 = .ok (.aload_n 0, 1) := by decide +kernel
theorem dX1_applyTo_9 : decode cX1_applyTo 9 = .ok (.iload_n 2, 1) := by decide +kernel
theorem dX1_applyTo_10 : decode cX1_applyTo 10 = .ok (.invokevirtual 48, 3) := by decide +kernel
theorem dX1_applyTo_13 : decode cX1_applyTo 13 = .ok (.ifCond .eq 12, 3) := by decide +kernel
theorem dX1_applyTo_16 : decode cX1_applyTo 16 = .ok (.aload_n 1, 1) := by decide +kernel
theorem dX1_applyTo_17 : decode cX1_applyTo 17 = .ok (.iload_n 2, 1) := by decide +kernel
theorem dX1_applyTo_18 : decode cX1_applyTo 18 = .ok (.aload_n 0, 1) := by decide +kernel
theorem dX1_applyTo_19 : decode cX1_applyTo 19 = .ok (.getfield 15, 3) := by decide +kernel
theorem dX1_applyTo_22 : decode cX1_applyTo 22 = .ok (.iload_n 2, 1) := by decide +kernel
theorem dX1_applyTo_23 : decode cX1_applyTo 23 = .ok (.iaload, 1) := by decide +kernel
theorem dX1_applyTo_24 : decode cX1_applyTo 24 = .ok (.iastore, 1) := by decide +kernel
theorem dX1_applyTo_25 : decode cX1_applyTo 25 = .ok (.iinc 2 1, 3) := by decide +kernel
theorem dX1_applyTo_28 : decode cX1_applyTo 28 = .ok (.goto (-26), 3) := by decide +kernel
theorem dX1_applyTo_31 : decode cX1_applyTo 31 = .ok (.return_, 1) := by decide +kernel
theorem dX1_voteFor_0 : decode cX1_voteFor 0 = .ok (.aload_n 0, 1) := by decide +kernel
theorem dX1_voteFor_1 : decode cX1_voteFor 1 = .ok (.getfield 19, 3) := by decide +kernel
theorem dX1_voteFor_4 : decode cX1_voteFor 4 = .ok (.iload_n 1, 1) := by decide +kernel
theorem dX1_voteFor_5 : decode cX1_voteFor 5 = .ok (.iconst 1, 1) := by decide +kernel
theorem dX1_voteFor_6 : decode cX1_voteFor 6 = .ok (.iastore, 1) := by decide +kernel
theorem dX1_voteFor_7 : decode cX1_voteFor 7 = .ok (.aload_n 0, 1) := by decide +kernel
theorem dX1_voteFor_8 : decode cX1_voteFor 8 = .ok (.getfield 22, 3) := by decide +kernel
theorem dX1_voteFor_11 : decode cX1_voteFor 11 = .ok (.iload_n 1, 1) := by decide +kernel
theorem dX1_voteFor_12 : decode cX1_voteFor 12 = .ok (.aload_n 0, 1) := by decide +kernel
theorem dX1_voteFor_13 : decode cX1_voteFor 13 = .ok (.getfield 31, 3) := by decide +kernel
theorem dX1_voteFor_16 : decode cX1_voteFor 16 = .ok (.lastore, 1) := by decide +kernel
theorem dX1_voteFor_17 : decode cX1_voteFor 17 = .ok (.aload_n 0, 1) := by decide +kernel
theorem dX1_voteFor_18 : decode cX1_voteFor 18 = .ok (.getfield 15, 3) := by decide +kernel
theorem dX1_voteFor_21 : decode cX1_voteFor 21 = .ok (.iconst 0, 1) := by decide +kernel
theorem dX1_voteFor_22 : decode cX1_voteFor 22 = .ok (.aload_n 0, 1) := by decide +kernel
theorem dX1_voteFor_23 : decode cX1_voteFor 23 = .ok (.getfield 28, 3) := by decide +kernel
theorem dX1_voteFor_26 : decode cX1_voteFor 26 = .ok (.iload_n 1, 1) := by decide +kernel
theorem dX1_voteFor_27 : decode cX1_voteFor 27 = .ok (.aaload, 1) := by decide +kernel
theorem dX1_voteFor_28 : decode cX1_voteFor 28 = .ok (.iconst 0, 1) := by decide +kernel
theorem dX1_voteFor_29 : decode cX1_voteFor 29 = .ok (.bipush 64, 2) := by decide +kernel
theorem dX1_voteFor_31 : decode cX1_voteFor 31 = .ok (.invokestatic 52, 3) := by decide +kernel
theorem dX1_voteFor_34 : decode cX1_voteFor 34 = .ok (.return_, 1) := by decide +kernel
theorem dX1_voteAgainst_0 : decode cX1_voteAgainst 0 = .ok (.aload_n 0, 1) := by decide +kernel
theorem dX1_voteAgainst_1 : decode cX1_voteAgainst 1 = .ok (.getfield 19, 3) := by decide +kernel
theorem dX1_voteAgainst_4 : decode cX1_voteAgainst 4 = .ok (.iload_n 1, 1) := by decide +kernel
theorem dX1_voteAgainst_5 : decode cX1_voteAgainst 5 = .ok (.iconst 2, 1) := by decide +kernel
theorem dX1_voteAgainst_6 : decode cX1_voteAgainst 6 = .ok (.iastore, 1) := by decide +kernel
theorem dX1_voteAgainst_7 : decode cX1_voteAgainst 7 = .ok (.aload_n 0, 1) := by decide +kernel
theorem dX1_voteAgainst_8 : decode cX1_voteAgainst 8 = .ok (.getfield 22, 3) := by decide +kernel
theorem dX1_voteAgainst_11 : decode cX1_voteAgainst 11 = .ok (.iload_n 1, 1) := by decide +kernel
theorem dX1_voteAgainst_12 : decode cX1_voteAgainst 12 = .ok (.lconst 0, 1) := by decide +kernel
theorem dX1_voteAgainst_13 : decode cX1_voteAgainst 13 = .ok (.lastore, 1) := by decide +kernel
theorem dX1_voteAgainst_14 : decode cX1_voteAgainst 14 = .ok (.return_, 1) := by decide +kernel
theorem dX1_verdictBy_0 : decode cX1_verdictBy 0 = .ok (.aload_n 0, 1) := by decide +kernel
theorem dX1_verdictBy_1 : decode cX1_verdictBy 1 = .ok (.getfield 19, 3) := by decide +kernel
theorem dX1_verdictBy_4 : decode cX1_verdictBy 4 = .ok (.iload_n 1, 1) := by decide +kernel
theorem dX1_verdictBy_5 : decode cX1_verdictBy 5 = .ok (.iaload, 1) := by decide +kernel
theorem dX1_verdictBy_6 : decode cX1_verdictBy 6 = .ok (.ifCond .ne 6, 3) := by decide +kernel
theorem dX1_verdictBy_9 : decode cX1_verdictBy 9 = .ok (.bipush 63, 2) := by decide +kernel
theorem dX1_verdictBy_11 : decode cX1_verdictBy 11 = .ok (.ireturn, 1) := by decide +kernel
theorem dX1_verdictBy_12 : decode cX1_verdictBy 12 = .ok (.aload_n 0, 1) := by decide +kernel
theorem dX1_verdictBy_13 : decode cX1_verdictBy 13 = .ok (.getfield 19, 3) := by decide +kernel
theorem dX1_verdictBy_16 : decode cX1_verdictBy 16 = .ok (.iload_n 1, 1) := by decide +kernel
theorem dX1_verdictBy_17 : decode cX1_verdictBy 17 = .ok (.iaload, 1) := by decide +kernel
theorem dX1_verdictBy_18 : decode cX1_verdictBy 18 = .ok (.iconst 2, 1) := by decide +kernel
theorem dX1_verdictBy_19 : decode cX1_verdictBy 19 = .ok (.if_icmp .ne 6, 3) := by decide +kernel
theorem dX1_verdictBy_22 : decode cX1_verdictBy 22 = .ok (.bipush 110, 2) := by decide +kernel
theorem dX1_verdictBy_24 : decode cX1_verdictBy 24 = .ok (.ireturn, 1) := by decide +kernel
theorem dX1_verdictBy_25 : decode cX1_verdictBy 25 = .ok (.aload_n 0, 1) := by decide +kernel
theorem dX1_verdictBy_26 : decode cX1_verdictBy 26 = .ok (.iload_n 1, 1) := by decide +kernel
theorem dX1_verdictBy_27 : decode cX1_verdictBy 27 = .ok (.iload_n 2, 1) := by decide +kernel
theorem dX1_verdictBy_28 : decode cX1_verdictBy 28 = .ok (.invokevirtual 58, 3) := by decide +kernel
theorem dX1_verdictBy_31 : decode cX1_verdictBy 31 = .ok (.ifCond .eq 8, 3) := by decide +kernel
theorem dX1_verdictBy_34 : decode cX1_verdictBy 34 = .ok (.bipush 121, 2) := by decide +kernel
theorem dX1_verdictBy_36 : decode cX1_verdictBy 36 = .ok (.goto 5, 3) := by decide +kernel
theorem dX1_verdictBy_39 : decode cX1_verdictBy 39 = .ok (.bipush 115, 2) := by decide +kernel
theorem dX1_verdictBy_41 : decode cX1_verdictBy 41 = .ok (.ireturn, 1) := by decide +kernel
theorem dX1_coversAll_0 : decode cX1_coversAll 0 = .ok (.iload_n 2, 1) := by decide +kernel
theorem dX1_coversAll_1 : decode cX1_coversAll 1 = .ok (.bipush 16, 2) := by decide +kernel
theorem dX1_coversAll_3 : decode cX1_coversAll 3 = .ok (.imul, 1) := by decide +kernel
theorem dX1_coversAll_4 : decode cX1_coversAll 4 = .ok (.istore_n 3, 1) := by decide +kernel
theorem dX1_coversAll_5 : decode cX1_coversAll 5 = .ok (.iload_n 3, 1) := by decide +kernel
theorem dX1_coversAll_6 : decode cX1_coversAll 6 = .ok (.istore 4, 2) := by decide +kernel
theorem dX1_coversAll_8 : decode cX1_coversAll 8 = .ok (.iload 4, 2) := by decide +kernel
theorem dX1_coversAll_10 : decode cX1_coversAll 10 = .ok (.iload_n 3, 1) := by decide +kernel
theorem dX1_coversAll_11 : decode cX1_coversAll 11 = .ok (.bipush 16, 2) := by decide +kernel
theorem dX1_coversAll_13 : decode cX1_coversAll 13 = .ok (.iadd, 1) := by decide +kernel
theorem dX1_coversAll_14 : decode cX1_coversAll 14 = .ok (.if_icmp .ge 30, 3) := by decide +kernel
theorem dX1_coversAll_17 : decode cX1_coversAll 17 = .ok (.aload_n 0, 1) := by decide +kernel
theorem dX1_coversAll_18 : decode cX1_coversAll 18 = .ok (.iload 4, 2) := by decide +kernel
theorem dX1_coversAll_20 : decode cX1_coversAll 20 = .ok (.invokevirtual 48, 3) := by decide +kernel
theorem dX1_coversAll_23 : decode cX1_coversAll 23 = .ok (.ifCond .eq 15, 3) := by decide +kernel
theorem dX1_coversAll_26 : decode cX1_coversAll 26 = .ok (.aload_n 0, 1) := by decide +kernel
theorem dX1_coversAll_27 : decode cX1_coversAll 27 = .ok (.iload_n 1, 1) := by decide +kernel
theorem dX1_coversAll_28 : decode cX1_coversAll 28 = .ok (.iload 4, 2) := by decide +kernel
theorem dX1_coversAll_30 : decode cX1_coversAll 30 = .ok (.invokevirtual 62, 3) := by decide +kernel
theorem dX1_coversAll_33 : decode cX1_coversAll 33 = .ok (.ifCond .ne 5, 3) := by decide +kernel
theorem dX1_coversAll_36 : decode cX1_coversAll 36 = .ok (.iconst 0, 1) := by decide +kernel
theorem dX1_coversAll_37 : decode cX1_coversAll 37 = .ok (.ireturn, 1) := by decide +kernel
theorem dX1_coversAll_38 : decode cX1_coversAll 38 = .ok (.iinc 4 1, 3) := by decide +kernel
theorem dX1_coversAll_41 : decode cX1_coversAll 41 = .ok (.goto (-33), 3) := by decide +kernel
theorem dX1_coversAll_44 : decode cX1_coversAll 44 = .ok (.iconst 1, 1) := by decide +kernel
theorem dX1_coversAll_45 : decode cX1_coversAll 45 = .ok (.ireturn, 1) := by decide +kernel
theorem dX1_covers_0 : decode cX1_covers 0 = .ok (.aload_n 0, 1) := by decide +kernel
theorem dX1_covers_1 : decode cX1_covers 1 = .ok (.getfield 22, 3) := by decide +kernel
theorem dX1_covers_4 : decode cX1_covers 4 = .ok (.iload_n 1, 1) := by decide +kernel
theorem dX1_covers_5 : decode cX1_covers 5 = .ok (.laload, 1) := by decide +kernel
theorem dX1_covers_6 : decode cX1_covers 6 = .ok (.lconst 1, 1) := by decide +kernel
theorem dX1_covers_7 : decode cX1_covers 7 = .ok (.iload_n 2, 1) := by decide +kernel
theorem dX1_covers_8 : decode cX1_covers 8 = .ok (.lshl, 1) := by decide +kernel
theorem dX1_covers_9 : decode cX1_covers 9 = .ok (.land, 1) := by decide +kernel
theorem dX1_covers_10 : decode cX1_covers 10 = .ok (.lconst 0, 1) := by decide +kernel
theorem dX1_covers_11 : decode cX1_covers 11 = .ok (.lcmp, 1) := by decide +kernel
theorem dX1_covers_12 : decode cX1_covers 12 = .ok (.ifCond .eq 7, 3) := by decide +kernel
theorem dX1_covers_15 : decode cX1_covers 15 = .ok (.iconst 1, 1) := by decide +kernel
theorem dX1_covers_16 : decode cX1_covers 16 = .ok (.goto 4, 3) := by decide +kernel
theorem dX1_covers_19 : decode cX1_covers 19 = .ok (.iconst 0, 1) := by decide +kernel
theorem dX1_covers_20 : decode cX1_covers 20 = .ok (.istore_n 3, 1) := by decide +kernel
theorem dX1_covers_21 : decode cX1_covers 21 = .ok (.iload_n 3, 1) := by decide +kernel
theorem dX1_covers_22 : decode cX1_covers 22 = .ok (.ifCond .eq 24, 3) := by decide +kernel
theorem dX1_covers_25 : decode cX1_covers 25 = .ok (.aload_n 0, 1) := by decide +kernel
theorem dX1_covers_26 : decode cX1_covers 26 = .ok (.getfield 28, 3) := by decide +kernel
theorem dX1_covers_29 : decode cX1_covers 29 = .ok (.iload_n 1, 1) := by decide +kernel
theorem dX1_covers_30 : decode cX1_covers 30 = .ok (.aaload, 1) := by decide +kernel
theorem dX1_covers_31 : decode cX1_covers 31 = .ok (.iload_n 2, 1) := by decide +kernel
theorem dX1_covers_32 : decode cX1_covers 32 = .ok (.iaload, 1) := by decide +kernel
theorem dX1_covers_33 : decode cX1_covers 33 = .ok (.aload_n 0, 1) := by decide +kernel
theorem dX1_covers_34 : decode cX1_covers 34 = .ok (.getfield 15, 3) := by decide +kernel
theorem dX1_covers_37 : decode cX1_covers 37 = .ok (.iload_n 2, 1) := by decide +kernel
theorem dX1_covers_38 : decode cX1_covers 38 = .ok (.iaload, 1) := by decide +kernel
theorem dX1_covers_39 : decode cX1_covers 39 = .ok (.if_icmp .ne 7, 3) := by decide +kernel
theorem dX1_covers_42 : decode cX1_covers 42 = .ok (.iconst 1, 1) := by decide +kernel
theorem dX1_covers_43 : decode cX1_covers 43 = .ok (.goto 4, 3) := by decide +kernel
theorem dX1_covers_46 : decode cX1_covers 46 = .ok (.iconst 0, 1) := by decide +kernel
theorem dX1_covers_47 : decode cX1_covers 47 = .ok (.ireturn, 1) := by decide +kernel
theorem dX1_bringUpToDate_0 : decode cX1_bringUpToDate 0 = .ok (.iconst 0, 1) := by decide +kernel
theorem dX1_bringUpToDate_1 : decode cX1_bringUpToDate 1 = .ok (.istore_n 1, 1) := by decide +kernel
theorem dX1_bringUpToDate_2 : decode cX1_bringUpToDate 2 = .ok (.iload_n 1, 1) := by decide +kernel
theorem dX1_bringUpToDate_3 : decode cX1_bringUpToDate 3 = .ok (.bipush 6, 2) := by decide +kernel
theorem dX1_bringUpToDate_5 : decode cX1_bringUpToDate 5 = .ok (.if_icmp .ge 26, 3) := by decide +kernel
theorem dX1_bringUpToDate_8 : decode cX1_bringUpToDate 8 = .ok (.aload_n 0, 1) := by decide +kernel
theorem dX1_bringUpToDate_9 : decode cX1_bringUpToDate 9 = .ok (.getfield 22, 3) := by decide +kernel
theorem dX1_bringUpToDate_12 : decode cX1_bringUpToDate 12 = .ok (.iload_n 1, 1) := by decide +kernel
theorem dX1_bringUpToDate_13 : decode cX1_bringUpToDate 13 = .ok (.dup2, 1) := by decide +kernel
theorem dX1_bringUpToDate_14 : decode cX1_bringUpToDate 14 = .ok (.laload, 1) := by decide +kernel
theorem dX1_bringUpToDate_15 : decode cX1_bringUpToDate 15 = .ok (.aload_n 0, 1) := by decide +kernel
theorem dX1_bringUpToDate_16 : decode cX1_bringUpToDate 16 = .ok (.getfield 41, 3) := by decide +kernel
theorem dX1_bringUpToDate_19 : decode cX1_bringUpToDate 19 = .ok (.ldc2_w 44, 3) := by decide +kernel
theorem dX1_bringUpToDate_22 : decode cX1_bringUpToDate 22 = .ok (.lxor, 1) := by decide +kernel
theorem dX1_bringUpToDate_23 : decode cX1_bringUpToDate 23 = .ok (.land, 1) := by decide +kernel
theorem dX1_bringUpToDate_24 : decode cX1_bringUpToDate 24 = .ok (.lastore, 1) := by decide +kernel
theorem dX1_bringUpToDate_25 : decode cX1_bringUpToDate 25 = .ok (.iinc 1 1, 3) := by decide +kernel
theorem dX1_bringUpToDate_28 : decode cX1_bringUpToDate 28 = .ok (.goto (-26), 3) := by decide +kernel
theorem dX1_bringUpToDate_31 : decode cX1_bringUpToDate 31 = .ok (.aload_n 0, 1) := by decide +kernel
theorem dX1_bringUpToDate_32 : decode cX1_bringUpToDate 32 = .ok (.lconst 0, 1) := by decide +kernel
theorem dX1_bringUpToDate_33 : decode cX1_bringUpToDate 33 = .ok (.putfield 41, 3) := by decide +kernel
theorem dX1_bringUpToDate_36 : decode cX1_bringUpToDate 36 = .ok (.return_, 1) := by decide +kernel
theorem dX2_init_0 : decode cX2_init 0 = .ok (.aload_n 0, 1) := by decide +kernel
theorem dX2_init_1 : decode cX2_init 1 = .ok (.invokespecial 3, 3) := by decide +kernel
theorem dX2_init_4 : decode cX2_init 4 = .ok (.aload_n 0, 1) := by decide +kernel
theorem dX2_init_5 : decode cX2_init 5 = .ok (.bipush 16, 2) := by decide +kernel
theorem dX2_init_7 : decode cX2_init 7 = .ok (.newarray .int, 2) := by decide +kernel
theorem dX2_init_9 : decode cX2_init 9 = .ok (.putfield 9, 3) := by decide +kernel
theorem dX2_init_12 : decode cX2_init 12 = .ok (.return_, 1) := by decide +kernel
theorem dX2_at_0 : decode cX2_at 0 = .ok (.aload_n 0, 1) := by decide +kernel
theorem dX2_at_1 : decode cX2_at 1 = .ok (.getfield 9, 3) := by decide +kernel
theorem dX2_at_4 : decode cX2_at 4 = .ok (.iload_n 1, 1) := by decide +kernel
theorem dX2_at_5 : decode cX2_at 5 = .ok (.iaload, 1) := by decide +kernel
theorem dX2_at_6 : decode cX2_at 6 = .ok (.ireturn, 1) := by decide +kernel
theorem dX2_append_0 : decode cX2_append 0 = .ok (.aload_n 0, 1) := by decide +kernel
theorem dX2_append_1 : decode cX2_append 1 = .ok (.getfield 15, 3) := by decide +kernel
theorem dX2_append_4 : decode cX2_append 4 = .ok (.bipush 16, 2) := by decide +kernel
theorem dX2_append_6 : decode cX2_append 6 = .ok (.if_icmp .ge 23, 3) := by decide +kernel
theorem dX2_append_9 : decode cX2_append 9 = .ok (.aload_n 0, 1) := by decide +kernel
theorem dX2_append_10 : decode cX2_append 10 = .ok (.getfield 9, 3) := by decide +kernel
theorem dX2_append_13 : decode cX2_append 13 = .ok (.aload_n 0, 1) := by decide +kernel
theorem dX2_append_14 : decode cX2_append 14 = .ok (.getfield 15, 3) := by decide +kernel
theorem dX2_append_17 : decode cX2_append 17 = .ok (.iload_n 1, 1) := by decide +kernel
theorem dX2_append_18 : decode cX2_append 18 = .ok (.iastore, 1) := by decide +kernel
theorem dX2_append_19 : decode cX2_append 19 = .ok (.aload_n 0, 1) := by decide +kernel
theorem dX2_append_20 : decode cX2_append 20 = .ok (.dup, 1) := by decide +kernel
theorem dX2_append_21 : decode cX2_append 21 = .ok (.getfield 15, 3) := by decide +kernel
theorem dX2_append_24 : decode cX2_append 24 = .ok (.iconst 1, 1) := by decide +kernel
theorem dX2_append_25 : decode cX2_append 25 = .ok (.iadd, 1) := by decide +kernel
theorem dX2_append_26 : decode cX2_append 26 = .ok (.putfield 15, 3) := by decide +kernel
theorem dX2_append_29 : decode cX2_append 29 = .ok (.return_, 1) := by decide +kernel
theorem dX2_drop_0 : decode cX2_drop 0 = .ok (.iconst 0, 1) := by decide +kernel
theorem dX2_drop_1 : decode cX2_drop 1 = .ok (.istore_n 2, 1) := by decide +kernel
theorem dX2_drop_2 : decode cX2_drop 2 = .ok (.iconst 0, 1) := by decide +kernel
theorem dX2_drop_3 : decode cX2_drop 3 = .ok (.istore_n 3, 1) := by decide +kernel
theorem dX2_drop_4 : decode cX2_drop 4 = .ok (.iload_n 3, 1) := by decide +kernel
theorem dX2_drop_5 : decode cX2_drop 5 = .ok (.aload_n 0, 1) := by decide +kernel
theorem dX2_drop_6 : decode cX2_drop 6 = .ok (.getfield 15, 3) := by decide +kernel
theorem dX2_drop_9 : decode cX2_drop 9 = .ok (.if_icmp .ge 34, 3) := by decide +kernel
theorem dX2_drop_12 : decode cX2_drop 12 = .ok (.aload_n 0, 1) := by decide +kernel
theorem dX2_drop_13 : decode cX2_drop 13 = .ok (.getfield 9, 3) := by decide +kernel
theorem dX2_drop_16 : decode cX2_drop 16 = .ok (.iload_n 3, 1) := by decide +kernel
theorem dX2_drop_17 : decode cX2_drop 17 = .ok (.iaload, 1) := by decide +kernel
theorem dX2_drop_18 : decode cX2_drop 18 = .ok (.iload_n 1, 1) := by decide +kernel
theorem dX2_drop_19 : decode cX2_drop 19 = .ok (.if_icmp .eq 18, 3) := by decide +kernel
theorem dX2_drop_22 : decode cX2_drop 22 = .ok (.aload_n 0, 1) := by decide +kernel
theorem dX2_drop_23 : decode cX2_drop 23 = .ok (.getfield 9, 3) := by decide +kernel
theorem dX2_drop_26 : decode cX2_drop 26 = .ok (.iload_n 2, 1) := by decide +kernel
theorem dX2_drop_27 : decode cX2_drop 27 = .ok (.aload_n 0, 1) := by decide +kernel
theorem dX2_drop_28 : decode cX2_drop 28 = .ok (.getfield 9, 3) := by decide +kernel
theorem dX2_drop_31 : decode cX2_drop 31 = .ok (.iload_n 3, 1) := by decide +kernel
theorem dX2_drop_32 : decode cX2_drop 32 = .ok (.iaload, 1) := by decide +kernel
theorem dX2_drop_33 : decode cX2_drop 33 = .ok (.iastore, 1) := by decide +kernel
theorem dX2_drop_34 : decode cX2_drop 34 = .ok (.iinc 2 1, 3) := by decide +kernel
theorem dX2_drop_37 : decode cX2_drop 37 = .ok (.iinc 3 1, 3) := by decide +kernel
theorem dX2_drop_40 : decode cX2_drop 40 = .ok (.goto (-36), 3) := by decide +kernel
theorem dX2_drop_43 : decode cX2_drop 43 = .ok (.aload_n 0, 1) := by decide +kernel
theorem dX2_drop_44 : decode cX2_drop 44 = .ok (.iload_n 2, 1) := by decide +kernel
theorem dX2_drop_45 : decode cX2_drop 45 = .ok (.putfield 15, 3) := by decide +kernel
theorem dX2_drop_48 : decode cX2_drop 48 = .ok (.return_, 1) := by decide +kernel
theorem dX3_init_0 : decode cX3_init 0 = .ok (.aload_n 0, 1) := by decide +kernel
theorem dX3_init_1 : decode cX3_init 1 = .ok (.invokespecial 3, 3) := by decide +kernel
theorem dX3_init_4 : decode cX3_init 4 = .ok (.return_, 1) := by decide +kernel
theorem dX3_isOf_0 : decode cX3_isOf 0 = .ok (.aload_n 0, 1) := by decide +kernel
theorem dX3_isOf_1 : decode cX3_isOf 1 = .ok (.getfield 9, 3) := by decide +kernel
theorem dX3_isOf_4 : decode cX3_isOf 4 = .ok (.ifCond .eq 18, 3) := by decide +kernel
theorem dX3_isOf_7 : decode cX3_isOf 7 = .ok (.aload_n 0, 1) := by decide +kernel
theorem dX3_isOf_8 : decode cX3_isOf 8 = .ok (.getfield 15, 3) := by decide +kernel
theorem dX3_isOf_11 : decode cX3_isOf 11 = .ok (.bipush 16, 2) := by decide +kernel
theorem dX3_isOf_13 : decode cX3_isOf 13 = .ok (.idiv, 1) := by decide +kernel
theorem dX3_isOf_14 : decode cX3_isOf 14 = .ok (.iload_n 1, 1) := by decide +kernel
theorem dX3_isOf_15 : decode cX3_isOf 15 = .ok (.if_icmp .ne 7, 3) := by decide +kernel
theorem dX3_isOf_18 : decode cX3_isOf 18 = .ok (.iconst 1, 1) := by decide +kernel
theorem dX3_isOf_19 : decode cX3_isOf 19 = .ok (.goto 4, 3) := by decide +kernel
theorem dX3_isOf_22 : decode cX3_isOf 22 = .ok (.iconst 0, 1) := by decide +kernel
theorem dX3_isOf_23 : decode cX3_isOf 23 = .ok (.ireturn, 1) := by decide +kernel
theorem dX3_passes_0 : decode cX3_passes 0 = .ok (.aload_n 1, 1) := by decide +kernel
theorem dX3_passes_1 : decode cX3_passes 1 = .ok (.aload_n 0, 1) := by decide +kernel
theorem dX3_passes_2 : decode cX3_passes 2 = .ok (.getfield 15, 3) := by decide +kernel
theorem dX3_passes_5 : decode cX3_passes 5 = .ok (.iaload, 1) := by decide +kernel
theorem dX3_passes_6 : decode cX3_passes 6 = .ok (.aload_n 1, 1) := by decide +kernel
theorem dX3_passes_7 : decode cX3_passes 7 = .ok (.aload_n 0, 1) := by decide +kernel
theorem dX3_passes_8 : decode cX3_passes 8 = .ok (.getfield 19, 3) := by decide +kernel
theorem dX3_passes_11 : decode cX3_passes 11 = .ok (.iaload, 1) := by decide +kernel
theorem dX3_passes_12 : decode cX3_passes 12 = .ok (.iadd, 1) := by decide +kernel
theorem dX3_passes_13 : decode cX3_passes 13 = .ok (.aload_n 0, 1) := by decide +kernel
theorem dX3_passes_14 : decode cX3_passes 14 = .ok (.getfield 22, 3) := by decide +kernel
theorem dX3_passes_17 : decode cX3_passes 17 = .ok (.if_icmp .gt 7, 3) := by decide +kernel
theorem dX3_passes_20 : decode cX3_passes 20 = .ok (.iconst 1, 1) := by decide +kernel
theorem dX3_passes_21 : decode cX3_passes 21 = .ok (.goto 4, 3) := by decide +kernel
theorem dX3_passes_24 : decode cX3_passes 24 = .ok (.iconst 0, 1) := by decide +kernel
theorem dX3_passes_25 : decode cX3_passes 25 = .ok (.ireturn, 1) := by decide +kernel
theorem dX4_init_0 : decode cX4_init 0 = .ok (.aload_n 0, 1) := by decide +kernel
theorem dX4_init_1 : decode cX4_init 1 = .ok (.invokespecial 3, 3) := by decide +kernel
theorem dX4_init_4 : decode cX4_init 4 = .ok (.aload_n 0, 1) := by decide +kernel
theorem dX4_init_5 : decode cX4_init 5 = .ok (.bipush 12, 2) := by decide +kernel
theorem dX4_init_7 : decode cX4_init 7 = .ok (.anewarray 9, 3) := by decide +kernel
theorem dX4_init_10 : decode cX4_init 10 = .ok (.putfield 11, 3) := by decide +kernel
theorem dX4_init_13 : decode cX4_init 13 = .ok (.aload_n 0, 1) := by decide +kernel
theorem dX4_init_14 : decode cX4_init 14 = .ok (.iconst 4, 1) := by decide +kernel
theorem dX4_init_15 : decode cX4_init 15 = .ok (.anewarray 17, 3) := by decide +kernel
theorem dX4_init_18 : decode cX4_init 18 = .ok (.putfield 19, 3) := by decide +kernel
theorem dX4_init_21 : decode cX4_init 21 = .ok (.aload_n 0, 1) := by decide +kernel
theorem dX4_init_22 : decode cX4_init 22 = .ok (.bipush 24, 2) := by decide +kernel
theorem dX4_init_24 : decode cX4_init 24 = .ok (.newarray .int, 2) := by decide +kernel
theorem dX4_init_26 : decode cX4_init 26 = .ok (.putfield 23, 3) := by decide +kernel
theorem dX4_init_29 : decode cX4_init 29 = .ok (.iconst 0, 1) := by decide +kernel
theorem dX4_init_30 : decode cX4_init 30 = .ok (.istore_n 1, 1) := by decide +kernel
theorem dX4_init_31 : decode cX4_init 31 = .ok (.iload_n 1, 1) := by decide +kernel
theorem dX4_init_32 : decode cX4_init 32 = .ok (.bipush 12, 2) := by decide +kernel
theorem dX4_init_34 : decode cX4_init 34 = .ok (.if_icmp .ge 22, 3) := by decide +kernel
theorem dX4_init_37 : decode cX4_init 37 = .ok (.aload_n 0, 1) := by decide +kernel
theorem dX4_init_38 : decode cX4_init 38 = .ok (.getfield 11, 3) := by decide +kernel
theorem dX4_init_41 : decode cX4_init 41 = .ok (.iload_n 1, 1) := by decide +kernel
theorem dX4_init_42 : decode cX4_init 42 = .ok (.new 9, 3) := by decide +kernel
theorem dX4_init_45 : decode cX4_init 45 = .ok (.dup, 1) := by decide +kernel
theorem dX4_init_46 : decode cX4_init 46 = .ok (.invokespecial 27, 3) := by decide +kernel
theorem dX4_init_49 : decode cX4_init 49 = .ok (.aastore, 1) := by decide +kernel
theorem dX4_init_50 : decode cX4_init 50 = .ok (.iinc 1 1, 3) := by decide +kernel
theorem dX4_init_53 : decode cX4_init 53 = .ok (.goto (-22), 3) := by decide +kernel
theorem dX4_init_56 : decode cX4_init 56 = .ok (.return_, 1) := by decide +kernel
theorem dX4_add_0 : decode cX4_add 0 = .ok (.aload_n 0, 1) := by decide +kernel
theorem dX4_add_1 : decode cX4_add 1 = .ok (.getfield 28, 3) := by decide +kernel
theorem dX4_add_4 : decode cX4_add 4 = .ok (.istore 4, 2) := by decide +kernel
theorem dX4_add_6 : decode cX4_add 6 = .ok (.aload_n 0, 1) := by decide +kernel
theorem dX4_add_7 : decode cX4_add 7 = .ok (.getfield 11, 3) := by decide +kernel
theorem dX4_add_10 : decode cX4_add 10 = .ok (.iload 4, 2) := by decide +kernel
theorem dX4_add_12 : decode cX4_add 12 = .ok (.aaload, 1) := by decide +kernel
theorem dX4_add_13 : decode cX4_add 13 = .ok (.astore 5, 2) := by decide +kernel
theorem dX4_add_15 : decode cX4_add 15 = .ok (.aload 5, 2) := by decide +kernel
theorem dX4_add_17 : decode cX4_add 17 = .ok (.iload_n 1, 1) := by decide +kernel
theorem dX4_add_18 : decode cX4_add 18 = .ok (.putfield 32, 3) := by decide +kernel
theorem dX4_add_21 : decode cX4_add 21 = .ok (.aload 5, 2) := by decide +kernel
theorem dX4_add_23 : decode cX4_add 23 = .ok (.iload_n 2, 1) := by decide +kernel
theorem dX4_add_24 : decode cX4_add 24 = .ok (.putfield 35, 3) := by decide +kernel
theorem dX4_add_27 : decode cX4_add 27 = .ok (.aload 5, 2) := by decide +kernel
theorem dX4_add_29 : decode cX4_add 29 = .ok (.iload_n 3, 1) := by decide +kernel
theorem dX4_add_30 : decode cX4_add 30 = .ok (.putfield 38, 3) := by decide +kernel
theorem dX4_add_33 : decode cX4_add 33 = .ok (.aload 5, 2) := by decide +kernel
theorem dX4_add_35 : decode cX4_add 35 = .ok (.iconst 1, 1) := by decide +kernel
theorem dX4_add_36 : decode cX4_add 36 = .ok (.putfield 41, 3) := by decide +kernel
theorem dX4_add_39 : decode cX4_add 39 = .ok (.aload_n 0, 1) := by decide +kernel
theorem dX4_add_40 : decode cX4_add 40 = .ok (.dup, 1) := by decide +kernel
theorem dX4_add_41 : decode cX4_add 41 = .ok (.getfield 28, 3) := by decide +kernel
theorem dX4_add_44 : decode cX4_add 44 = .ok (.iconst 1, 1) := by decide +kernel
theorem dX4_add_45 : decode cX4_add 45 = .ok (.iadd, 1) := by decide +kernel
theorem dX4_add_46 : decode cX4_add 46 = .ok (.putfield 28, 3) := by decide +kernel
theorem dX4_add_49 : decode cX4_add 49 = .ok (.aload_n 0, 1) := by decide +kernel
theorem dX4_add_50 : decode cX4_add 50 = .ok (.invokevirtual 45, 3) := by decide +kernel
theorem dX4_add_53 : decode cX4_add 53 = .ok (.iload 4, 2) := by decide +kernel
theorem dX4_add_55 : decode cX4_add 55 = .ok (.ireturn, 1) := by decide +kernel
theorem dX4_drop_0 : decode cX4_drop 0 = .ok (.aload_n 0, 1) := by decide +kernel
theorem dX4_drop_1 : decode cX4_drop 1 = .ok (.getfield 11, 3) := by decide +kernel
theorem dX4_drop_4 : decode cX4_drop 4 = .ok (.iload_n 1, 1) := by decide +kernel
theorem dX4_drop_5 : decode cX4_drop 5 = .ok (.aaload, 1) := by decide +kernel
theorem dX4_drop_6 : decode cX4_drop 6 = .ok (.iconst 0, 1) := by decide +kernel
theorem dX4_drop_7 : decode cX4_drop 7 = .ok (.putfield 41, 3) := by decide +kernel
theorem dX4_drop_10 : decode cX4_drop 10 = .ok (.aload_n 0, 1) := by decide +kernel
theorem dX4_drop_11 : decode cX4_drop 11 = .ok (.invokevirtual 45, 3) := by decide +kernel
theorem dX4_drop_14 : decode cX4_drop 14 = .ok (.iconst 0, 1) := by decide +kernel
theorem dX4_drop_15 : decode cX4_drop 15 = .ok (.istore_n 2, 1) := by decide +kernel
theorem dX4_drop_16 : decode cX4_drop 16 = .ok (.iconst 0, 1) := by decide +kernel
theorem dX4_drop_17 : decode cX4_drop 17 = .ok (.istore_n 3, 1) := by decide +kernel
theorem dX4_drop_18 : decode cX4_drop 18 = .ok (.iload_n 3, 1) := by decide +kernel
theorem dX4_drop_19 : decode cX4_drop 19 = .ok (.aload_n 0, 1) := by decide +kernel
theorem dX4_drop_20 : decode cX4_drop 20 = .ok (.getfield 28, 3) := by decide +kernel
theorem dX4_drop_23 : decode cX4_drop 23 = .ok (.if_icmp .ge 24, 3) := by decide +kernel
theorem dX4_drop_26 : decode cX4_drop 26 = .ok (.aload_n 0, 1) := by decide +kernel
theorem dX4_drop_27 : decode cX4_drop 27 = .ok (.getfield 11, 3) := by decide +kernel
theorem dX4_drop_30 : decode cX4_drop 30 = .ok (.iload_n 3, 1) := by decide +kernel
theorem dX4_drop_31 : decode cX4_drop 31 = .ok (.aaload, 1) := by decide +kernel
theorem dX4_drop_32 : decode cX4_drop 32 = .ok (.getfield 41, 3) := by decide +kernel
theorem dX4_drop_35 : decode cX4_drop 35 = .ok (.ifCond .eq 6, 3) := by decide +kernel
theorem dX4_drop_38 : decode cX4_drop 38 = .ok (.iinc 2 1, 3) := by decide +kernel
theorem dX4_drop_41 : decode cX4_drop 41 = .ok (.iinc 3 1, 3) := by decide +kernel
theorem dX4_drop_44 : decode cX4_drop 44 = .ok (.goto (-26), 3) := by decide +kernel
theorem dX4_drop_47 : decode cX4_drop 47 = .ok (.iload_n 2, 1) := by decide +kernel
theorem dX4_drop_48 : decode cX4_drop 48 = .ok (.ireturn, 1) := by decide +kernel
theorem dX4_forgetCells_0 : decode cX4_forgetCells 0 = .ok (.iconst 0, 1) := by decide +kernel
theorem dX4_forgetCells_1 : decode cX4_forgetCells 1 = .ok (.istore_n 1, 1) := by decide +kernel
theorem dX4_forgetCells_2 : decode cX4_forgetCells 2 = .ok (.iload_n 1, 1) := by decide +kernel
theorem dX4_forgetCells_3 : decode cX4_forgetCells 3 = .ok (.iconst 4, 1) := by decide +kernel
theorem dX4_forgetCells_4 : decode cX4_forgetCells 4 = .ok (.if_icmp .ge 16, 3) := by decide +kernel
theorem dX4_forgetCells_7 : decode cX4_forgetCells 7 = .ok (.aload_n 0, 1) := by decide +kernel
theorem dX4_forgetCells_8 : decode cX4_forgetCells 8 = .ok (.getfield 19, 3) := by decide +kernel
theorem dX4_forgetCells_11 : decode cX4_forgetCells 11 = .ok (.iload_n 1, 1) := by decide +kernel
theorem dX4_forgetCells_12 : decode cX4_forgetCells 12 = .ok (.aconst_null, 1) := by decide +kernel
theorem dX4_forgetCells_13 : decode cX4_forgetCells 13 = .ok (.aastore, 1) := by decide +kernel
theorem dX4_forgetCells_14 : decode cX4_forgetCells 14 = .ok (.iinc 1 1, 3) := by decide +kernel
theorem dX4_forgetCells_17 : decode cX4_forgetCells 17 = .ok (.goto (-15), 3) := by decide +kernel
theorem dX4_forgetCells_20 : decode cX4_forgetCells 20 = .ok (.return_, 1) := by decide +kernel
theorem dX4_allPass_0 : decode cX4_allPass 0 = .ok (.iconst 0, 1) := by decide +kernel
theorem dX4_allPass_1 : decode cX4_allPass 1 = .ok (.istore_n 3, 1) := by decide +kernel
theorem dX4_allPass_2 : decode cX4_allPass 2 = .ok (.iload_n 3, 1) := by decide +kernel
theorem dX4_allPass_3 : decode cX4_allPass 3 = .ok (.aload_n 0, 1) := by decide +kernel
theorem dX4_allPass_4 : decode cX4_allPass 4 = .ok (.getfield 28, 3) := by decide +kernel
theorem dX4_allPass_7 : decode cX4_allPass 7 = .ok (.if_icmp .ge 37, 3) := by decide +kernel
theorem dX4_allPass_10 : decode cX4_allPass 10 = .ok (.aload_n 0, 1) := by decide +kernel
theorem dX4_allPass_11 : decode cX4_allPass 11 = .ok (.getfield 11, 3) := by decide +kernel
theorem dX4_allPass_14 : decode cX4_allPass 14 = .ok (.iload_n 3, 1) := by decide +kernel
theorem dX4_allPass_15 : decode cX4_allPass 15 = .ok (.aaload, 1) := by decide +kernel
theorem dX4_allPass_16 : decode cX4_allPass 16 = .ok (.iload_n 1, 1) := by decide +kernel
theorem dX4_allPass_17 : decode cX4_allPass 17 = .ok (.invokevirtual 48, 3) := by decide +kernel
theorem dX4_allPass_20 : decode cX4_allPass 20 = .ok (.ifCond .eq 18, 3) := by decide +kernel
theorem dX4_allPass_23 : decode cX4_allPass 23 = .ok (.aload_n 0, 1) := by decide +kernel
theorem dX4_allPass_24 : decode cX4_allPass 24 = .ok (.getfield 11, 3) := by decide +kernel
theorem dX4_allPass_27 : decode cX4_allPass 27 = .ok (.iload_n 3, 1) := by decide +kernel
theorem dX4_allPass_28 : decode cX4_allPass 28 = .ok (.aaload, 1) := by decide +kernel
theorem dX4_allPass_29 : decode cX4_allPass 29 = .ok (.aload_n 2, 1) := by decide +kernel
theorem dX4_allPass_30 : decode cX4_allPass 30 = .ok (.invokevirtual 52, 3) := by decide +kernel
theorem dX4_allPass_33 : decode cX4_allPass 33 = .ok (.ifCond .ne 5, 3) := by decide +kernel
theorem dX4_allPass_36 : decode cX4_allPass 36 = .ok (.iconst 0, 1) := by decide +kernel
theorem dX4_allPass_37 : decode cX4_allPass 37 = .ok (.ireturn, 1) := by decide +kernel
theorem dX4_allPass_38 : decode cX4_allPass 38 = .ok (.iinc 3 1, 3) := by decide +kernel
theorem dX4_allPass_41 : decode cX4_allPass 41 = .ok (.goto (-39), 3) := by decide +kernel
theorem dX4_allPass_44 : decode cX4_allPass 44 = .ok (.iconst 1, 1) := by decide +kernel
theorem dX4_allPass_45 : decode cX4_allPass 45 = .ok (.ireturn, 1) := by decide +kernel
theorem dX4_buildTrunk_0 : decode cX4_buildTrunk 0 = .ok (.iconst 0, 1) := by decide +kernel
theorem dX4_buildTrunk_1 : decode cX4_buildTrunk 1 = .ok (.istore_n 2, 1) := by decide +kernel
theorem dX4_buildTrunk_2 : decode cX4_buildTrunk 2 = .ok (.iload_n 2, 1) := by decide +kernel
theorem dX4_buildTrunk_3 : decode cX4_buildTrunk 3 = .ok (.iconst 4, 1) := by decide +kernel
theorem dX4_buildTrunk_4 : decode cX4_buildTrunk 4 = .ok (.if_icmp .ge 32, 3) := by decide +kernel
theorem dX4_buildTrunk_7 : decode cX4_buildTrunk 7 = .ok (.aload_n 0, 1) := by decide +kernel
theorem dX4_buildTrunk_8 : decode cX4_buildTrunk 8 = .ok (.iload_n 2, 1) := by decide +kernel
theorem dX4_buildTrunk_9 : decode cX4_buildTrunk 9 = .ok (.aload_n 1, 1) := by decide +kernel
theorem dX4_buildTrunk_10 : decode cX4_buildTrunk 10 = .ok (.invokevirtual 56, 3) := by decide +kernel
theorem dX4_buildTrunk_13 : decode cX4_buildTrunk 13 = .ok (.istore_n 3, 1) := by decide +kernel
theorem dX4_buildTrunk_14 : decode cX4_buildTrunk 14 = .ok (.iload_n 3, 1) := by decide +kernel
theorem dX4_buildTrunk_15 : decode cX4_buildTrunk 15 = .ok (.ifCond .le 15, 3) := by decide +kernel
theorem dX4_buildTrunk_18 : decode cX4_buildTrunk 18 = .ok (.aload_n 0, 1) := by decide +kernel
theorem dX4_buildTrunk_19 : decode cX4_buildTrunk 19 = .ok (.iload_n 2, 1) := by decide +kernel
theorem dX4_buildTrunk_20 : decode cX4_buildTrunk 20 = .ok (.aload_n 1, 1) := by decide +kernel
theorem dX4_buildTrunk_21 : decode cX4_buildTrunk 21 = .ok (.iload_n 3, 1) := by decide +kernel
theorem dX4_buildTrunk_22 : decode cX4_buildTrunk 22 = .ok (.invokevirtual 60, 3) := by decide +kernel
theorem dX4_buildTrunk_25 : decode cX4_buildTrunk 25 = .ok (.ifCond .ne 5, 3) := by decide +kernel
theorem dX4_buildTrunk_28 : decode cX4_buildTrunk 28 = .ok (.iconst 0, 1) := by decide +kernel
theorem dX4_buildTrunk_29 : decode cX4_buildTrunk 29 = .ok (.ireturn, 1) := by decide +kernel
theorem dX4_buildTrunk_30 : decode cX4_buildTrunk 30 = .ok (.iinc 2 1, 3) := by decide +kernel
theorem dX4_buildTrunk_33 : decode cX4_buildTrunk 33 = .ok (.goto (-31), 3) := by decide +kernel
theorem dX4_buildTrunk_36 : decode cX4_buildTrunk 36 = .ok (.iconst 1, 1) := by decide +kernel
theorem dX4_buildTrunk_37 : decode cX4_buildTrunk 37 = .ok (.ireturn, 1) := by decide +kernel
theorem dX4_readInputs_0 : decode cX4_readInputs 0 = .ok (.iconst 0, 1) := by decide +kernel
theorem dX4_readInputs_1 : decode cX4_readInputs 1 = .ok (.istore_n 3, 1) := by decide +kernel
theorem dX4_readInputs_2 : decode cX4_readInputs 2 = .ok (.iconst 0, 1) := by decide +kernel
theorem dX4_readInputs_3 : decode cX4_readInputs 3 = .ok (.istore 4, 2) := by decide +kernel
theorem dX4_readInputs_5 : decode cX4_readInputs 5 = .ok (.iload 4, 2) := by decide +kernel
theorem dX4_readInputs_7 : decode cX4_readInputs 7 = .ok (.aload_n 0, 1) := by decide +kernel
theorem dX4_readInputs_8 : decode cX4_readInputs 8 = .ok (.getfield 28, 3) := by decide +kernel
theorem dX4_readInputs_11 : decode cX4_readInputs 11 = .ok (.if_icmp .ge 64, 3) := by decide +kernel
theorem dX4_readInputs_14 : decode cX4_readInputs 14 = .ok (.aload_n 0, 1) := by decide +kernel
theorem dX4_readInputs_15 : decode cX4_readInputs 15 = .ok (.getfield 11, 3) := by decide +kernel
theorem dX4_readInputs_18 : decode cX4_readInputs 18 = .ok (.iload 4, 2) := by decide +kernel
theorem dX4_readInputs_20 : decode cX4_readInputs 20 = .ok (.aaload, 1) := by decide +kernel
theorem dX4_readInputs_21 : decode cX4_readInputs 21 = .ok (.iload_n 1, 1) := by decide +kernel
theorem dX4_readInputs_22 : decode cX4_readInputs 22 = .ok (.invokevirtual 48, 3) := by decide +kernel
theorem dX4_readInputs_25 : decode cX4_readInputs 25 = .ok (.ifCond .eq 44, 3) := by decide +kernel
theorem dX4_readInputs_28 : decode cX4_readInputs 28 = .ok (.aload_n 0, 1) := by decide +kernel
theorem dX4_readInputs_29 : decode cX4_readInputs 29 = .ok (.getfield 23, 3) := by decide +kernel
theorem dX4_readInputs_32 : decode cX4_readInputs 32 = .ok (.iload_n 3, 1) := by decide +kernel
theorem dX4_readInputs_33 : decode cX4_readInputs 33 = .ok (.aload_n 2, 1) := by decide +kernel
theorem dX4_readInputs_34 : decode cX4_readInputs 34 = .ok (.aload_n 0, 1) := by decide +kernel
theorem dX4_readInputs_35 : decode cX4_readInputs 35 = .ok (.getfield 11, 3) := by decide +kernel
theorem dX4_readInputs_38 : decode cX4_readInputs 38 = .ok (.iload 4, 2) := by decide +kernel
theorem dX4_readInputs_40 : decode cX4_readInputs 40 = .ok (.aaload, 1) := by decide +kernel
theorem dX4_readInputs_41 : decode cX4_readInputs 41 = .ok (.getfield 32, 3) := by decide +kernel
theorem dX4_readInputs_44 : decode cX4_readInputs 44 = .ok (.iaload, 1) := by decide +kernel
theorem dX4_readInputs_45 : decode cX4_readInputs 45 = .ok (.iastore, 1) := by decide +kernel
theorem dX4_readInputs_46 : decode cX4_readInputs 46 = .ok (.aload_n 0, 1) := by decide +kernel
theorem dX4_readInputs_47 : decode cX4_readInputs 47 = .ok (.getfield 23, 3) := by decide +kernel
theorem dX4_readInputs_50 : decode cX4_readInputs 50 = .ok (.iload_n 3, 1) := by decide +kernel
theorem dX4_readInputs_51 : decode cX4_readInputs 51 = .ok (.iconst 1, 1) := by decide +kernel
theorem dX4_readInputs_52 : decode cX4_readInputs 52 = .ok (.iadd, 1) := by decide +kernel
theorem dX4_readInputs_53 : decode cX4_readInputs 53 = .ok (.aload_n 2, 1) := by decide +kernel
theorem dX4_readInputs_54 : decode cX4_readInputs 54 = .ok (.aload_n 0, 1) := by decide +kernel
theorem dX4_readInputs_55 : decode cX4_readInputs 55 = .ok (.getfield 11, 3) := by decide +kernel
theorem dX4_readInputs_58 : decode cX4_readInputs 58 = .ok (.iload 4, 2) := by decide +kernel
theorem dX4_readInputs_60 : decode cX4_readInputs 60 = .ok (.aaload, 1) := by decide +kernel
theorem dX4_readInputs_61 : decode cX4_readInputs 61 = .ok (.getfield 35, 3) := by decide +kernel
theorem dX4_readInputs_64 : decode cX4_readInputs 64 = .ok (.iaload, 1) := by decide +kernel
theorem dX4_readInputs_65 : decode cX4_readInputs 65 = .ok (.iastore, 1) := by decide +kernel
theorem dX4_readInputs_66 : decode cX4_readInputs 66 = .ok (.iinc 3 2, 3) := by decide +kernel
theorem dX4_readInputs_69 : decode cX4_readInputs 69 = .ok (.iinc 4 1, 3) := by decide +kernel
theorem dX4_readInputs_72 : decode cX4_readInputs 72 = .ok (.goto (-67), 3) := by decide +kernel
theorem dX4_readInputs_75 : decode cX4_readInputs 75 = .ok (.iload_n 3, 1) := by decide +kernel
theorem dX4_readInputs_76 : decode cX4_readInputs 76 = .ok (.ireturn, 1) := by decide +kernel
theorem dX4_resultOf_0 : decode cX4_resultOf 0 = .ok (.aload_n 0, 1) := by decide +kernel
theorem dX4_resultOf_1 : decode cX4_resultOf 1 = .ok (.getfield 19, 3) := by decide +kernel
theorem dX4_resultOf_4 : decode cX4_resultOf 4 = .ok (.iload_n 1, 1) := by decide +kernel
theorem dX4_resultOf_5 : decode cX4_resultOf 5 = .ok (.aaload, 1) := by decide +kernel
theorem dX4_resultOf_6 : decode cX4_resultOf 6 = .ok (.astore 4, 2) := by decide +kernel
theorem dX4_resultOf_8 : decode cX4_resultOf 8 = .ok (.aload 4, 2) := by decide +kernel
theorem dX4_resultOf_10 : decode cX4_resultOf 10 = .ok (.ifnull 42, 3) := by decide +kernel
theorem dX4_resultOf_13 : decode cX4_resultOf 13 = .ok (.aload 4, 2) := by decide +kernel
theorem dX4_resultOf_15 : decode cX4_resultOf 15 = .ok (.aload_n 0, 1) := by decide +kernel
theorem dX4_resultOf_16 : decode cX4_resultOf 16 = .ok (.getfield 23, 3) := by decide +kernel
theorem dX4_resultOf_19 : decode cX4_resultOf 19 = .ok (.iload_n 3, 1) := by decide +kernel
theorem dX4_resultOf_20 : decode cX4_resultOf 20 = .ok (.invokevirtual 64, 3) := by decide +kernel
theorem dX4_resultOf_23 : decode cX4_resultOf 23 = .ok (.ifCond .eq 19, 3) := by decide +kernel
theorem dX4_resultOf_26 : decode cX4_resultOf 26 = .ok (.aload_n 0, 1) := by decide +kernel
theorem dX4_resultOf_27 : decode cX4_resultOf 27 = .ok (.dup, 1) := by decide +kernel
theorem dX4_resultOf_28 : decode cX4_resultOf 28 = .ok (.getfield 68, 3) := by decide +kernel
theorem dX4_resultOf_31 : decode cX4_resultOf 31 = .ok (.lconst 1, 1) := by decide +kernel
theorem dX4_resultOf_32 : decode cX4_resultOf 32 = .ok (.ladd, 1) := by decide +kernel
theorem dX4_resultOf_33 : decode cX4_resultOf 33 = .ok (.putfield 68, 3) := by decide +kernel
theorem dX4_resultOf_36 : decode cX4_resultOf 36 = .ok (.aload 4, 2) := by decide +kernel
theorem dX4_resultOf_38 : decode cX4_resultOf 38 = .ok (.getfield 72, 3) := by decide +kernel
theorem dX4_resultOf_41 : decode cX4_resultOf 41 = .ok (.ireturn, 1) := by decide +kernel
theorem dX4_resultOf_42 : decode cX4_resultOf 42 = .ok (.aload 4, 2) := by decide +kernel
theorem dX4_resultOf_44 : decode cX4_resultOf 44 = .ok (.getfield 75, 3) := by decide +kernel
theorem dX4_resultOf_47 : decode cX4_resultOf 47 = .ok (.astore 4, 2) := by decide +kernel
theorem dX4_resultOf_49 : decode cX4_resultOf 49 = .ok (.goto (-41), 3) := by decide +kernel
theorem dX4_resultOf_52 : decode cX4_resultOf 52 = .ok (.aload_n 0, 1) := by decide +kernel
theorem dX4_resultOf_53 : decode cX4_resultOf 53 = .ok (.dup, 1) := by decide +kernel
theorem dX4_resultOf_54 : decode cX4_resultOf 54 = .ok (.getfield 79, 3) := by decide +kernel
theorem dX4_resultOf_57 : decode cX4_resultOf 57 = .ok (.iconst 1, 1) := by decide +kernel
theorem dX4_resultOf_58 : decode cX4_resultOf 58 = .ok (.iadd, 1) := by decide +kernel
theorem dX4_resultOf_59 : decode cX4_resultOf 59 = .ok (.putfield 79, 3) := by decide +kernel
theorem dX4_resultOf_62 : decode cX4_resultOf 62 = .ok (.aload_n 0, 1) := by decide +kernel
theorem dX4_resultOf_63 : decode cX4_resultOf 63 = .ok (.iload_n 1, 1) := by decide +kernel
theorem dX4_resultOf_64 : decode cX4_resultOf 64 = .ok (.aload_n 2, 1) := by decide +kernel
theorem dX4_resultOf_65 : decode cX4_resultOf 65 = .ok (.invokevirtual 82, 3) := by decide +kernel
theorem dX4_resultOf_68 : decode cX4_resultOf 68 = .ok (.istore 4, 2) := by decide +kernel
theorem dX4_resultOf_70 : decode cX4_resultOf 70 = .ok (.aload_n 0, 1) := by decide +kernel
theorem dX4_resultOf_71 : decode cX4_resultOf 71 = .ok (.getfield 86, 3) := by decide +kernel
theorem dX4_resultOf_74 : decode cX4_resultOf 74 = .ok (.sipush 3072, 3) := by decide +kernel
theorem dX4_resultOf_77 : decode cX4_resultOf 77 = .ok (.if_icmp .ge 42, 3) := by decide +kernel
theorem dX4_resultOf_80 : decode cX4_resultOf 80 = .ok (.aload_n 0, 1) := by decide +kernel
theorem dX4_resultOf_81 : decode cX4_resultOf 81 = .ok (.getfield 19, 3) := by decide +kernel
theorem dX4_resultOf_84 : decode cX4_resultOf 84 = .ok (.iload_n 1, 1) := by decide +kernel
theorem dX4_resultOf_85 : decode cX4_resultOf 85 = .ok (.new 17, 3) := by decide +kernel
theorem dX4_resultOf_88 : decode cX4_resultOf 88 = .ok (.dup, 1) := by decide +kernel
theorem dX4_resultOf_89 : decode cX4_resultOf 89 = .ok (.aload_n 0, 1) := by decide +kernel
theorem dX4_resultOf_90 : decode cX4_resultOf 90 = .ok (.getfield 23, 3) := by decide +kernel
theorem dX4_resultOf_93 : decode cX4_resultOf 93 = .ok (.iload_n 3, 1) := by decide +kernel
theorem dX4_resultOf_94 : decode cX4_resultOf 94 = .ok (.invokestatic 89, 3) := by decide +kernel
theorem dX4_resultOf_97 : decode cX4_resultOf 97 = .ok (.iload 4, 2) := by decide +kernel
theorem dX4_resultOf_99 : decode cX4_resultOf 99 = .ok (.aload_n 0, 1) := by decide +kernel
theorem dX4_resultOf_100 : decode cX4_resultOf 100 = .ok (.getfield 19, 3) := by decide +kernel
theorem dX4_resultOf_103 : decode cX4_resultOf 103 = .ok (.iload_n 1, 1) := by decide +kernel
theorem dX4_resultOf_104 : decode cX4_resultOf 104 = .ok (.aaload, 1) := by decide +kernel
theorem dX4_resultOf_105 : decode cX4_resultOf 105 = .ok (.invokespecial 95, 3) := by decide +kernel
theorem dX4_resultOf_108 : decode cX4_resultOf 108 = .ok (.aastore, 1) := by decide +kernel
theorem dX4_resultOf_109 : decode cX4_resultOf 109 = .ok (.aload_n 0, 1) := by decide +kernel
theorem dX4_resultOf_110 : decode cX4_resultOf 110 = .ok (.dup, 1) := by decide +kernel
theorem dX4_resultOf_111 : decode cX4_resultOf 111 = .ok (.getfield 86, 3) := by decide +kernel
theorem dX4_resultOf_114 : decode cX4_resultOf 114 = .ok (.iconst 1, 1) := by decide +kernel
theorem dX4_resultOf_115 : decode cX4_resultOf 115 = .ok (.iadd, 1) := by decide +kernel
theorem dX4_resultOf_116 : decode cX4_resultOf 116 = .ok (.putfield 86, 3) := by decide +kernel
theorem dX4_resultOf_119 : decode cX4_resultOf 119 = .ok (.iload 4, 2) := by decide +kernel
theorem dX4_resultOf_121 : decode cX4_resultOf 121 = .ok (.ireturn, 1) := by decide +kernel
theorem dJx00060_init_a7421_0 : decode cJx00060_init_a7421 0 = .ok (.aload_n 0, 1) := by decide +kernel
theorem dJx00060_init_a7421_1 : decode cJx00060_init_a7421 1 = .ok (.aload_n 1, 1) := by decide +kernel
theorem dJx00060_init_a7421_2 : decode cJx00060_init_a7421 2 = .ok (.invokespecial 7, 3) := by decide +kernel
theorem dJx00060_init_a7421_5 : decode cJx00060_init_a7421 5 = .ok (.return_, 1) := by decide +kernel
theorem dJ6_bitCount_0f7a4_0 : decode cJ6_bitCount_0f7a4 0 = .ok (.iload_n 0, 1) := by decide +kernel
theorem dJ6_bitCount_0f7a4_1 : decode cJ6_bitCount_0f7a4 1 = .ok (.iload_n 0, 1) := by decide +kernel
theorem dJ6_bitCount_0f7a4_2 : decode cJ6_bitCount_0f7a4 2 = .ok (.iconst 1, 1) := by decide +kernel
theorem dJ6_bitCount_0f7a4_3 : decode cJ6_bitCount_0f7a4 3 = .ok (.iushr, 1) := by decide +kernel
theorem dJ6_bitCount_0f7a4_4 : decode cJ6_bitCount_0f7a4 4 = .ok (.ldc_w 265, 3) := by decide +kernel
theorem dJ6_bitCount_0f7a4_7 : decode cJ6_bitCount_0f7a4 7 = .ok (.iand, 1) := by decide +kernel
theorem dJ6_bitCount_0f7a4_8 : decode cJ6_bitCount_0f7a4 8 = .ok (.isub, 1) := by decide +kernel
theorem dJ6_bitCount_0f7a4_9 : decode cJ6_bitCount_0f7a4 9 = .ok (.istore_n 0, 1) := by decide +kernel
theorem dJ6_bitCount_0f7a4_10 : decode cJ6_bitCount_0f7a4 10 = .ok (.iload_n 0, 1) := by decide +kernel
theorem dJ6_bitCount_0f7a4_11 : decode cJ6_bitCount_0f7a4 11 = .ok (.ldc_w 266, 3) := by decide +kernel
theorem dJ6_bitCount_0f7a4_14 : decode cJ6_bitCount_0f7a4 14 = .ok (.iand, 1) := by decide +kernel
theorem dJ6_bitCount_0f7a4_15 : decode cJ6_bitCount_0f7a4 15 = .ok (.iload_n 0, 1) := by decide +kernel
theorem dJ6_bitCount_0f7a4_16 : decode cJ6_bitCount_0f7a4 16 = .ok (.iconst 2, 1) := by decide +kernel
theorem dJ6_bitCount_0f7a4_17 : decode cJ6_bitCount_0f7a4 17 = .ok (.iushr, 1) := by decide +kernel
theorem dJ6_bitCount_0f7a4_18 : decode cJ6_bitCount_0f7a4 18 = .ok (.ldc_w 266, 3) := by decide +kernel
theorem dJ6_bitCount_0f7a4_21 : decode cJ6_bitCount_0f7a4 21 = .ok (.iand, 1) := by decide +kernel
theorem dJ6_bitCount_0f7a4_22 : decode cJ6_bitCount_0f7a4 22 = .ok (.iadd, 1) := by decide +kernel
theorem dJ6_bitCount_0f7a4_23 : decode cJ6_bitCount_0f7a4 23 = .ok (.istore_n 0, 1) := by decide +kernel
theorem dJ6_bitCount_0f7a4_24 : decode cJ6_bitCount_0f7a4 24 = .ok (.iload_n 0, 1) := by decide +kernel
theorem dJ6_bitCount_0f7a4_25 : decode cJ6_bitCount_0f7a4 25 = .ok (.iload_n 0, 1) := by decide +kernel
theorem dJ6_bitCount_0f7a4_26 : decode cJ6_bitCount_0f7a4 26 = .ok (.iconst 4, 1) := by decide +kernel
theorem dJ6_bitCount_0f7a4_27 : decode cJ6_bitCount_0f7a4 27 = .ok (.iushr, 1) := by decide +kernel
theorem dJ6_bitCount_0f7a4_28 : decode cJ6_bitCount_0f7a4 28 = .ok (.iadd, 1) := by decide +kernel
theorem dJ6_bitCount_0f7a4_29 : decode cJ6_bitCount_0f7a4 29 = .ok (.ldc_w 267, 3) := by decide +kernel
theorem dJ6_bitCount_0f7a4_32 : decode cJ6_bitCount_0f7a4 32 = .ok (.iand, 1) := by decide +kernel
theorem dJ6_bitCount_0f7a4_33 : decode cJ6_bitCount_0f7a4 33 = .ok (.istore_n 0, 1) := by decide +kernel
theorem dJ6_bitCount_0f7a4_34 : decode cJ6_bitCount_0f7a4 34 = .ok (.iload_n 0, 1) := by decide +kernel
theorem dJ6_bitCount_0f7a4_35 : decode cJ6_bitCount_0f7a4 35 = .ok (.iload_n 0, 1) := by decide +kernel
theorem dJ6_bitCount_0f7a4_36 : decode cJ6_bitCount_0f7a4 36 = .ok (.bipush 8, 2) := by decide +kernel
theorem dJ6_bitCount_0f7a4_38 : decode cJ6_bitCount_0f7a4 38 = .ok (.iushr, 1) := by decide +kernel
theorem dJ6_bitCount_0f7a4_39 : decode cJ6_bitCount_0f7a4 39 = .ok (.iadd, 1) := by decide +kernel
theorem dJ6_bitCount_0f7a4_40 : decode cJ6_bitCount_0f7a4 40 = .ok (.istore_n 0, 1) := by decide +kernel
theorem dJ6_bitCount_0f7a4_41 : decode cJ6_bitCount_0f7a4 41 = .ok (.iload_n 0, 1) := by decide +kernel
theorem dJ6_bitCount_0f7a4_42 : decode cJ6_bitCount_0f7a4 42 = .ok (.iload_n 0, 1) := by decide +kernel
theorem dJ6_bitCount_0f7a4_43 : decode cJ6_bitCount_0f7a4 43 = .ok (.bipush 16, 2) := by decide +kernel
theorem dJ6_bitCount_0f7a4_45 : decode cJ6_bitCount_0f7a4 45 = .ok (.iushr, 1) := by decide +kernel
theorem dJ6_bitCount_0f7a4_46 : decode cJ6_bitCount_0f7a4 46 = .ok (.iadd, 1) := by decide +kernel
theorem dJ6_bitCount_0f7a4_47 : decode cJ6_bitCount_0f7a4 47 = .ok (.istore_n 0, 1) := by decide +kernel
theorem dJ6_bitCount_0f7a4_48 : decode cJ6_bitCount_0f7a4 48 = .ok (.iload_n 0, 1) := by decide +kernel
theorem dJ6_bitCount_0f7a4_49 : decode cJ6_bitCount_0f7a4 49 = .ok (.bipush 63, 2) := by decide +kernel
theorem dJ6_bitCount_0f7a4_51 : decode cJ6_bitCount_0f7a4 51 = .ok (.iand, 1) := by decide +kernel
theorem dJ6_bitCount_0f7a4_52 : decode cJ6_bitCount_0f7a4 52 = .ok (.ireturn, 1) := by decide +kernel
theorem dJ13_bitCount_95d88_0 : decode cJ13_bitCount_95d88 0 = .ok (.lload_n 0, 1) := by decide +kernel
theorem dJ13_bitCount_95d88_1 : decode cJ13_bitCount_95d88 1 = .ok (.lload_n 0, 1) := by decide +kernel
theorem dJ13_bitCount_95d88_2 : decode cJ13_bitCount_95d88 2 = .ok (.iconst 1, 1) := by decide +kernel
theorem dJ13_bitCount_95d88_3 : decode cJ13_bitCount_95d88 3 = .ok (.lushr, 1) := by decide +kernel
theorem dJ13_bitCount_95d88_4 : decode cJ13_bitCount_95d88 4 = .ok (.ldc2_w 314, 3) := by decide +kernel
theorem dJ13_bitCount_95d88_7 : decode cJ13_bitCount_95d88 7 = .ok (.land, 1) := by decide +kernel
theorem dJ13_bitCount_95d88_8 : decode cJ13_bitCount_95d88 8 = .ok (.lsub, 1) := by decide +kernel
theorem dJ13_bitCount_95d88_9 : decode cJ13_bitCount_95d88 9 = .ok (.lstore_n 0, 1) := by decide +kernel
theorem dJ13_bitCount_95d88_10 : decode cJ13_bitCount_95d88 10 = .ok (.lload_n 0, 1) := by decide +kernel
theorem dJ13_bitCount_95d88_11 : decode cJ13_bitCount_95d88 11 = .ok (.ldc2_w 316, 3) := by decide +kernel
theorem dJ13_bitCount_95d88_14 : decode cJ13_bitCount_95d88 14 = .ok (.land, 1) := by decide +kernel
theorem dJ13_bitCount_95d88_15 : decode cJ13_bitCount_95d88 15 = .ok (.lload_n 0, 1) := by decide +kernel
theorem dJ13_bitCount_95d88_16 : decode cJ13_bitCount_95d88 16 = .ok (.iconst 2, 1) := by decide +kernel
theorem dJ13_bitCount_95d88_17 : decode cJ13_bitCount_95d88 17 = .ok (.lushr, 1) := by decide +kernel
theorem dJ13_bitCount_95d88_18 : decode cJ13_bitCount_95d88 18 = .ok (.ldc2_w 316, 3) := by decide +kernel
theorem dJ13_bitCount_95d88_21 : decode cJ13_bitCount_95d88 21 = .ok (.land, 1) := by decide +kernel
theorem dJ13_bitCount_95d88_22 : decode cJ13_bitCount_95d88 22 = .ok (.ladd, 1) := by decide +kernel
theorem dJ13_bitCount_95d88_23 : decode cJ13_bitCount_95d88 23 = .ok (.lstore_n 0, 1) := by decide +kernel
theorem dJ13_bitCount_95d88_24 : decode cJ13_bitCount_95d88 24 = .ok (.lload_n 0, 1) := by decide +kernel
theorem dJ13_bitCount_95d88_25 : decode cJ13_bitCount_95d88 25 = .ok (.lload_n 0, 1) := by decide +kernel
theorem dJ13_bitCount_95d88_26 : decode cJ13_bitCount_95d88 26 = .ok (.iconst 4, 1) := by decide +kernel
theorem dJ13_bitCount_95d88_27 : decode cJ13_bitCount_95d88 27 = .ok (.lushr, 1) := by decide +kernel
theorem dJ13_bitCount_95d88_28 : decode cJ13_bitCount_95d88 28 = .ok (.ladd, 1) := by decide +kernel
theorem dJ13_bitCount_95d88_29 : decode cJ13_bitCount_95d88 29 = .ok (.ldc2_w 318, 3) := by decide +kernel
theorem dJ13_bitCount_95d88_32 : decode cJ13_bitCount_95d88 32 = .ok (.land, 1) := by decide +kernel
theorem dJ13_bitCount_95d88_33 : decode cJ13_bitCount_95d88 33 = .ok (.lstore_n 0, 1) := by decide +kernel
theorem dJ13_bitCount_95d88_34 : decode cJ13_bitCount_95d88 34 = .ok (.lload_n 0, 1) := by decide +kernel
theorem dJ13_bitCount_95d88_35 : decode cJ13_bitCount_95d88 35 = .ok (.lload_n 0, 1) := by decide +kernel
theorem dJ13_bitCount_95d88_36 : decode cJ13_bitCount_95d88 36 = .ok (.bipush 8, 2) := by decide +kernel
theorem dJ13_bitCount_95d88_38 : decode cJ13_bitCount_95d88 38 = .ok (.lushr, 1) := by decide +kernel
theorem dJ13_bitCount_95d88_39 : decode cJ13_bitCount_95d88 39 = .ok (.ladd, 1) := by decide +kernel
theorem dJ13_bitCount_95d88_40 : decode cJ13_bitCount_95d88 40 = .ok (.lstore_n 0, 1) := by decide +kernel
theorem dJ13_bitCount_95d88_41 : decode cJ13_bitCount_95d88 41 = .ok (.lload_n 0, 1) := by decide +kernel
theorem dJ13_bitCount_95d88_42 : decode cJ13_bitCount_95d88 42 = .ok (.lload_n 0, 1) := by decide +kernel
theorem dJ13_bitCount_95d88_43 : decode cJ13_bitCount_95d88 43 = .ok (.bipush 16, 2) := by decide +kernel
theorem dJ13_bitCount_95d88_45 : decode cJ13_bitCount_95d88 45 = .ok (.lushr, 1) := by decide +kernel
theorem dJ13_bitCount_95d88_46 : decode cJ13_bitCount_95d88 46 = .ok (.ladd, 1) := by decide +kernel
theorem dJ13_bitCount_95d88_47 : decode cJ13_bitCount_95d88 47 = .ok (.lstore_n 0, 1) := by decide +kernel
theorem dJ13_bitCount_95d88_48 : decode cJ13_bitCount_95d88 48 = .ok (.lload_n 0, 1) := by decide +kernel
theorem dJ13_bitCount_95d88_49 : decode cJ13_bitCount_95d88 49 = .ok (.lload_n 0, 1) := by decide +kernel
theorem dJ13_bitCount_95d88_50 : decode cJ13_bitCount_95d88 50 = .ok (.bipush 32, 2) := by decide +kernel
theorem dJ13_bitCount_95d88_52 : decode cJ13_bitCount_95d88 52 = .ok (.lushr, 1) := by decide +kernel
theorem dJ13_bitCount_95d88_53 : decode cJ13_bitCount_95d88 53 = .ok (.ladd, 1) := by decide +kernel
theorem dJ13_bitCount_95d88_54 : decode cJ13_bitCount_95d88 54 = .ok (.lstore_n 0, 1) := by decide +kernel
theorem dJ13_bitCount_95d88_55 : decode cJ13_bitCount_95d88 55 = .ok (.lload_n 0, 1) := by decide +kernel
theorem dJ13_bitCount_95d88_56 : decode cJ13_bitCount_95d88 56 = .ok (.l2i, 1) := by decide +kernel
theorem dJ13_bitCount_95d88_57 : decode cJ13_bitCount_95d88 57 = .ok (.bipush 127, 2) := by decide +kernel
theorem dJ13_bitCount_95d88_59 : decode cJ13_bitCount_95d88 59 = .ok (.iand, 1) := by decide +kernel
theorem dJ13_bitCount_95d88_60 : decode cJ13_bitCount_95d88 60 = .ok (.ireturn, 1) := by decide +kernel
theorem dJ9_max_7cf53_0 : decode cJ9_max_7cf53 0 = .ok (.iload_n 0, 1) := by decide +kernel
theorem dJ9_max_7cf53_1 : decode cJ9_max_7cf53 1 = .ok (.iload_n 1, 1) := by decide +kernel
theorem dJ9_max_7cf53_2 : decode cJ9_max_7cf53 2 = .ok (.if_icmp .lt 7, 3) := by decide +kernel
theorem dJ9_max_7cf53_5 : decode cJ9_max_7cf53 5 = .ok (.iload_n 0, 1) := by decide +kernel
theorem dJ9_max_7cf53_6 : decode cJ9_max_7cf53 6 = .ok (.goto 4, 3) := by decide +kernel
theorem dJ9_max_7cf53_9 : decode cJ9_max_7cf53 9 = .ok (.iload_n 1, 1) := by decide +kernel
theorem dJ9_max_7cf53_10 : decode cJ9_max_7cf53 10 = .ok (.ireturn, 1) := by decide +kernel
theorem dJ9_min_7cf53_0 : decode cJ9_min_7cf53 0 = .ok (.iload_n 0, 1) := by decide +kernel
theorem dJ9_min_7cf53_1 : decode cJ9_min_7cf53 1 = .ok (.iload_n 1, 1) := by decide +kernel
theorem dJ9_min_7cf53_2 : decode cJ9_min_7cf53 2 = .ok (.if_icmp .gt 7, 3) := by decide +kernel
theorem dJ9_min_7cf53_5 : decode cJ9_min_7cf53 5 = .ok (.iload_n 0, 1) := by decide +kernel
theorem dJ9_min_7cf53_6 : decode cJ9_min_7cf53 6 = .ok (.goto 4, 3) := by decide +kernel
theorem dJ9_min_7cf53_9 : decode cJ9_min_7cf53 9 = .ok (.iload_n 1, 1) := by decide +kernel
theorem dJ9_min_7cf53_10 : decode cJ9_min_7cf53 10 = .ok (.ireturn, 1) := by decide +kernel
theorem dJxa1e45_init_da8c8_0 : decode cJxa1e45_init_da8c8 0 = .ok (.aload_n 0, 1) := by decide +kernel
theorem dJxa1e45_init_da8c8_1 : decode cJxa1e45_init_da8c8 1 = .ok (.invokespecial 1, 3) := by decide +kernel
theorem dJxa1e45_init_da8c8_4 : decode cJxa1e45_init_da8c8 4 = .ok (.return_, 1) := by decide +kernel
theorem dJxc12de_init_da8c8_0 : decode cJxc12de_init_da8c8 0 = .ok (.aload_n 0, 1) := by decide +kernel
theorem dJxc12de_init_da8c8_1 : decode cJxc12de_init_da8c8 1 = .ok (.invokespecial 1, 3) := by decide +kernel
theorem dJxc12de_init_da8c8_4 : decode cJxc12de_init_da8c8 4 = .ok (.aload_n 0, 1) := by decide +kernel
theorem dJxc12de_init_da8c8_5 : decode cJxc12de_init_da8c8 5 = .ok (.iconst 0, 1) := by decide +kernel
theorem dJxc12de_init_da8c8_6 : decode cJxc12de_init_da8c8 6 = .ok (.putfield 7, 3) := by decide +kernel
theorem dJxc12de_init_da8c8_9 : decode cJxc12de_init_da8c8 9 = .ok (.return_, 1) := by decide +kernel
theorem dJx35411_init_45d68_0 : decode cJx35411_init_45d68 0 = .ok (.aload_n 0, 1) := by decide +kernel
theorem dJx35411_init_45d68_1 : decode cJx35411_init_45d68 1 = .ok (.aload_n 1, 1) := by decide +kernel
theorem dJx35411_init_45d68_2 : decode cJx35411_init_45d68 2 = .ok (.putfield 1, 3) := by decide +kernel
theorem dJx35411_init_45d68_5 : decode cJx35411_init_45d68 5 = .ok (.aload_n 0, 1) := by decide +kernel
theorem dJx35411_init_45d68_6 : decode cJx35411_init_45d68 6 = .ok (.invokespecial 7, 3) := by decide +kernel
theorem dJx35411_init_45d68_9 : decode cJx35411_init_45d68 9 = .ok (.aload_n 0, 1) := by decide +kernel
theorem dJx35411_init_45d68_10 : decode cJx35411_init_45d68 10 = .ok (.iconst (-1), 1) := by decide +kernel
theorem dJx35411_init_45d68_11 : decode cJx35411_init_45d68 11 = .ok (.putfield 13, 3) := by decide +kernel
theorem dJx35411_init_45d68_14 : decode cJx35411_init_45d68 14 = .ok (.aload_n 0, 1) := by decide +kernel
theorem dJx35411_init_45d68_15 : decode cJx35411_init_45d68 15 = .ok (.aload_n 0, 1) := by decide +kernel
theorem dJx35411_init_45d68_16 : decode cJx35411_init_45d68 16 = .ok (.getfield 1, 3) := by decide +kernel
theorem dJx35411_init_45d68_19 : decode cJx35411_init_45d68 19 = .ok (.getfield 17, 3) := by decide +kernel
theorem dJx35411_init_45d68_22 : decode cJx35411_init_45d68 22 = .ok (.putfield 22, 3) := by decide +kernel
theorem dJx35411_init_45d68_25 : decode cJx35411_init_45d68 25 = .ok (.return_, 1) := by decide +kernel
theorem dJx35411_hasNext_aae02_0 : decode cJx35411_hasNext_aae02 0 = .ok (.aload_n 0, 1) := by decide +kernel
theorem dJx35411_hasNext_aae02_1 : decode cJx35411_hasNext_aae02 1 = .ok (.getfield 25, 3) := by decide +kernel
theorem dJx35411_hasNext_aae02_4 : decode cJx35411_hasNext_aae02 4 = .ok (.aload_n 0, 1) := by decide +kernel
theorem dJx35411_hasNext_aae02_5 : decode cJx35411_hasNext_aae02 5 = .ok (.getfield 1, 3) := by decide +kernel
theorem dJx35411_hasNext_aae02_8 : decode cJx35411_hasNext_aae02 8 = .ok (.getfield 28, 3) := by decide +kernel
theorem dJx35411_hasNext_aae02_11 : decode cJx35411_hasNext_aae02 11 = .ok (.if_icmp .eq 7, 3) := by decide +kernel
theorem dJx35411_hasNext_aae02_14 : decode cJx35411_hasNext_aae02 14 = .ok (.iconst 1, 1) := by decide +kernel
theorem dJx35411_hasNext_aae02_15 : decode cJx35411_hasNext_aae02 15 = .ok (.goto 4, 3) := by decide +kernel
theorem dJx35411_hasNext_aae02_18 : decode cJx35411_hasNext_aae02 18 = .ok (.iconst 0, 1) := by decide +kernel
theorem dJx35411_hasNext_aae02_19 : decode cJx35411_hasNext_aae02 19 = .ok (.ireturn, 1) := by decide +kernel
theorem dJx35411_next_0502b_0 : decode cJx35411_next_0502b 0 = .ok (.aload_n 0, 1) := by decide +kernel
theorem dJx35411_next_0502b_1 : decode cJx35411_next_0502b 1 = .ok (.invokevirtual 31, 3) := by decide +kernel
theorem dJx35411_next_0502b_4 : decode cJx35411_next_0502b 4 = .ok (.aload_n 0, 1) := by decide +kernel
theorem dJx35411_next_0502b_5 : decode cJx35411_next_0502b 5 = .ok (.getfield 25, 3) := by decide +kernel
theorem dJx35411_next_0502b_8 : decode cJx35411_next_0502b 8 = .ok (.istore_n 1, 1) := by decide +kernel
theorem dJx35411_next_0502b_9 : decode cJx35411_next_0502b 9 = .ok (.iload_n 1, 1) := by decide +kernel
theorem dJx35411_next_0502b_10 : decode cJx35411_next_0502b 10 = .ok (.aload_n 0, 1) := by decide +kernel
theorem dJx35411_next_0502b_11 : decode cJx35411_next_0502b 11 = .ok (.getfield 1, 3) := by decide +kernel
theorem dJx35411_next_0502b_14 : decode cJx35411_next_0502b 14 = .ok (.getfield 28, 3) := by decide +kernel
theorem dJx35411_next_0502b_17 : decode cJx35411_next_0502b 17 = .ok (.if_icmp .lt 11, 3) := by decide +kernel
theorem dJx35411_next_0502b_20 : decode cJx35411_next_0502b 20 = .ok (.new 34, 3) := by decide +kernel
theorem dJx35411_next_0502b_23 : decode cJx35411_next_0502b 23 = .ok (.dup, 1) := by decide +kernel
theorem dJx35411_next_0502b_24 : decode cJx35411_next_0502b 24 = .ok (.invokespecial 36, 3) := by decide +kernel
theorem dJx35411_next_0502b_27 : decode cJx35411_next_0502b 27 = .ok (.athrow, 1) := by decide +kernel
theorem dJx35411_next_0502b_28 : decode cJx35411_next_0502b 28 = .ok (.aload_n 0, 1) := by decide +kernel
theorem dJx35411_next_0502b_29 : decode cJx35411_next_0502b 29 = .ok (.getfield 1, 3) := by decide +kernel
theorem dJx35411_next_0502b_32 : decode cJx35411_next_0502b 32 = .ok (.getfield 37, 3) := by decide +kernel
theorem dJx35411_next_0502b_35 : decode cJx35411_next_0502b 35 = .ok (.astore_n 2, 1) := by decide +kernel
theorem dJx35411_next_0502b_36 : decode cJx35411_next_0502b 36 = .ok (.iload_n 1, 1) := by decide +kernel
theorem dJx35411_next_0502b_37 : decode cJx35411_next_0502b 37 = .ok (.aload_n 2, 1) := by decide +kernel
theorem dJx35411_next_0502b_38 : decode cJx35411_next_0502b 38 = .ok (.arraylength, 1) := by decide +kernel
theorem dJx35411_next_0502b_39 : decode cJx35411_next_0502b 39 = .ok (.if_icmp .lt 11, 3) := by decide +kernel
theorem dJx35411_next_0502b_42 : decode cJx35411_next_0502b 42 = .ok (.new 41, 3) := by decide +kernel
theorem dJx35411_next_0502b_45 : decode cJx35411_next_0502b 45 = .ok (.dup, 1) := by decide +kernel
theorem dJx35411_next_0502b_46 : decode cJx35411_next_0502b 46 = .ok (.invokespecial 43, 3) := by decide +kernel
theorem dJx35411_next_0502b_49 : decode cJx35411_next_0502b 49 = .ok (.athrow, 1) := by decide +kernel
theorem dJx35411_next_0502b_50 : decode cJx35411_next_0502b 50 = .ok (.aload_n 0, 1) := by decide +kernel
theorem dJx35411_next_0502b_51 : decode cJx35411_next_0502b 51 = .ok (.iload_n 1, 1) := by decide +kernel
theorem dJx35411_next_0502b_52 : decode cJx35411_next_0502b 52 = .ok (.iconst 1, 1) := by decide +kernel
theorem dJx35411_next_0502b_53 : decode cJx35411_next_0502b 53 = .ok (.iadd, 1) := by decide +kernel
theorem dJx35411_next_0502b_54 : decode cJx35411_next_0502b 54 = .ok (.putfield 25, 3) := by decide +kernel
theorem dJx35411_next_0502b_57 : decode cJx35411_next_0502b 57 = .ok (.aload_n 2, 1) := by decide +kernel
theorem dJx35411_next_0502b_58 : decode cJx35411_next_0502b 58 = .ok (.aload_n 0, 1) := by decide +kernel
theorem dJx35411_next_0502b_59 : decode cJx35411_next_0502b 59 = .ok (.iload_n 1, 1) := by decide +kernel
theorem dJx35411_next_0502b_60 : decode cJx35411_next_0502b 60 = .ok (.dup_x1, 1) := by decide +kernel
theorem dJx35411_next_0502b_61 : decode cJx35411_next_0502b 61 = .ok (.putfield 13, 3) := by decide +kernel
theorem dJx35411_next_0502b_64 : decode cJx35411_next_0502b 64 = .ok (.aaload, 1) := by decide +kernel
theorem dJx35411_next_0502b_65 : decode cJx35411_next_0502b 65 = .ok (.areturn, 1) := by decide +kernel
theorem dJx35411_checkForComodification_da8c8_0 : decode cJx35411_checkForComodification_da8c8 0 = .ok (.aload_n 0, 1) := by decide +kernel
theorem dJx35411_checkForComodification_da8c8_1 : decode cJx35411_checkForComodification_da8c8 1 = .ok (.getfield 1, 3) := by decide +kernel
theorem dJx35411_checkForComodification_da8c8_4 : decode cJx35411_checkForComodification_da8c8 4 = .ok (.getfield 17, 3) := by decide +kernel
theorem dJx35411_checkForComodification_da8c8_7 : decode cJx35411_checkForComodification_da8c8 7 = .ok (.aload_n 0, 1) := by decide +kernel
theorem dJx35411_checkForComodification_da8c8_8 : decode cJx35411_checkForComodification_da8c8 8 = .ok (.getfield 22, 3) := by decide +kernel
theorem dJx35411_checkForComodification_da8c8_11 : decode cJx35411_checkForComodification_da8c8 11 = .ok (.if_icmp .eq 11, 3) := by decide +kernel
theorem dJx35411_checkForComodification_da8c8_14 : decode cJx35411_checkForComodification_da8c8 14 = .ok (.new 41, 3) := by decide +kernel
theorem dJx35411_checkForComodification_da8c8_17 : decode cJx35411_checkForComodification_da8c8 17 = .ok (.dup, 1) := by decide +kernel
theorem dJx35411_checkForComodification_da8c8_18 : decode cJx35411_checkForComodification_da8c8 18 = .ok (.invokespecial 43, 3) := by decide +kernel
theorem dJx35411_checkForComodification_da8c8_21 : decode cJx35411_checkForComodification_da8c8 21 = .ok (.athrow, 1) := by decide +kernel
theorem dJx35411_checkForComodification_da8c8_22 : decode cJx35411_checkForComodification_da8c8 22 = .ok (.return_, 1) := by decide +kernel
theorem dJx4a65c_init_da8c8_0 : decode cJx4a65c_init_da8c8 0 = .ok (.aload_n 0, 1) := by decide +kernel
theorem dJx4a65c_init_da8c8_1 : decode cJx4a65c_init_da8c8 1 = .ok (.invokespecial 1, 3) := by decide +kernel
theorem dJx4a65c_init_da8c8_4 : decode cJx4a65c_init_da8c8 4 = .ok (.aload_n 0, 1) := by decide +kernel
theorem dJx4a65c_init_da8c8_5 : decode cJx4a65c_init_da8c8 5 = .ok (.getstatic 39, 3) := by decide +kernel
theorem dJx4a65c_init_da8c8_8 : decode cJx4a65c_init_da8c8 8 = .ok (.putfield 9, 3) := by decide +kernel
theorem dJx4a65c_init_da8c8_11 : decode cJx4a65c_init_da8c8 11 = .ok (.return_, 1) := by decide +kernel
theorem dJx4a65c_grow_92f84_0 : decode cJx4a65c_grow_92f84 0 = .ok (.aload_n 0, 1) := by decide +kernel
theorem dJx4a65c_grow_92f84_1 : decode cJx4a65c_grow_92f84 1 = .ok (.getfield 9, 3) := by decide +kernel
theorem dJx4a65c_grow_92f84_4 : decode cJx4a65c_grow_92f84 4 = .ok (.arraylength, 1) := by decide +kernel
theorem dJx4a65c_grow_92f84_5 : decode cJx4a65c_grow_92f84 5 = .ok (.istore_n 2, 1) := by decide +kernel
theorem dJx4a65c_grow_92f84_6 : decode cJx4a65c_grow_92f84 6 = .ok (.iload_n 2, 1) := by decide +kernel
theorem dJx4a65c_grow_92f84_7 : decode cJx4a65c_grow_92f84 7 = .ok (.ifCond .gt 13, 3) := by decide +kernel
theorem dJx4a65c_grow_92f84_10 : decode cJx4a65c_grow_92f84 10 = .ok (.aload_n 0, 1) := by decide +kernel
theorem dJx4a65c_grow_92f84_11 : decode cJx4a65c_grow_92f84 11 = .ok (.getfield 9, 3) := by decide +kernel
theorem dJx4a65c_grow_92f84_14 : decode cJx4a65c_grow_92f84 14 = .ok (.getstatic 39, 3) := by decide +kernel
theorem dJx4a65c_grow_92f84_17 : decode cJx4a65c_grow_92f84 17 = .ok (.if_acmp .eq 28, 3) := by decide +kernel
theorem dJx4a65c_grow_92f84_20 : decode cJx4a65c_grow_92f84 20 = .ok (.iload_n 2, 1) := by decide +kernel
theorem dJx4a65c_grow_92f84_21 : decode cJx4a65c_grow_92f84 21 = .ok (.iload_n 1, 1) := by decide +kernel
theorem dJx4a65c_grow_92f84_22 : decode cJx4a65c_grow_92f84 22 = .ok (.iload_n 2, 1) := by decide +kernel
theorem dJx4a65c_grow_92f84_23 : decode cJx4a65c_grow_92f84 23 = .ok (.isub, 1) := by decide +kernel
theorem dJx4a65c_grow_92f84_24 : decode cJx4a65c_grow_92f84 24 = .ok (.iload_n 2, 1) := by decide +kernel
theorem dJx4a65c_grow_92f84_25 : decode cJx4a65c_grow_92f84 25 = .ok (.iconst 1, 1) := by decide +kernel
theorem dJx4a65c_grow_92f84_26 : decode cJx4a65c_grow_92f84 26 = .ok (.ishr, 1) := by decide +kernel
theorem dJx4a65c_grow_92f84_27 : decode cJx4a65c_grow_92f84 27 = .ok (.invokestatic 73, 3) := by decide +kernel
theorem dJx4a65c_grow_92f84_30 : decode cJx4a65c_grow_92f84 30 = .ok (.istore_n 3, 1) := by decide +kernel
theorem dJx4a65c_grow_92f84_31 : decode cJx4a65c_grow_92f84 31 = .ok (.aload_n 0, 1) := by decide +kernel
theorem dJx4a65c_grow_92f84_32 : decode cJx4a65c_grow_92f84 32 = .ok (.aload_n 0, 1) := by decide +kernel
theorem dJx4a65c_grow_92f84_33 : decode cJx4a65c_grow_92f84 33 = .ok (.getfield 9, 3) := by decide +kernel
theorem dJx4a65c_grow_92f84_36 : decode cJx4a65c_grow_92f84 36 = .ok (.iload_n 3, 1) := by decide +kernel
theorem dJx4a65c_grow_92f84_37 : decode cJx4a65c_grow_92f84 37 = .ok (.invokestatic 66, 3) := by decide +kernel
theorem dJx4a65c_grow_92f84_40 : decode cJx4a65c_grow_92f84 40 = .ok (.dup_x1, 1) := by decide +kernel
theorem dJx4a65c_grow_92f84_41 : decode cJx4a65c_grow_92f84 41 = .ok (.putfield 9, 3) := by decide +kernel
theorem dJx4a65c_grow_92f84_44 : decode cJx4a65c_grow_92f84 44 = .ok (.areturn, 1) := by decide +kernel
theorem dJx4a65c_grow_92f84_45 : decode cJx4a65c_grow_92f84 45 = .ok (.aload_n 0, 1) := by decide +kernel
theorem dJx4a65c_grow_92f84_46 : decode cJx4a65c_grow_92f84 46 = .ok (.bipush 10, 2) := by decide +kernel
theorem dJx4a65c_grow_92f84_48 : decode cJx4a65c_grow_92f84 48 = .ok (.iload_n 1, 1) := by decide +kernel
theorem dJx4a65c_grow_92f84_49 : decode cJx4a65c_grow_92f84 49 = .ok (.invokestatic 79, 3) := by decide +kernel
theorem dJx4a65c_grow_92f84_52 : decode cJx4a65c_grow_92f84 52 = .ok (.anewarray 7, 3) := by decide +kernel
theorem dJx4a65c_grow_92f84_55 : decode cJx4a65c_grow_92f84 55 = .ok (.dup_x1, 1) := by decide +kernel
theorem dJx4a65c_grow_92f84_56 : decode cJx4a65c_grow_92f84 56 = .ok (.putfield 9, 3) := by decide +kernel
theorem dJx4a65c_grow_92f84_59 : decode cJx4a65c_grow_92f84 59 = .ok (.areturn, 1) := by decide +kernel
theorem dJx4a65c_grow_d5877_0 : decode cJx4a65c_grow_d5877 0 = .ok (.aload_n 0, 1) := by decide +kernel
theorem dJx4a65c_grow_d5877_1 : decode cJx4a65c_grow_d5877 1 = .ok (.aload_n 0, 1) := by decide +kernel
theorem dJx4a65c_grow_d5877_2 : decode cJx4a65c_grow_d5877 2 = .ok (.getfield 48, 3) := by decide +kernel
theorem dJx4a65c_grow_d5877_5 : decode cJx4a65c_grow_d5877 5 = .ok (.iconst 1, 1) := by decide +kernel
theorem dJx4a65c_grow_d5877_6 : decode cJx4a65c_grow_d5877 6 = .ok (.iadd, 1) := by decide +kernel
theorem dJx4a65c_grow_d5877_7 : decode cJx4a65c_grow_d5877 7 = .ok (.invokevirtual 69, 3) := by decide +kernel
theorem dJx4a65c_grow_d5877_10 : decode cJx4a65c_grow_d5877 10 = .ok (.areturn, 1) := by decide +kernel
theorem dJx4a65c_add_72be8_0 : decode cJx4a65c_add_72be8 0 = .ok (.iload_n 3, 1) := by decide +kernel
theorem dJx4a65c_add_72be8_1 : decode cJx4a65c_add_72be8 1 = .ok (.aload_n 2, 1) := by decide +kernel
theorem dJx4a65c_add_72be8_2 : decode cJx4a65c_add_72be8 2 = .ok (.arraylength, 1) := by decide +kernel
theorem dJx4a65c_add_72be8_3 : decode cJx4a65c_add_72be8 3 = .ok (.if_icmp .ne 8, 3) := by decide +kernel
theorem dJx4a65c_add_72be8_6 : decode cJx4a65c_add_72be8 6 = .ok (.aload_n 0, 1) := by decide +kernel
theorem dJx4a65c_add_72be8_7 : decode cJx4a65c_add_72be8 7 = .ok (.invokevirtual 129, 3) := by decide +kernel
theorem dJx4a65c_add_72be8_10 : decode cJx4a65c_add_72be8 10 = .ok (.astore_n 2, 1) := by decide +kernel
theorem dJx4a65c_add_72be8_11 : decode cJx4a65c_add_72be8 11 = .ok (.aload_n 2, 1) := by decide +kernel
theorem dJx4a65c_add_72be8_12 : decode cJx4a65c_add_72be8 12 = .ok (.iload_n 3, 1) := by decide +kernel
theorem dJx4a65c_add_72be8_13 : decode cJx4a65c_add_72be8 13 = .ok (.aload_n 1, 1) := by decide +kernel
theorem dJx4a65c_add_72be8_14 : decode cJx4a65c_add_72be8 14 = .ok (.aastore, 1) := by decide +kernel
theorem dJx4a65c_add_72be8_15 : decode cJx4a65c_add_72be8 15 = .ok (.aload_n 0, 1) := by decide +kernel
theorem dJx4a65c_add_72be8_16 : decode cJx4a65c_add_72be8 16 = .ok (.iload_n 3, 1) := by decide +kernel
theorem dJx4a65c_add_72be8_17 : decode cJx4a65c_add_72be8 17 = .ok (.iconst 1, 1) := by decide +kernel
theorem dJx4a65c_add_72be8_18 : decode cJx4a65c_add_72be8 18 = .ok (.iadd, 1) := by decide +kernel
theorem dJx4a65c_add_72be8_19 : decode cJx4a65c_add_72be8 19 = .ok (.putfield 48, 3) := by decide +kernel
theorem dJx4a65c_add_72be8_22 : decode cJx4a65c_add_72be8 22 = .ok (.return_, 1) := by decide +kernel
theorem dJx4a65c_add_9ea2d_0 : decode cJx4a65c_add_9ea2d 0 = .ok (.aload_n 0, 1) := by decide +kernel
theorem dJx4a65c_add_9ea2d_1 : decode cJx4a65c_add_9ea2d 1 = .ok (.dup, 1) := by decide +kernel
theorem dJx4a65c_add_9ea2d_2 : decode cJx4a65c_add_9ea2d 2 = .ok (.getfield 63, 3) := by decide +kernel
theorem dJx4a65c_add_9ea2d_5 : decode cJx4a65c_add_9ea2d 5 = .ok (.iconst 1, 1) := by decide +kernel
theorem dJx4a65c_add_9ea2d_6 : decode cJx4a65c_add_9ea2d 6 = .ok (.iadd, 1) := by decide +kernel
theorem dJx4a65c_add_9ea2d_7 : decode cJx4a65c_add_9ea2d 7 = .ok (.putfield 63, 3) := by decide +kernel
theorem dJx4a65c_add_9ea2d_10 : decode cJx4a65c_add_9ea2d 10 = .ok (.aload_n 0, 1) := by decide +kernel
theorem dJx4a65c_add_9ea2d_11 : decode cJx4a65c_add_9ea2d 11 = .ok (.aload_n 1, 1) := by decide +kernel
theorem dJx4a65c_add_9ea2d_12 : decode cJx4a65c_add_9ea2d 12 = .ok (.aload_n 0, 1) := by decide +kernel
theorem dJx4a65c_add_9ea2d_13 : decode cJx4a65c_add_9ea2d 13 = .ok (.getfield 9, 3) := by decide +kernel
theorem dJx4a65c_add_9ea2d_16 : decode cJx4a65c_add_9ea2d 16 = .ok (.aload_n 0, 1) := by decide +kernel
theorem dJx4a65c_add_9ea2d_17 : decode cJx4a65c_add_9ea2d 17 = .ok (.getfield 48, 3) := by decide +kernel
theorem dJx4a65c_add_9ea2d_20 : decode cJx4a65c_add_9ea2d 20 = .ok (.invokevirtual 131, 3) := by decide +kernel
theorem dJx4a65c_add_9ea2d_23 : decode cJx4a65c_add_9ea2d 23 = .ok (.iconst 1, 1) := by decide +kernel
theorem dJx4a65c_add_9ea2d_24 : decode cJx4a65c_add_9ea2d 24 = .ok (.ireturn, 1) := by decide +kernel
theorem dJx4a65c_clear_da8c8_0 : decode cJx4a65c_clear_da8c8 0 = .ok (.aload_n 0, 1) := by decide +kernel
theorem dJx4a65c_clear_da8c8_1 : decode cJx4a65c_clear_da8c8 1 = .ok (.dup, 1) := by decide +kernel
theorem dJx4a65c_clear_da8c8_2 : decode cJx4a65c_clear_da8c8 2 = .ok (.getfield 63, 3) := by decide +kernel
theorem dJx4a65c_clear_da8c8_5 : decode cJx4a65c_clear_da8c8 5 = .ok (.iconst 1, 1) := by decide +kernel
theorem dJx4a65c_clear_da8c8_6 : decode cJx4a65c_clear_da8c8 6 = .ok (.iadd, 1) := by decide +kernel
theorem dJx4a65c_clear_da8c8_7 : decode cJx4a65c_clear_da8c8 7 = .ok (.putfield 63, 3) := by decide +kernel
theorem dJx4a65c_clear_da8c8_10 : decode cJx4a65c_clear_da8c8 10 = .ok (.aload_n 0, 1) := by decide +kernel
theorem dJx4a65c_clear_da8c8_11 : decode cJx4a65c_clear_da8c8 11 = .ok (.getfield 9, 3) := by decide +kernel
theorem dJx4a65c_clear_da8c8_14 : decode cJx4a65c_clear_da8c8 14 = .ok (.astore_n 1, 1) := by decide +kernel
theorem dJx4a65c_clear_da8c8_15 : decode cJx4a65c_clear_da8c8 15 = .ok (.aload_n 0, 1) := by decide +kernel
theorem dJx4a65c_clear_da8c8_16 : decode cJx4a65c_clear_da8c8 16 = .ok (.getfield 48, 3) := by decide +kernel
theorem dJx4a65c_clear_da8c8_19 : decode cJx4a65c_clear_da8c8 19 = .ok (.istore_n 2, 1) := by decide +kernel
theorem dJx4a65c_clear_da8c8_20 : decode cJx4a65c_clear_da8c8 20 = .ok (.aload_n 0, 1) := by decide +kernel
theorem dJx4a65c_clear_da8c8_21 : decode cJx4a65c_clear_da8c8 21 = .ok (.iconst 0, 1) := by decide +kernel
theorem dJx4a65c_clear_da8c8_22 : decode cJx4a65c_clear_da8c8 22 = .ok (.dup_x1, 1) := by decide +kernel
theorem dJx4a65c_clear_da8c8_23 : decode cJx4a65c_clear_da8c8 23 = .ok (.putfield 48, 3) := by decide +kernel
theorem dJx4a65c_clear_da8c8_26 : decode cJx4a65c_clear_da8c8 26 = .ok (.istore_n 3, 1) := by decide +kernel
theorem dJx4a65c_clear_da8c8_27 : decode cJx4a65c_clear_da8c8 27 = .ok (.iload_n 3, 1) := by decide +kernel
theorem dJx4a65c_clear_da8c8_28 : decode cJx4a65c_clear_da8c8 28 = .ok (.iload_n 2, 1) := by decide +kernel
theorem dJx4a65c_clear_da8c8_29 : decode cJx4a65c_clear_da8c8 29 = .ok (.if_icmp .ge 13, 3) := by decide +kernel
theorem dJx4a65c_clear_da8c8_32 : decode cJx4a65c_clear_da8c8 32 = .ok (.aload_n 1, 1) := by decide +kernel
theorem dJx4a65c_clear_da8c8_33 : decode cJx4a65c_clear_da8c8 33 = .ok (.iload_n 3, 1) := by decide +kernel
theorem dJx4a65c_clear_da8c8_34 : decode cJx4a65c_clear_da8c8 34 = .ok (.aconst_null, 1) := by decide +kernel
theorem dJx4a65c_clear_da8c8_35 : decode cJx4a65c_clear_da8c8 35 = .ok (.aastore, 1) := by decide +kernel
theorem dJx4a65c_clear_da8c8_36 : decode cJx4a65c_clear_da8c8 36 = .ok (.iinc 3 1, 3) := by decide +kernel
theorem dJx4a65c_clear_da8c8_39 : decode cJx4a65c_clear_da8c8 39 = .ok (.goto (-12), 3) := by decide +kernel
theorem dJx4a65c_clear_da8c8_42 : decode cJx4a65c_clear_da8c8 42 = .ok (.return_, 1) := by decide +kernel
theorem dJx4a65c_iterator_32c93_0 : decode cJx4a65c_iterator_32c93 0 = .ok (.new 267, 3) := by decide +kernel
theorem dJx4a65c_iterator_32c93_3 : decode cJx4a65c_iterator_32c93 3 = .ok (.dup, 1) := by decide +kernel
theorem dJx4a65c_iterator_32c93_4 : decode cJx4a65c_iterator_32c93 4 = .ok (.aload_n 0, 1) := by decide +kernel
theorem dJx4a65c_iterator_32c93_5 : decode cJx4a65c_iterator_32c93 5 = .ok (.invokespecial 269, 3) := by decide +kernel
theorem dJx4a65c_iterator_32c93_8 : decode cJx4a65c_iterator_32c93 8 = .ok (.areturn, 1) := by decide +kernel
theorem dJ7_fill_53178_0 : decode cJ7_fill_53178 0 = .ok (.iconst 0, 1) := by decide +kernel
theorem dJ7_fill_53178_1 : decode cJ7_fill_53178 1 = .ok (.istore_n 2, 1) := by decide +kernel
theorem dJ7_fill_53178_2 : decode cJ7_fill_53178 2 = .ok (.aload_n 0, 1) := by decide +kernel
theorem dJ7_fill_53178_3 : decode cJ7_fill_53178 3 = .ok (.arraylength, 1) := by decide +kernel
theorem dJ7_fill_53178_4 : decode cJ7_fill_53178 4 = .ok (.istore_n 3, 1) := by decide +kernel
theorem dJ7_fill_53178_5 : decode cJ7_fill_53178 5 = .ok (.iload_n 2, 1) := by decide +kernel
theorem dJ7_fill_53178_6 : decode cJ7_fill_53178 6 = .ok (.iload_n 3, 1) := by decide +kernel
theorem dJ7_fill_53178_7 : decode cJ7_fill_53178 7 = .ok (.if_icmp .ge 13, 3) := by decide +kernel
theorem dJ7_fill_53178_10 : decode cJ7_fill_53178 10 = .ok (.aload_n 0, 1) := by decide +kernel
theorem dJ7_fill_53178_11 : decode cJ7_fill_53178 11 = .ok (.iload_n 2, 1) := by decide +kernel
theorem dJ7_fill_53178_12 : decode cJ7_fill_53178 12 = .ok (.iload_n 1, 1) := by decide +kernel
theorem dJ7_fill_53178_13 : decode cJ7_fill_53178 13 = .ok (.iastore, 1) := by decide +kernel
theorem dJ7_fill_53178_14 : decode cJ7_fill_53178 14 = .ok (.iinc 2 1, 3) := by decide +kernel
theorem dJ7_fill_53178_17 : decode cJ7_fill_53178 17 = .ok (.goto (-12), 3) := by decide +kernel
theorem dJ7_fill_53178_20 : decode cJ7_fill_53178 20 = .ok (.return_, 1) := by decide +kernel
theorem dJ7_copyOf_1904c_0 : decode cJ7_copyOf_1904c 0 = .ok (.aload_n 0, 1) := by decide +kernel
theorem dJ7_copyOf_1904c_1 : decode cJ7_copyOf_1904c 1 = .ok (.iload_n 1, 1) := by decide +kernel
theorem dJ7_copyOf_1904c_2 : decode cJ7_copyOf_1904c 2 = .ok (.aload_n 0, 1) := by decide +kernel
theorem dJ7_copyOf_1904c_3 : decode cJ7_copyOf_1904c 3 = .ok (.invokevirtual 86, 3) := by decide +kernel
theorem dJ7_copyOf_1904c_6 : decode cJ7_copyOf_1904c 6 = .ok (.invokestatic 300, 3) := by decide +kernel
theorem dJ7_copyOf_1904c_9 : decode cJ7_copyOf_1904c 9 = .ok (.areturn, 1) := by decide +kernel
theorem dJ7_copyOf_6403c_0 : decode cJ7_copyOf_6403c 0 = .ok (.aload_n 2, 1) := by decide +kernel
theorem dJ7_copyOf_6403c_1 : decode cJ7_copyOf_6403c 1 = .ok (.ldc 110, 2) := by decide +kernel
theorem dJ7_copyOf_6403c_3 : decode cJ7_copyOf_6403c 3 = .ok (.if_acmp .ne 10, 3) := by decide +kernel
theorem dJ7_copyOf_6403c_6 : decode cJ7_copyOf_6403c 6 = .ok (.iload_n 1, 1) := by decide +kernel
theorem dJ7_copyOf_6403c_7 : decode cJ7_copyOf_6403c 7 = .ok (.anewarray 2, 3) := by decide +kernel
theorem dJ7_copyOf_6403c_10 : decode cJ7_copyOf_6403c 10 = .ok (.goto 14, 3) := by decide +kernel
theorem dJ7_copyOf_6403c_13 : decode cJ7_copyOf_6403c 13 = .ok (.aload_n 2, 1) := by decide +kernel
theorem dJ7_copyOf_6403c_14 : decode cJ7_copyOf_6403c 14 = .ok (.invokevirtual 90, 3) := by decide +kernel
theorem dJ7_copyOf_6403c_17 : decode cJ7_copyOf_6403c 17 = .ok (.iload_n 1, 1) := by decide +kernel
theorem dJ7_copyOf_6403c_18 : decode cJ7_copyOf_6403c 18 = .ok (.invokestatic 95, 3) := by decide +kernel
theorem dJ7_copyOf_6403c_21 : decode cJ7_copyOf_6403c 21 = .ok (.checkcast 110, 3) := by decide +kernel
theorem dJ7_copyOf_6403c_24 : decode cJ7_copyOf_6403c 24 = .ok (.astore_n 3, 1) := by decide +kernel
theorem dJ7_copyOf_6403c_25 : decode cJ7_copyOf_6403c 25 = .ok (.aload_n 0, 1) := by decide +kernel
theorem dJ7_copyOf_6403c_26 : decode cJ7_copyOf_6403c 26 = .ok (.iconst 0, 1) := by decide +kernel
theorem dJ7_copyOf_6403c_27 : decode cJ7_copyOf_6403c 27 = .ok (.aload_n 3, 1) := by decide +kernel
theorem dJ7_copyOf_6403c_28 : decode cJ7_copyOf_6403c 28 = .ok (.iconst 0, 1) := by decide +kernel
theorem dJ7_copyOf_6403c_29 : decode cJ7_copyOf_6403c 29 = .ok (.aload_n 0, 1) := by decide +kernel
theorem dJ7_copyOf_6403c_30 : decode cJ7_copyOf_6403c 30 = .ok (.arraylength, 1) := by decide +kernel
theorem dJ7_copyOf_6403c_31 : decode cJ7_copyOf_6403c 31 = .ok (.iload_n 1, 1) := by decide +kernel
theorem dJ7_copyOf_6403c_32 : decode cJ7_copyOf_6403c 32 = .ok (.invokestatic 304, 3) := by decide +kernel
theorem dJ7_copyOf_6403c_35 : decode cJ7_copyOf_6403c 35 = .ok (.invokestatic 150, 3) := by decide +kernel
theorem dJ7_copyOf_6403c_38 : decode cJ7_copyOf_6403c 38 = .ok (.aload_n 3, 1) := by decide +kernel
theorem dJ7_copyOf_6403c_39 : decode cJ7_copyOf_6403c 39 = .ok (.areturn, 1) := by decide +kernel
theorem dJ7_copyOf_59c91_0 : decode cJ7_copyOf_59c91 0 = .ok (.iload_n 1, 1) := by decide +kernel
theorem dJ7_copyOf_59c91_1 : decode cJ7_copyOf_59c91 1 = .ok (.aload_n 0, 1) := by decide +kernel
theorem dJ7_copyOf_59c91_2 : decode cJ7_copyOf_59c91 2 = .ok (.arraylength, 1) := by decide +kernel
theorem dJ7_copyOf_59c91_3 : decode cJ7_copyOf_59c91 3 = .ok (.if_icmp .ne 11, 3) := by decide +kernel
theorem dJ7_copyOf_59c91_6 : decode cJ7_copyOf_59c91 6 = .ok (.aload_n 0, 1) := by decide +kernel
theorem dJ7_copyOf_59c91_7 : decode cJ7_copyOf_59c91 7 = .ok (.invokevirtual 316, 3) := by decide +kernel
theorem dJ7_copyOf_59c91_10 : decode cJ7_copyOf_59c91 10 = .ok (.checkcast 317, 3) := by decide +kernel
theorem dJ7_copyOf_59c91_13 : decode cJ7_copyOf_59c91 13 = .ok (.areturn, 1) := by decide +kernel
theorem dJ7_copyOf_59c91_14 : decode cJ7_copyOf_59c91 14 = .ok (.iload_n 1, 1) := by decide +kernel
theorem dJ7_copyOf_59c91_15 : decode cJ7_copyOf_59c91 15 = .ok (.newarray .int, 2) := by decide +kernel
theorem dJ7_copyOf_59c91_17 : decode cJ7_copyOf_59c91 17 = .ok (.astore_n 2, 1) := by decide +kernel
theorem dJ7_copyOf_59c91_18 : decode cJ7_copyOf_59c91 18 = .ok (.aload_n 0, 1) := by decide +kernel
theorem dJ7_copyOf_59c91_19 : decode cJ7_copyOf_59c91 19 = .ok (.iconst 0, 1) := by decide +kernel
theorem dJ7_copyOf_59c91_20 : decode cJ7_copyOf_59c91 20 = .ok (.aload_n 2, 1) := by decide +kernel
theorem dJ7_copyOf_59c91_21 : decode cJ7_copyOf_59c91 21 = .ok (.iconst 0, 1) := by decide +kernel
theorem dJ7_copyOf_59c91_22 : decode cJ7_copyOf_59c91 22 = .ok (.aload_n 0, 1) := by decide +kernel
theorem dJ7_copyOf_59c91_23 : decode cJ7_copyOf_59c91 23 = .ok (.arraylength, 1) := by decide +kernel
theorem dJ7_copyOf_59c91_24 : decode cJ7_copyOf_59c91 24 = .ok (.iload_n 1, 1) := by decide +kernel
theorem dJ7_copyOf_59c91_25 : decode cJ7_copyOf_59c91 25 = .ok (.invokestatic 304, 3) := by decide +kernel
theorem dJ7_copyOf_59c91_28 : decode cJ7_copyOf_59c91 28 = .ok (.invokestatic 150, 3) := by decide +kernel
theorem dJ7_copyOf_59c91_31 : decode cJ7_copyOf_59c91 31 = .ok (.aload_n 2, 1) := by decide +kernel
theorem dJ7_copyOf_59c91_32 : decode cJ7_copyOf_59c91 32 = .ok (.areturn, 1) := by decide +kernel
theorem dJ8_newLength_cabcc_0 : decode cJ8_newLength_cabcc 0 = .ok (.iload_n 0, 1) := by decide +kernel
theorem dJ8_newLength_cabcc_1 : decode cJ8_newLength_cabcc 1 = .ok (.iload_n 1, 1) := by decide +kernel
theorem dJ8_newLength_cabcc_2 : decode cJ8_newLength_cabcc 2 = .ok (.iload_n 2, 1) := by decide +kernel
theorem dJ8_newLength_cabcc_3 : decode cJ8_newLength_cabcc 3 = .ok (.invokestatic 194, 3) := by decide +kernel
theorem dJ8_newLength_cabcc_6 : decode cJ8_newLength_cabcc 6 = .ok (.iadd, 1) := by decide +kernel
theorem dJ8_newLength_cabcc_7 : decode cJ8_newLength_cabcc 7 = .ok (.istore_n 3, 1) := by decide +kernel
theorem dJ8_newLength_cabcc_8 : decode cJ8_newLength_cabcc 8 = .ok (.iconst 0, 1) := by decide +kernel
theorem dJ8_newLength_cabcc_9 : decode cJ8_newLength_cabcc 9 = .ok (.iload_n 3, 1) := by decide +kernel
theorem dJ8_newLength_cabcc_10 : decode cJ8_newLength_cabcc 10 = .ok (.if_icmp .ge 11, 3) := by decide +kernel
theorem dJ8_newLength_cabcc_13 : decode cJ8_newLength_cabcc 13 = .ok (.iload_n 3, 1) := by decide +kernel
theorem dJ8_newLength_cabcc_14 : decode cJ8_newLength_cabcc 14 = .ok (.ldc 200, 2) := by decide +kernel
theorem dJ8_newLength_cabcc_16 : decode cJ8_newLength_cabcc 16 = .ok (.if_icmp .gt 5, 3) := by decide +kernel
theorem dJ8_newLength_cabcc_19 : decode cJ8_newLength_cabcc 19 = .ok (.iload_n 3, 1) := by decide +kernel
theorem dJ8_newLength_cabcc_20 : decode cJ8_newLength_cabcc 20 = .ok (.ireturn, 1) := by decide +kernel
theorem dJ8_newLength_cabcc_21 : decode cJ8_newLength_cabcc 21 = .ok (.iload_n 0, 1) := by decide +kernel
theorem dJ8_newLength_cabcc_22 : decode cJ8_newLength_cabcc 22 = .ok (.iload_n 1, 1) := by decide +kernel
theorem dJ8_newLength_cabcc_23 : decode cJ8_newLength_cabcc 23 = .ok (.invokestatic 201, 3) := by decide +kernel
theorem dJ8_newLength_cabcc_26 : decode cJ8_newLength_cabcc 26 = .ok (.ireturn, 1) := by decide +kernel
theorem dJ8_hugeLength_7cf53_0 : decode cJ8_hugeLength_7cf53 0 = .ok (.iload_n 0, 1) := by decide +kernel
theorem dJ8_hugeLength_7cf53_1 : decode cJ8_hugeLength_7cf53 1 = .ok (.iload_n 1, 1) := by decide +kernel
theorem dJ8_hugeLength_7cf53_2 : decode cJ8_hugeLength_7cf53 2 = .ok (.iadd, 1) := by decide +kernel
theorem dJ8_hugeLength_7cf53_3 : decode cJ8_hugeLength_7cf53 3 = .ok (.istore_n 2, 1) := by decide +kernel
theorem dJ8_hugeLength_7cf53_4 : decode cJ8_hugeLength_7cf53 4 = .ok (.iload_n 2, 1) := by decide +kernel
theorem dJ8_hugeLength_7cf53_5 : decode cJ8_hugeLength_7cf53 5 = .ok (.ifCond .ge 44, 3) := by decide +kernel
theorem dJ8_hugeLength_7cf53_8 : decode cJ8_hugeLength_7cf53 8 = .ok (.new 204, 3) := by decide +kernel
theorem dJ8_hugeLength_7cf53_11 : decode cJ8_hugeLength_7cf53 11 = .ok (.dup, 1) := by decide +kernel
theorem dJ8_hugeLength_7cf53_12 : decode cJ8_hugeLength_7cf53 12 = .ok (.new 89, 3) := by decide +kernel
theorem dJ8_hugeLength_7cf53_15 : decode cJ8_hugeLength_7cf53 15 = .ok (.dup, 1) := by decide +kernel
theorem dJ8_hugeLength_7cf53_16 : decode cJ8_hugeLength_7cf53 16 = .ok (.invokespecial 91, 3) := by decide +kernel
theorem dJ8_hugeLength_7cf53_19 : decode cJ8_hugeLength_7cf53 19 = .ok (.ldc 206, 2) := by decide +kernel
theorem dJ8_hugeLength_7cf53_21 : decode cJ8_hugeLength_7cf53 21 = .ok (.invokevirtual 94, 3) := by decide +kernel
theorem dJ8_hugeLength_7cf53_24 : decode cJ8_hugeLength_7cf53 24 = .ok (.iload_n 0, 1) := by decide +kernel
theorem dJ8_hugeLength_7cf53_25 : decode cJ8_hugeLength_7cf53 25 = .ok (.invokevirtual 98, 3) := by decide +kernel
theorem dJ8_hugeLength_7cf53_28 : decode cJ8_hugeLength_7cf53 28 = .ok (.ldc 208, 2) := by decide +kernel
theorem dJ8_hugeLength_7cf53_30 : decode cJ8_hugeLength_7cf53 30 = .ok (.invokevirtual 94, 3) := by decide +kernel
theorem dJ8_hugeLength_7cf53_33 : decode cJ8_hugeLength_7cf53 33 = .ok (.iload_n 1, 1) := by decide +kernel
theorem dJ8_hugeLength_7cf53_34 : decode cJ8_hugeLength_7cf53 34 = .ok (.invokevirtual 98, 3) := by decide +kernel
theorem dJ8_hugeLength_7cf53_37 : decode cJ8_hugeLength_7cf53 37 = .ok (.ldc 210, 2) := by decide +kernel
theorem dJ8_hugeLength_7cf53_39 : decode cJ8_hugeLength_7cf53 39 = .ok (.invokevirtual 94, 3) := by decide +kernel
theorem dJ8_hugeLength_7cf53_42 : decode cJ8_hugeLength_7cf53 42 = .ok (.invokevirtual 101, 3) := by decide +kernel
theorem dJ8_hugeLength_7cf53_45 : decode cJ8_hugeLength_7cf53 45 = .ok (.invokespecial 212, 3) := by decide +kernel
theorem dJ8_hugeLength_7cf53_48 : decode cJ8_hugeLength_7cf53 48 = .ok (.athrow, 1) := by decide +kernel
theorem dJ8_hugeLength_7cf53_49 : decode cJ8_hugeLength_7cf53 49 = .ok (.iload_n 2, 1) := by decide +kernel
theorem dJ8_hugeLength_7cf53_50 : decode cJ8_hugeLength_7cf53 50 = .ok (.ldc 200, 2) := by decide +kernel
theorem dJ8_hugeLength_7cf53_52 : decode cJ8_hugeLength_7cf53 52 = .ok (.if_icmp .gt 6, 3) := by decide +kernel
theorem dJ8_hugeLength_7cf53_55 : decode cJ8_hugeLength_7cf53 55 = .ok (.ldc 200, 2) := by decide +kernel
theorem dJ8_hugeLength_7cf53_57 : decode cJ8_hugeLength_7cf53 57 = .ok (.ireturn, 1) := by decide +kernel
theorem dJ8_hugeLength_7cf53_58 : decode cJ8_hugeLength_7cf53 58 = .ok (.iload_n 2, 1) := by decide +kernel
theorem dJ8_hugeLength_7cf53_59 : decode cJ8_hugeLength_7cf53 59 = .ok (.ireturn, 1) := by decide +kernel
end
section
theorem dL_setOwner_0 : decode cL_setOwner 0 = .ok (.aload 4, 2) := by decide +kernel
theorem dL_setOwner_2 : decode cL_setOwner 2 = .ok (.iconst 0, 1) := by decide +kernel
theorem dL_setOwner_3 : decode cL_setOwner 3 = .ok (.aload_n 0, 1) := by decide +kernel
theorem dL_setOwner_4 : decode cL_setOwner 4 = .ok (.iload_n 1, 1) := by decide +kernel
theorem dL_setOwner_5 : decode cL_setOwner 5 = .ok (.iload_n 2, 1) := by decide +kernel
theorem dL_setOwner_6 : decode cL_setOwner 6 = .ok (.iload_n 3, 1) := by decide +kernel
theorem dL_setOwner_7 : decode cL_setOwner 7 = .ok (.invokevirtual 7, 3) := by decide +kernel
theorem dL_setOwner_10 : decode cL_setOwner 10 = .ok (.i2l, 1) := by decide +kernel
theorem dL_setOwner_11 : decode cL_setOwner 11 = .ok (.lastore, 1) := by decide +kernel
theorem dL_setOwner_12 : decode cL_setOwner 12 = .ok (.goto 11, 3) := by decide +kernel
theorem dL_setOwner_15 : decode cL_setOwner 15 = .ok (.astore 5, 2) := by decide +kernel
theorem dL_setOwner_17 : decode cL_setOwner 17 = .ok (.iconst 1, 1) := by decide +kernel
theorem dL_setOwner_18 : decode cL_setOwner 18 = .ok (.ireturn, 1) := by decide +kernel
theorem dL_setOwner_19 : decode cL_setOwner 19 = .ok (.astore 5, 2) := by decide +kernel
theorem dL_setOwner_21 : decode cL_setOwner 21 = .ok (.iconst 2, 1) := by decide +kernel
theorem dL_setOwner_22 : decode cL_setOwner 22 = .ok (.ireturn, 1) := by decide +kernel
theorem dL_setOwner_23 : decode cL_setOwner 23 = .ok (.iconst 0, 1) := by decide +kernel
theorem dL_setOwner_24 : decode cL_setOwner 24 = .ok (.ireturn, 1) := by decide +kernel
theorem dL_setAway_0 : decode cL_setAway 0 = .ok (.aload_n 3, 1) := by decide +kernel
theorem dL_setAway_1 : decode cL_setAway 1 = .ok (.iconst 0, 1) := by decide +kernel
theorem dL_setAway_2 : decode cL_setAway 2 = .ok (.aload_n 0, 1) := by decide +kernel
theorem dL_setAway_3 : decode cL_setAway 3 = .ok (.iload_n 1, 1) := by decide +kernel
theorem dL_setAway_4 : decode cL_setAway 4 = .ok (.iload_n 2, 1) := by decide +kernel
theorem dL_setAway_5 : decode cL_setAway 5 = .ok (.invokevirtual 17, 3) := by decide +kernel
theorem dL_setAway_8 : decode cL_setAway 8 = .ok (.ifCond .eq 7, 3) := by decide +kernel
theorem dL_setAway_11 : decode cL_setAway 11 = .ok (.lconst 1, 1) := by decide +kernel
theorem dL_setAway_12 : decode cL_setAway 12 = .ok (.goto 4, 3) := by decide +kernel
theorem dL_setAway_15 : decode cL_setAway 15 = .ok (.lconst 0, 1) := by decide +kernel
theorem dL_setAway_16 : decode cL_setAway 16 = .ok (.lastore, 1) := by decide +kernel
theorem dL_setAway_17 : decode cL_setAway 17 = .ok (.goto 7, 3) := by decide +kernel
theorem dL_setAway_20 : decode cL_setAway 20 = .ok (.astore 4, 2) := by decide +kernel
theorem dL_setAway_22 : decode cL_setAway 22 = .ok (.iconst 1, 1) := by decide +kernel
theorem dL_setAway_23 : decode cL_setAway 23 = .ok (.ireturn, 1) := by decide +kernel
theorem dL_setAway_24 : decode cL_setAway 24 = .ok (.iconst 0, 1) := by decide +kernel
theorem dL_setAway_25 : decode cL_setAway 25 = .ok (.ireturn, 1) := by decide +kernel
theorem dL_open_0 : decode cL_open 0 = .ok (.aload_n 2, 1) := by decide +kernel
theorem dL_open_1 : decode cL_open 1 = .ok (.iconst 0, 1) := by decide +kernel
theorem dL_open_2 : decode cL_open 2 = .ok (.aload_n 0, 1) := by decide +kernel
theorem dL_open_3 : decode cL_open 3 = .ok (.iload_n 1, 1) := by decide +kernel
theorem dL_open_4 : decode cL_open 4 = .ok (.invokevirtual 21, 3) := by decide +kernel
theorem dL_open_7 : decode cL_open 7 = .ok (.i2l, 1) := by decide +kernel
theorem dL_open_8 : decode cL_open 8 = .ok (.lastore, 1) := by decide +kernel
theorem dL_open_9 : decode cL_open 9 = .ok (.goto 9, 3) := by decide +kernel
theorem dL_open_12 : decode cL_open 12 = .ok (.astore_n 3, 1) := by decide +kernel
theorem dL_open_13 : decode cL_open 13 = .ok (.iconst 1, 1) := by decide +kernel
theorem dL_open_14 : decode cL_open 14 = .ok (.ireturn, 1) := by decide +kernel
theorem dL_open_15 : decode cL_open 15 = .ok (.astore_n 3, 1) := by decide +kernel
theorem dL_open_16 : decode cL_open 16 = .ok (.iconst 2, 1) := by decide +kernel
theorem dL_open_17 : decode cL_open 17 = .ok (.ireturn, 1) := by decide +kernel
theorem dL_open_18 : decode cL_open 18 = .ok (.iconst 0, 1) := by decide +kernel
theorem dL_open_19 : decode cL_open 19 = .ok (.ireturn, 1) := by decide +kernel
theorem dL_edit_0 : decode cL_edit 0 = .ok (.aload 5, 2) := by decide +kernel
theorem dL_edit_2 : decode cL_edit 2 = .ok (.iconst 0, 1) := by decide +kernel
theorem dL_edit_3 : decode cL_edit 3 = .ok (.aload_n 0, 1) := by decide +kernel
theorem dL_edit_4 : decode cL_edit 4 = .ok (.iload_n 1, 1) := by decide +kernel
theorem dL_edit_5 : decode cL_edit 5 = .ok (.iload_n 2, 1) := by decide +kernel
theorem dL_edit_6 : decode cL_edit 6 = .ok (.iload_n 3, 1) := by decide +kernel
theorem dL_edit_7 : decode cL_edit 7 = .ok (.iload 4, 2) := by decide +kernel
theorem dL_edit_9 : decode cL_edit 9 = .ok (.invokevirtual 27, 3) := by decide +kernel
theorem dL_edit_12 : decode cL_edit 12 = .ok (.i2l, 1) := by decide +kernel
theorem dL_edit_13 : decode cL_edit 13 = .ok (.lastore, 1) := by decide +kernel
theorem dL_edit_14 : decode cL_edit 14 = .ok (.goto 19, 3) := by decide +kernel
theorem dL_edit_17 : decode cL_edit 17 = .ok (.astore 6, 2) := by decide +kernel
theorem dL_edit_19 : decode cL_edit 19 = .ok (.iconst 1, 1) := by decide +kernel
theorem dL_edit_20 : decode cL_edit 20 = .ok (.ireturn, 1) := by decide +kernel
theorem dL_edit_21 : decode cL_edit 21 = .ok (.astore 6, 2) := by decide +kernel
theorem dL_edit_23 : decode cL_edit 23 = .ok (.iconst 2, 1) := by decide +kernel
theorem dL_edit_24 : decode cL_edit 24 = .ok (.ireturn, 1) := by decide +kernel
theorem dL_edit_25 : decode cL_edit 25 = .ok (.astore 6, 2) := by decide +kernel
theorem dL_edit_27 : decode cL_edit 27 = .ok (.iconst 3, 1) := by decide +kernel
theorem dL_edit_28 : decode cL_edit 28 = .ok (.ireturn, 1) := by decide +kernel
theorem dL_edit_29 : decode cL_edit 29 = .ok (.astore 6, 2) := by decide +kernel
theorem dL_edit_31 : decode cL_edit 31 = .ok (.iconst 4, 1) := by decide +kernel
theorem dL_edit_32 : decode cL_edit 32 = .ok (.ireturn, 1) := by decide +kernel
theorem dL_edit_33 : decode cL_edit 33 = .ok (.iconst 0, 1) := by decide +kernel
theorem dL_edit_34 : decode cL_edit 34 = .ok (.ireturn, 1) := by decide +kernel
theorem dL_take_0 : decode cL_take 0 = .ok (.aload 4, 2) := by decide +kernel
theorem dL_take_2 : decode cL_take 2 = .ok (.iconst 0, 1) := by decide +kernel
theorem dL_take_3 : decode cL_take 3 = .ok (.aload_n 0, 1) := by decide +kernel
theorem dL_take_4 : decode cL_take 4 = .ok (.iload_n 1, 1) := by decide +kernel
theorem dL_take_5 : decode cL_take 5 = .ok (.iload_n 2, 1) := by decide +kernel
theorem dL_take_6 : decode cL_take 6 = .ok (.iload_n 3, 1) := by decide +kernel
theorem dL_take_7 : decode cL_take 7 = .ok (.invokevirtual 33, 3) := by decide +kernel
theorem dL_take_10 : decode cL_take 10 = .ok (.i2l, 1) := by decide +kernel
theorem dL_take_11 : decode cL_take 11 = .ok (.lastore, 1) := by decide +kernel
theorem dL_take_12 : decode cL_take 12 = .ok (.goto 15, 3) := by decide +kernel
theorem dL_take_15 : decode cL_take 15 = .ok (.astore 5, 2) := by decide +kernel
theorem dL_take_17 : decode cL_take 17 = .ok (.iconst 1, 1) := by decide +kernel
theorem dL_take_18 : decode cL_take 18 = .ok (.ireturn, 1) := by decide +kernel
theorem dL_take_19 : decode cL_take 19 = .ok (.astore 5, 2) := by decide +kernel
theorem dL_take_21 : decode cL_take 21 = .ok (.iconst 2, 1) := by decide +kernel
theorem dL_take_22 : decode cL_take 22 = .ok (.ireturn, 1) := by decide +kernel
theorem dL_take_23 : decode cL_take 23 = .ok (.astore 5, 2) := by decide +kernel
theorem dL_take_25 : decode cL_take 25 = .ok (.iconst 3, 1) := by decide +kernel
theorem dL_take_26 : decode cL_take 26 = .ok (.ireturn, 1) := by decide +kernel
theorem dL_take_27 : decode cL_take 27 = .ok (.iconst 0, 1) := by decide +kernel
theorem dL_take_28 : decode cL_take 28 = .ok (.ireturn, 1) := by decide +kernel
theorem dL_close_0 : decode cL_close 0 = .ok (.aload_n 2, 1) := by decide +kernel
theorem dL_close_1 : decode cL_close 1 = .ok (.iconst 0, 1) := by decide +kernel
theorem dL_close_2 : decode cL_close 2 = .ok (.aload_n 0, 1) := by decide +kernel
theorem dL_close_3 : decode cL_close 3 = .ok (.iload_n 1, 1) := by decide +kernel
theorem dL_close_4 : decode cL_close 4 = .ok (.invokevirtual 36, 3) := by decide +kernel
theorem dL_close_7 : decode cL_close 7 = .ok (.i2l, 1) := by decide +kernel
theorem dL_close_8 : decode cL_close 8 = .ok (.lastore, 1) := by decide +kernel
theorem dL_close_9 : decode cL_close 9 = .ok (.goto 9, 3) := by decide +kernel
theorem dL_close_12 : decode cL_close 12 = .ok (.astore_n 3, 1) := by decide +kernel
theorem dL_close_13 : decode cL_close 13 = .ok (.iconst 1, 1) := by decide +kernel
theorem dL_close_14 : decode cL_close 14 = .ok (.ireturn, 1) := by decide +kernel
theorem dL_close_15 : decode cL_close 15 = .ok (.astore_n 3, 1) := by decide +kernel
theorem dL_close_16 : decode cL_close 16 = .ok (.iconst 2, 1) := by decide +kernel
theorem dL_close_17 : decode cL_close 17 = .ok (.ireturn, 1) := by decide +kernel
theorem dL_close_18 : decode cL_close 18 = .ok (.iconst 0, 1) := by decide +kernel
theorem dL_close_19 : decode cL_close 19 = .ok (.ireturn, 1) := by decide +kernel
theorem dL_vote_0 : decode cL_vote 0 = .ok (.aload 4, 2) := by decide +kernel
theorem dL_vote_2 : decode cL_vote 2 = .ok (.iconst 0, 1) := by decide +kernel
theorem dL_vote_3 : decode cL_vote 3 = .ok (.aload_n 0, 1) := by decide +kernel
theorem dL_vote_4 : decode cL_vote 4 = .ok (.iload_n 1, 1) := by decide +kernel
theorem dL_vote_5 : decode cL_vote 5 = .ok (.iload_n 2, 1) := by decide +kernel
theorem dL_vote_6 : decode cL_vote 6 = .ok (.iload_n 3, 1) := by decide +kernel
theorem dL_vote_7 : decode cL_vote 7 = .ok (.invokevirtual 39, 3) := by decide +kernel
theorem dL_vote_10 : decode cL_vote 10 = .ok (.i2l, 1) := by decide +kernel
theorem dL_vote_11 : decode cL_vote 11 = .ok (.lastore, 1) := by decide +kernel
theorem dL_vote_12 : decode cL_vote 12 = .ok (.goto 15, 3) := by decide +kernel
theorem dL_vote_15 : decode cL_vote 15 = .ok (.astore 5, 2) := by decide +kernel
theorem dL_vote_17 : decode cL_vote 17 = .ok (.iconst 1, 1) := by decide +kernel
theorem dL_vote_18 : decode cL_vote 18 = .ok (.ireturn, 1) := by decide +kernel
theorem dL_vote_19 : decode cL_vote 19 = .ok (.astore 5, 2) := by decide +kernel
theorem dL_vote_21 : decode cL_vote 21 = .ok (.iconst 2, 1) := by decide +kernel
theorem dL_vote_22 : decode cL_vote 22 = .ok (.ireturn, 1) := by decide +kernel
theorem dL_vote_23 : decode cL_vote 23 = .ok (.astore 5, 2) := by decide +kernel
theorem dL_vote_25 : decode cL_vote 25 = .ok (.iconst 3, 1) := by decide +kernel
theorem dL_vote_26 : decode cL_vote 26 = .ok (.ireturn, 1) := by decide +kernel
theorem dL_vote_27 : decode cL_vote 27 = .ok (.iconst 0, 1) := by decide +kernel
theorem dL_vote_28 : decode cL_vote 28 = .ok (.ireturn, 1) := by decide +kernel
theorem dL_verdict_0 : decode cL_verdict 0 = .ok (.aload_n 3, 1) := by decide +kernel
theorem dL_verdict_1 : decode cL_verdict 1 = .ok (.iconst 0, 1) := by decide +kernel
theorem dL_verdict_2 : decode cL_verdict 2 = .ok (.aload_n 0, 1) := by decide +kernel
theorem dL_verdict_3 : decode cL_verdict 3 = .ok (.iload_n 1, 1) := by decide +kernel
theorem dL_verdict_4 : decode cL_verdict 4 = .ok (.iload_n 2, 1) := by decide +kernel
theorem dL_verdict_5 : decode cL_verdict 5 = .ok (.invokevirtual 43, 3) := by decide +kernel
theorem dL_verdict_8 : decode cL_verdict 8 = .ok (.i2l, 1) := by decide +kernel
theorem dL_verdict_9 : decode cL_verdict 9 = .ok (.lastore, 1) := by decide +kernel
theorem dL_verdict_10 : decode cL_verdict 10 = .ok (.goto 11, 3) := by decide +kernel
theorem dL_verdict_13 : decode cL_verdict 13 = .ok (.astore 4, 2) := by decide +kernel
theorem dL_verdict_15 : decode cL_verdict 15 = .ok (.iconst 1, 1) := by decide +kernel
theorem dL_verdict_16 : decode cL_verdict 16 = .ok (.ireturn, 1) := by decide +kernel
theorem dL_verdict_17 : decode cL_verdict 17 = .ok (.astore 4, 2) := by decide +kernel
theorem dL_verdict_19 : decode cL_verdict 19 = .ok (.iconst 2, 1) := by decide +kernel
theorem dL_verdict_20 : decode cL_verdict 20 = .ok (.ireturn, 1) := by decide +kernel
theorem dL_verdict_21 : decode cL_verdict 21 = .ok (.iconst 0, 1) := by decide +kernel
theorem dL_verdict_22 : decode cL_verdict 22 = .ok (.ireturn, 1) := by decide +kernel
theorem dL_asked_0 : decode cL_asked 0 = .ok (.aload_n 3, 1) := by decide +kernel
theorem dL_asked_1 : decode cL_asked 1 = .ok (.iconst 0, 1) := by decide +kernel
theorem dL_asked_2 : decode cL_asked 2 = .ok (.aload_n 0, 1) := by decide +kernel
theorem dL_asked_3 : decode cL_asked 3 = .ok (.iload_n 1, 1) := by decide +kernel
theorem dL_asked_4 : decode cL_asked 4 = .ok (.iload_n 2, 1) := by decide +kernel
theorem dL_asked_5 : decode cL_asked 5 = .ok (.invokevirtual 47, 3) := by decide +kernel
theorem dL_asked_8 : decode cL_asked 8 = .ok (.i2l, 1) := by decide +kernel
theorem dL_asked_9 : decode cL_asked 9 = .ok (.lastore, 1) := by decide +kernel
theorem dL_asked_10 : decode cL_asked 10 = .ok (.goto 11, 3) := by decide +kernel
theorem dL_asked_13 : decode cL_asked 13 = .ok (.astore 4, 2) := by decide +kernel
theorem dL_asked_15 : decode cL_asked 15 = .ok (.iconst 1, 1) := by decide +kernel
theorem dL_asked_16 : decode cL_asked 16 = .ok (.ireturn, 1) := by decide +kernel
theorem dL_asked_17 : decode cL_asked 17 = .ok (.astore 4, 2) := by decide +kernel
theorem dL_asked_19 : decode cL_asked 19 = .ok (.iconst 2, 1) := by decide +kernel
theorem dL_asked_20 : decode cL_asked 20 = .ok (.ireturn, 1) := by decide +kernel
theorem dL_asked_21 : decode cL_asked 21 = .ok (.iconst 0, 1) := by decide +kernel
theorem dL_asked_22 : decode cL_asked 22 = .ok (.ireturn, 1) := by decide +kernel
theorem dL_missing_0 : decode cL_missing 0 = .ok (.aload_n 2, 1) := by decide +kernel
theorem dL_missing_1 : decode cL_missing 1 = .ok (.iconst 0, 1) := by decide +kernel
theorem dL_missing_2 : decode cL_missing 2 = .ok (.aload_n 0, 1) := by decide +kernel
theorem dL_missing_3 : decode cL_missing 3 = .ok (.iload_n 1, 1) := by decide +kernel
theorem dL_missing_4 : decode cL_missing 4 = .ok (.invokevirtual 51, 3) := by decide +kernel
theorem dL_missing_7 : decode cL_missing 7 = .ok (.i2l, 1) := by decide +kernel
theorem dL_missing_8 : decode cL_missing 8 = .ok (.lastore, 1) := by decide +kernel
theorem dL_missing_9 : decode cL_missing 9 = .ok (.goto 6, 3) := by decide +kernel
theorem dL_missing_12 : decode cL_missing 12 = .ok (.astore_n 3, 1) := by decide +kernel
theorem dL_missing_13 : decode cL_missing 13 = .ok (.iconst 1, 1) := by decide +kernel
theorem dL_missing_14 : decode cL_missing 14 = .ok (.ireturn, 1) := by decide +kernel
theorem dL_missing_15 : decode cL_missing 15 = .ok (.iconst 0, 1) := by decide +kernel
theorem dL_missing_16 : decode cL_missing 16 = .ok (.ireturn, 1) := by decide +kernel
theorem dL_queue_0 : decode cL_queue 0 = .ok (.aload_n 2, 1) := by decide +kernel
theorem dL_queue_1 : decode cL_queue 1 = .ok (.iconst 0, 1) := by decide +kernel
theorem dL_queue_2 : decode cL_queue 2 = .ok (.aload_n 0, 1) := by decide +kernel
theorem dL_queue_3 : decode cL_queue 3 = .ok (.iload_n 1, 1) := by decide +kernel
theorem dL_queue_4 : decode cL_queue 4 = .ok (.invokevirtual 54, 3) := by decide +kernel
theorem dL_queue_7 : decode cL_queue 7 = .ok (.i2l, 1) := by decide +kernel
theorem dL_queue_8 : decode cL_queue 8 = .ok (.lastore, 1) := by decide +kernel
theorem dL_queue_9 : decode cL_queue 9 = .ok (.goto 12, 3) := by decide +kernel
theorem dL_queue_12 : decode cL_queue 12 = .ok (.astore_n 3, 1) := by decide +kernel
theorem dL_queue_13 : decode cL_queue 13 = .ok (.iconst 1, 1) := by decide +kernel
theorem dL_queue_14 : decode cL_queue 14 = .ok (.ireturn, 1) := by decide +kernel
theorem dL_queue_15 : decode cL_queue 15 = .ok (.astore_n 3, 1) := by decide +kernel
theorem dL_queue_16 : decode cL_queue 16 = .ok (.iconst 2, 1) := by decide +kernel
theorem dL_queue_17 : decode cL_queue 17 = .ok (.ireturn, 1) := by decide +kernel
theorem dL_queue_18 : decode cL_queue 18 = .ok (.astore_n 3, 1) := by decide +kernel
theorem dL_queue_19 : decode cL_queue 19 = .ok (.iconst 3, 1) := by decide +kernel
theorem dL_queue_20 : decode cL_queue 20 = .ok (.ireturn, 1) := by decide +kernel
theorem dL_queue_21 : decode cL_queue 21 = .ok (.iconst 0, 1) := by decide +kernel
theorem dL_queue_22 : decode cL_queue 22 = .ok (.ireturn, 1) := by decide +kernel
theorem dL_unqueue_0 : decode cL_unqueue 0 = .ok (.aload_n 2, 1) := by decide +kernel
theorem dL_unqueue_1 : decode cL_unqueue 1 = .ok (.iconst 0, 1) := by decide +kernel
theorem dL_unqueue_2 : decode cL_unqueue 2 = .ok (.aload_n 0, 1) := by decide +kernel
theorem dL_unqueue_3 : decode cL_unqueue 3 = .ok (.iload_n 1, 1) := by decide +kernel
theorem dL_unqueue_4 : decode cL_unqueue 4 = .ok (.invokevirtual 59, 3) := by decide +kernel
theorem dL_unqueue_7 : decode cL_unqueue 7 = .ok (.i2l, 1) := by decide +kernel
theorem dL_unqueue_8 : decode cL_unqueue 8 = .ok (.lastore, 1) := by decide +kernel
theorem dL_unqueue_9 : decode cL_unqueue 9 = .ok (.goto 9, 3) := by decide +kernel
theorem dL_unqueue_12 : decode cL_unqueue 12 = .ok (.astore_n 3, 1) := by decide +kernel
theorem dL_unqueue_13 : decode cL_unqueue 13 = .ok (.iconst 1, 1) := by decide +kernel
theorem dL_unqueue_14 : decode cL_unqueue 14 = .ok (.ireturn, 1) := by decide +kernel
theorem dL_unqueue_15 : decode cL_unqueue 15 = .ok (.astore_n 3, 1) := by decide +kernel
theorem dL_unqueue_16 : decode cL_unqueue 16 = .ok (.iconst 2, 1) := by decide +kernel
theorem dL_unqueue_17 : decode cL_unqueue 17 = .ok (.ireturn, 1) := by decide +kernel
theorem dL_unqueue_18 : decode cL_unqueue 18 = .ok (.iconst 0, 1) := by decide +kernel
theorem dL_unqueue_19 : decode cL_unqueue 19 = .ok (.ireturn, 1) := by decide +kernel
theorem dL_queueAt_0 : decode cL_queueAt 0 = .ok (.aload_n 2, 1) := by decide +kernel
theorem dL_queueAt_1 : decode cL_queueAt 1 = .ok (.iconst 0, 1) := by decide +kernel
theorem dL_queueAt_2 : decode cL_queueAt 2 = .ok (.aload_n 0, 1) := by decide +kernel
theorem dL_queueAt_3 : decode cL_queueAt 3 = .ok (.iload_n 1, 1) := by decide +kernel
theorem dL_queueAt_4 : decode cL_queueAt 4 = .ok (.invokevirtual 62, 3) := by decide +kernel
theorem dL_queueAt_7 : decode cL_queueAt 7 = .ok (.i2l, 1) := by decide +kernel
theorem dL_queueAt_8 : decode cL_queueAt 8 = .ok (.lastore, 1) := by decide +kernel
theorem dL_queueAt_9 : decode cL_queueAt 9 = .ok (.goto 6, 3) := by decide +kernel
theorem dL_queueAt_12 : decode cL_queueAt 12 = .ok (.astore_n 3, 1) := by decide +kernel
theorem dL_queueAt_13 : decode cL_queueAt 13 = .ok (.iconst 1, 1) := by decide +kernel
theorem dL_queueAt_14 : decode cL_queueAt 14 = .ok (.ireturn, 1) := by decide +kernel
theorem dL_queueAt_15 : decode cL_queueAt 15 = .ok (.iconst 0, 1) := by decide +kernel
theorem dL_queueAt_16 : decode cL_queueAt 16 = .ok (.ireturn, 1) := by decide +kernel
theorem dL_step_0 : decode cL_step 0 = .ok (.aload_n 1, 1) := by decide +kernel
theorem dL_step_1 : decode cL_step 1 = .ok (.iconst 0, 1) := by decide +kernel
theorem dL_step_2 : decode cL_step 2 = .ok (.aload_n 0, 1) := by decide +kernel
theorem dL_step_3 : decode cL_step 3 = .ok (.invokevirtual 65, 3) := by decide +kernel
theorem dL_step_6 : decode cL_step 6 = .ok (.i2l, 1) := by decide +kernel
theorem dL_step_7 : decode cL_step 7 = .ok (.lastore, 1) := by decide +kernel
theorem dL_step_8 : decode cL_step 8 = .ok (.goto 6, 3) := by decide +kernel
theorem dL_step_11 : decode cL_step 11 = .ok (.astore_n 2, 1) := by decide +kernel
theorem dL_step_12 : decode cL_step 12 = .ok (.iconst 1, 1) := by decide +kernel
theorem dL_step_13 : decode cL_step 13 = .ok (.ireturn, 1) := by decide +kernel
theorem dL_step_14 : decode cL_step 14 = .ok (.iconst 0, 1) := by decide +kernel
theorem dL_step_15 : decode cL_step 15 = .ok (.ireturn, 1) := by decide +kernel
theorem dL_setFrozen_0 : decode cL_setFrozen 0 = .ok (.aload_n 3, 1) := by decide +kernel
theorem dL_setFrozen_1 : decode cL_setFrozen 1 = .ok (.iconst 0, 1) := by decide +kernel
theorem dL_setFrozen_2 : decode cL_setFrozen 2 = .ok (.aload_n 0, 1) := by decide +kernel
theorem dL_setFrozen_3 : decode cL_setFrozen 3 = .ok (.iload_n 1, 1) := by decide +kernel
theorem dL_setFrozen_4 : decode cL_setFrozen 4 = .ok (.iload_n 2, 1) := by decide +kernel
theorem dL_setFrozen_5 : decode cL_setFrozen 5 = .ok (.invokevirtual 69, 3) := by decide +kernel
theorem dL_setFrozen_8 : decode cL_setFrozen 8 = .ok (.ifCond .eq 7, 3) := by decide +kernel
theorem dL_setFrozen_11 : decode cL_setFrozen 11 = .ok (.lconst 1, 1) := by decide +kernel
theorem dL_setFrozen_12 : decode cL_setFrozen 12 = .ok (.goto 4, 3) := by decide +kernel
theorem dL_setFrozen_15 : decode cL_setFrozen 15 = .ok (.lconst 0, 1) := by decide +kernel
theorem dL_setFrozen_16 : decode cL_setFrozen 16 = .ok (.lastore, 1) := by decide +kernel
theorem dL_setFrozen_17 : decode cL_setFrozen 17 = .ok (.goto 7, 3) := by decide +kernel
theorem dL_setFrozen_20 : decode cL_setFrozen 20 = .ok (.astore 4, 2) := by decide +kernel
theorem dL_setFrozen_22 : decode cL_setFrozen 22 = .ok (.iconst 1, 1) := by decide +kernel
theorem dL_setFrozen_23 : decode cL_setFrozen 23 = .ok (.ireturn, 1) := by decide +kernel
theorem dL_setFrozen_24 : decode cL_setFrozen 24 = .ok (.iconst 0, 1) := by decide +kernel
theorem dL_setFrozen_25 : decode cL_setFrozen 25 = .ok (.ireturn, 1) := by decide +kernel
theorem dL_stateOf_0 : decode cL_stateOf 0 = .ok (.aload_n 2, 1) := by decide +kernel
theorem dL_stateOf_1 : decode cL_stateOf 1 = .ok (.iconst 0, 1) := by decide +kernel
theorem dL_stateOf_2 : decode cL_stateOf 2 = .ok (.aload_n 0, 1) := by decide +kernel
theorem dL_stateOf_3 : decode cL_stateOf 3 = .ok (.iload_n 1, 1) := by decide +kernel
theorem dL_stateOf_4 : decode cL_stateOf 4 = .ok (.invokevirtual 72, 3) := by decide +kernel
theorem dL_stateOf_7 : decode cL_stateOf 7 = .ok (.i2l, 1) := by decide +kernel
theorem dL_stateOf_8 : decode cL_stateOf 8 = .ok (.lastore, 1) := by decide +kernel
theorem dL_stateOf_9 : decode cL_stateOf 9 = .ok (.goto 6, 3) := by decide +kernel
theorem dL_stateOf_12 : decode cL_stateOf 12 = .ok (.astore_n 3, 1) := by decide +kernel
theorem dL_stateOf_13 : decode cL_stateOf 13 = .ok (.iconst 1, 1) := by decide +kernel
theorem dL_stateOf_14 : decode cL_stateOf 14 = .ok (.ireturn, 1) := by decide +kernel
theorem dL_stateOf_15 : decode cL_stateOf 15 = .ok (.iconst 0, 1) := by decide +kernel
theorem dL_stateOf_16 : decode cL_stateOf 16 = .ok (.ireturn, 1) := by decide +kernel
theorem dL_hasFailed_0 : decode cL_hasFailed 0 = .ok (.aload_n 2, 1) := by decide +kernel
theorem dL_hasFailed_1 : decode cL_hasFailed 1 = .ok (.iconst 0, 1) := by decide +kernel
theorem dL_hasFailed_2 : decode cL_hasFailed 2 = .ok (.aload_n 0, 1) := by decide +kernel
theorem dL_hasFailed_3 : decode cL_hasFailed 3 = .ok (.iload_n 1, 1) := by decide +kernel
theorem dL_hasFailed_4 : decode cL_hasFailed 4 = .ok (.invokevirtual 76, 3) := by decide +kernel
theorem dL_hasFailed_7 : decode cL_hasFailed 7 = .ok (.ifCond .eq 7, 3) := by decide +kernel
theorem dL_hasFailed_10 : decode cL_hasFailed 10 = .ok (.lconst 1, 1) := by decide +kernel
theorem dL_hasFailed_11 : decode cL_hasFailed 11 = .ok (.goto 4, 3) := by decide +kernel
theorem dL_hasFailed_14 : decode cL_hasFailed 14 = .ok (.lconst 0, 1) := by decide +kernel
theorem dL_hasFailed_15 : decode cL_hasFailed 15 = .ok (.lastore, 1) := by decide +kernel
theorem dL_hasFailed_16 : decode cL_hasFailed 16 = .ok (.goto 6, 3) := by decide +kernel
theorem dL_hasFailed_19 : decode cL_hasFailed 19 = .ok (.astore_n 3, 1) := by decide +kernel
theorem dL_hasFailed_20 : decode cL_hasFailed 20 = .ok (.iconst 1, 1) := by decide +kernel
theorem dL_hasFailed_21 : decode cL_hasFailed 21 = .ok (.ireturn, 1) := by decide +kernel
theorem dL_hasFailed_22 : decode cL_hasFailed 22 = .ok (.iconst 0, 1) := by decide +kernel
theorem dL_hasFailed_23 : decode cL_hasFailed 23 = .ok (.ireturn, 1) := by decide +kernel
theorem dL_clashes_0 : decode cL_clashes 0 = .ok (.aload_n 2, 1) := by decide +kernel
theorem dL_clashes_1 : decode cL_clashes 1 = .ok (.iconst 0, 1) := by decide +kernel
theorem dL_clashes_2 : decode cL_clashes 2 = .ok (.aload_n 0, 1) := by decide +kernel
theorem dL_clashes_3 : decode cL_clashes 3 = .ok (.iload_n 1, 1) := by decide +kernel
theorem dL_clashes_4 : decode cL_clashes 4 = .ok (.invokevirtual 80, 3) := by decide +kernel
theorem dL_clashes_7 : decode cL_clashes 7 = .ok (.i2l, 1) := by decide +kernel
theorem dL_clashes_8 : decode cL_clashes 8 = .ok (.lastore, 1) := by decide +kernel
theorem dL_clashes_9 : decode cL_clashes 9 = .ok (.goto 6, 3) := by decide +kernel
theorem dL_clashes_12 : decode cL_clashes 12 = .ok (.astore_n 3, 1) := by decide +kernel
theorem dL_clashes_13 : decode cL_clashes 13 = .ok (.iconst 1, 1) := by decide +kernel
theorem dL_clashes_14 : decode cL_clashes 14 = .ok (.ireturn, 1) := by decide +kernel
theorem dL_clashes_15 : decode cL_clashes 15 = .ok (.iconst 0, 1) := by decide +kernel
theorem dL_clashes_16 : decode cL_clashes 16 = .ok (.ireturn, 1) := by decide +kernel
theorem dL_update_0 : decode cL_update 0 = .ok (.aload_n 2, 1) := by decide +kernel
theorem dL_update_1 : decode cL_update 1 = .ok (.iconst 0, 1) := by decide +kernel
theorem dL_update_2 : decode cL_update 2 = .ok (.aload_n 0, 1) := by decide +kernel
theorem dL_update_3 : decode cL_update 3 = .ok (.iload_n 1, 1) := by decide +kernel
theorem dL_update_4 : decode cL_update 4 = .ok (.invokevirtual 83, 3) := by decide +kernel
theorem dL_update_7 : decode cL_update 7 = .ok (.i2l, 1) := by decide +kernel
theorem dL_update_8 : decode cL_update 8 = .ok (.lastore, 1) := by decide +kernel
theorem dL_update_9 : decode cL_update 9 = .ok (.goto 9, 3) := by decide +kernel
theorem dL_update_12 : decode cL_update 12 = .ok (.astore_n 3, 1) := by decide +kernel
theorem dL_update_13 : decode cL_update 13 = .ok (.iconst 1, 1) := by decide +kernel
theorem dL_update_14 : decode cL_update 14 = .ok (.ireturn, 1) := by decide +kernel
theorem dL_update_15 : decode cL_update 15 = .ok (.astore_n 3, 1) := by decide +kernel
theorem dL_update_16 : decode cL_update 16 = .ok (.iconst 2, 1) := by decide +kernel
theorem dL_update_17 : decode cL_update 17 = .ok (.ireturn, 1) := by decide +kernel
theorem dL_update_18 : decode cL_update 18 = .ok (.iconst 0, 1) := by decide +kernel
theorem dL_update_19 : decode cL_update 19 = .ok (.ireturn, 1) := by decide +kernel
theorem dL_addTest_0 : decode cL_addTest 0 = .ok (.aload 6, 2) := by decide +kernel
theorem dL_addTest_2 : decode cL_addTest 2 = .ok (.iconst 0, 1) := by decide +kernel
theorem dL_addTest_3 : decode cL_addTest 3 = .ok (.aload_n 0, 1) := by decide +kernel
theorem dL_addTest_4 : decode cL_addTest 4 = .ok (.iload_n 1, 1) := by decide +kernel
theorem dL_addTest_5 : decode cL_addTest 5 = .ok (.iload_n 2, 1) := by decide +kernel
theorem dL_addTest_6 : decode cL_addTest 6 = .ok (.iload_n 3, 1) := by decide +kernel
theorem dL_addTest_7 : decode cL_addTest 7 = .ok (.iload 4, 2) := by decide +kernel
theorem dL_addTest_9 : decode cL_addTest 9 = .ok (.iload 5, 2) := by decide +kernel
theorem dL_addTest_11 : decode cL_addTest 11 = .ok (.invokevirtual 86, 3) := by decide +kernel
theorem dL_addTest_14 : decode cL_addTest 14 = .ok (.i2l, 1) := by decide +kernel
theorem dL_addTest_15 : decode cL_addTest 15 = .ok (.lastore, 1) := by decide +kernel
theorem dL_addTest_16 : decode cL_addTest 16 = .ok (.goto 19, 3) := by decide +kernel
theorem dL_addTest_19 : decode cL_addTest 19 = .ok (.astore 7, 2) := by decide +kernel
theorem dL_addTest_21 : decode cL_addTest 21 = .ok (.iconst 1, 1) := by decide +kernel
theorem dL_addTest_22 : decode cL_addTest 22 = .ok (.ireturn, 1) := by decide +kernel
theorem dL_addTest_23 : decode cL_addTest 23 = .ok (.astore 7, 2) := by decide +kernel
theorem dL_addTest_25 : decode cL_addTest 25 = .ok (.iconst 2, 1) := by decide +kernel
theorem dL_addTest_26 : decode cL_addTest 26 = .ok (.ireturn, 1) := by decide +kernel
theorem dL_addTest_27 : decode cL_addTest 27 = .ok (.astore 7, 2) := by decide +kernel
theorem dL_addTest_29 : decode cL_addTest 29 = .ok (.iconst 3, 1) := by decide +kernel
theorem dL_addTest_30 : decode cL_addTest 30 = .ok (.ireturn, 1) := by decide +kernel
theorem dL_addTest_31 : decode cL_addTest 31 = .ok (.astore 7, 2) := by decide +kernel
theorem dL_addTest_33 : decode cL_addTest 33 = .ok (.iconst 4, 1) := by decide +kernel
theorem dL_addTest_34 : decode cL_addTest 34 = .ok (.ireturn, 1) := by decide +kernel
theorem dL_addTest_35 : decode cL_addTest 35 = .ok (.iconst 0, 1) := by decide +kernel
theorem dL_addTest_36 : decode cL_addTest 36 = .ok (.ireturn, 1) := by decide +kernel
theorem dL_dropTest_0 : decode cL_dropTest 0 = .ok (.aload_n 2, 1) := by decide +kernel
theorem dL_dropTest_1 : decode cL_dropTest 1 = .ok (.iconst 0, 1) := by decide +kernel
theorem dL_dropTest_2 : decode cL_dropTest 2 = .ok (.aload_n 0, 1) := by decide +kernel
theorem dL_dropTest_3 : decode cL_dropTest 3 = .ok (.iload_n 1, 1) := by decide +kernel
theorem dL_dropTest_4 : decode cL_dropTest 4 = .ok (.invokevirtual 90, 3) := by decide +kernel
theorem dL_dropTest_7 : decode cL_dropTest 7 = .ok (.i2l, 1) := by decide +kernel
theorem dL_dropTest_8 : decode cL_dropTest 8 = .ok (.lastore, 1) := by decide +kernel
theorem dL_dropTest_9 : decode cL_dropTest 9 = .ok (.goto 6, 3) := by decide +kernel
theorem dL_dropTest_12 : decode cL_dropTest 12 = .ok (.astore_n 3, 1) := by decide +kernel
theorem dL_dropTest_13 : decode cL_dropTest 13 = .ok (.iconst 1, 1) := by decide +kernel
theorem dL_dropTest_14 : decode cL_dropTest 14 = .ok (.ireturn, 1) := by decide +kernel
theorem dL_dropTest_15 : decode cL_dropTest 15 = .ok (.iconst 0, 1) := by decide +kernel
theorem dL_dropTest_16 : decode cL_dropTest 16 = .ok (.ireturn, 1) := by decide +kernel
theorem dL_value_0 : decode cL_value 0 = .ok (.aload_n 3, 1) := by decide +kernel
theorem dL_value_1 : decode cL_value 1 = .ok (.iconst 0, 1) := by decide +kernel
theorem dL_value_2 : decode cL_value 2 = .ok (.aload_n 0, 1) := by decide +kernel
theorem dL_value_3 : decode cL_value 3 = .ok (.iload_n 1, 1) := by decide +kernel
theorem dL_value_4 : decode cL_value 4 = .ok (.iload_n 2, 1) := by decide +kernel
theorem dL_value_5 : decode cL_value 5 = .ok (.invokevirtual 93, 3) := by decide +kernel
theorem dL_value_8 : decode cL_value 8 = .ok (.i2l, 1) := by decide +kernel
theorem dL_value_9 : decode cL_value 9 = .ok (.lastore, 1) := by decide +kernel
theorem dL_value_10 : decode cL_value 10 = .ok (.goto 7, 3) := by decide +kernel
theorem dL_value_13 : decode cL_value 13 = .ok (.astore 4, 2) := by decide +kernel
theorem dL_value_15 : decode cL_value 15 = .ok (.iconst 1, 1) := by decide +kernel
theorem dL_value_16 : decode cL_value 16 = .ok (.ireturn, 1) := by decide +kernel
theorem dL_value_17 : decode cL_value 17 = .ok (.iconst 0, 1) := by decide +kernel
theorem dL_value_18 : decode cL_value 18 = .ok (.ireturn, 1) := by decide +kernel
theorem dL_valueByMerges_0 : decode cL_valueByMerges 0 = .ok (.aload_n 3, 1) := by decide +kernel
theorem dL_valueByMerges_1 : decode cL_valueByMerges 1 = .ok (.iconst 0, 1) := by decide +kernel
theorem dL_valueByMerges_2 : decode cL_valueByMerges 2 = .ok (.aload_n 0, 1) := by decide +kernel
theorem dL_valueByMerges_3 : decode cL_valueByMerges 3 = .ok (.iload_n 1, 1) := by decide +kernel
theorem dL_valueByMerges_4 : decode cL_valueByMerges 4 = .ok (.iload_n 2, 1) := by decide +kernel
theorem dL_valueByMerges_5 : decode cL_valueByMerges 5 = .ok (.invokevirtual 96, 3) := by decide +kernel
theorem dL_valueByMerges_8 : decode cL_valueByMerges 8 = .ok (.i2l, 1) := by decide +kernel
theorem dL_valueByMerges_9 : decode cL_valueByMerges 9 = .ok (.lastore, 1) := by decide +kernel
theorem dL_valueByMerges_10 : decode cL_valueByMerges 10 = .ok (.goto 7, 3) := by decide +kernel
theorem dL_valueByMerges_13 : decode cL_valueByMerges 13 = .ok (.astore 4, 2) := by decide +kernel
theorem dL_valueByMerges_15 : decode cL_valueByMerges 15 = .ok (.iconst 1, 1) := by decide +kernel
theorem dL_valueByMerges_16 : decode cL_valueByMerges 16 = .ok (.ireturn, 1) := by decide +kernel
theorem dL_valueByMerges_17 : decode cL_valueByMerges 17 = .ok (.iconst 0, 1) := by decide +kernel
theorem dL_valueByMerges_18 : decode cL_valueByMerges 18 = .ok (.ireturn, 1) := by decide +kernel
theorem dL_valueWith_0 : decode cL_valueWith 0 = .ok (.aload 4, 2) := by decide +kernel
theorem dL_valueWith_2 : decode cL_valueWith 2 = .ok (.iconst 0, 1) := by decide +kernel
theorem dL_valueWith_3 : decode cL_valueWith 3 = .ok (.aload_n 0, 1) := by decide +kernel
theorem dL_valueWith_4 : decode cL_valueWith 4 = .ok (.iload_n 1, 1) := by decide +kernel
theorem dL_valueWith_5 : decode cL_valueWith 5 = .ok (.iload_n 2, 1) := by decide +kernel
theorem dL_valueWith_6 : decode cL_valueWith 6 = .ok (.iload_n 3, 1) := by decide +kernel
theorem dL_valueWith_7 : decode cL_valueWith 7 = .ok (.invokevirtual 99, 3) := by decide +kernel
theorem dL_valueWith_10 : decode cL_valueWith 10 = .ok (.i2l, 1) := by decide +kernel
theorem dL_valueWith_11 : decode cL_valueWith 11 = .ok (.lastore, 1) := by decide +kernel
theorem dL_valueWith_12 : decode cL_valueWith 12 = .ok (.goto 11, 3) := by decide +kernel
theorem dL_valueWith_15 : decode cL_valueWith 15 = .ok (.astore 5, 2) := by decide +kernel
theorem dL_valueWith_17 : decode cL_valueWith 17 = .ok (.iconst 1, 1) := by decide +kernel
theorem dL_valueWith_18 : decode cL_valueWith 18 = .ok (.ireturn, 1) := by decide +kernel
theorem dL_valueWith_19 : decode cL_valueWith 19 = .ok (.astore 5, 2) := by decide +kernel
theorem dL_valueWith_21 : decode cL_valueWith 21 = .ok (.iconst 2, 1) := by decide +kernel
theorem dL_valueWith_22 : decode cL_valueWith 22 = .ok (.ireturn, 1) := by decide +kernel
theorem dL_valueWith_23 : decode cL_valueWith 23 = .ok (.iconst 0, 1) := by decide +kernel
theorem dL_valueWith_24 : decode cL_valueWith 24 = .ok (.ireturn, 1) := by decide +kernel
theorem dL_along_0 : decode cL_along 0 = .ok (.aload_n 2, 1) := by decide +kernel
theorem dL_along_1 : decode cL_along 1 = .ok (.iconst 0, 1) := by decide +kernel
theorem dL_along_2 : decode cL_along 2 = .ok (.aload_n 0, 1) := by decide +kernel
theorem dL_along_3 : decode cL_along 3 = .ok (.iload_n 1, 1) := by decide +kernel
theorem dL_along_4 : decode cL_along 4 = .ok (.invokevirtual 102, 3) := by decide +kernel
theorem dL_along_7 : decode cL_along 7 = .ok (.i2l, 1) := by decide +kernel
theorem dL_along_8 : decode cL_along 8 = .ok (.lastore, 1) := by decide +kernel
theorem dL_along_9 : decode cL_along 9 = .ok (.goto 9, 3) := by decide +kernel
theorem dL_along_12 : decode cL_along 12 = .ok (.astore_n 3, 1) := by decide +kernel
theorem dL_along_13 : decode cL_along 13 = .ok (.iconst 1, 1) := by decide +kernel
theorem dL_along_14 : decode cL_along 14 = .ok (.ireturn, 1) := by decide +kernel
theorem dL_along_15 : decode cL_along 15 = .ok (.astore_n 3, 1) := by decide +kernel
theorem dL_along_16 : decode cL_along 16 = .ok (.iconst 2, 1) := by decide +kernel
theorem dL_along_17 : decode cL_along 17 = .ok (.ireturn, 1) := by decide +kernel
theorem dL_along_18 : decode cL_along 18 = .ok (.iconst 0, 1) := by decide +kernel
theorem dL_along_19 : decode cL_along 19 = .ok (.ireturn, 1) := by decide +kernel
theorem dL_revert_0 : decode cL_revert 0 = .ok (.aload_n 2, 1) := by decide +kernel
theorem dL_revert_1 : decode cL_revert 1 = .ok (.iconst 0, 1) := by decide +kernel
theorem dL_revert_2 : decode cL_revert 2 = .ok (.aload_n 0, 1) := by decide +kernel
theorem dL_revert_3 : decode cL_revert 3 = .ok (.iload_n 1, 1) := by decide +kernel
theorem dL_revert_4 : decode cL_revert 4 = .ok (.invokevirtual 105, 3) := by decide +kernel
theorem dL_revert_7 : decode cL_revert 7 = .ok (.i2l, 1) := by decide +kernel
theorem dL_revert_8 : decode cL_revert 8 = .ok (.lastore, 1) := by decide +kernel
theorem dL_revert_9 : decode cL_revert 9 = .ok (.goto 12, 3) := by decide +kernel
theorem dL_revert_12 : decode cL_revert 12 = .ok (.astore_n 3, 1) := by decide +kernel
theorem dL_revert_13 : decode cL_revert 13 = .ok (.iconst 1, 1) := by decide +kernel
theorem dL_revert_14 : decode cL_revert 14 = .ok (.ireturn, 1) := by decide +kernel
theorem dL_revert_15 : decode cL_revert 15 = .ok (.astore_n 3, 1) := by decide +kernel
theorem dL_revert_16 : decode cL_revert 16 = .ok (.iconst 2, 1) := by decide +kernel
theorem dL_revert_17 : decode cL_revert 17 = .ok (.ireturn, 1) := by decide +kernel
theorem dL_revert_18 : decode cL_revert 18 = .ok (.astore_n 3, 1) := by decide +kernel
theorem dL_revert_19 : decode cL_revert 19 = .ok (.iconst 3, 1) := by decide +kernel
theorem dL_revert_20 : decode cL_revert 20 = .ok (.ireturn, 1) := by decide +kernel
theorem dL_revert_21 : decode cL_revert 21 = .ok (.iconst 0, 1) := by decide +kernel
theorem dL_revert_22 : decode cL_revert 22 = .ok (.ireturn, 1) := by decide +kernel
theorem dL_mergedAt_0 : decode cL_mergedAt 0 = .ok (.aload_n 2, 1) := by decide +kernel
theorem dL_mergedAt_1 : decode cL_mergedAt 1 = .ok (.iconst 0, 1) := by decide +kernel
theorem dL_mergedAt_2 : decode cL_mergedAt 2 = .ok (.aload_n 0, 1) := by decide +kernel
theorem dL_mergedAt_3 : decode cL_mergedAt 3 = .ok (.iload_n 1, 1) := by decide +kernel
theorem dL_mergedAt_4 : decode cL_mergedAt 4 = .ok (.invokevirtual 108, 3) := by decide +kernel
theorem dL_mergedAt_7 : decode cL_mergedAt 7 = .ok (.i2l, 1) := by decide +kernel
theorem dL_mergedAt_8 : decode cL_mergedAt 8 = .ok (.lastore, 1) := by decide +kernel
theorem dL_mergedAt_9 : decode cL_mergedAt 9 = .ok (.goto 6, 3) := by decide +kernel
theorem dL_mergedAt_12 : decode cL_mergedAt 12 = .ok (.astore_n 3, 1) := by decide +kernel
theorem dL_mergedAt_13 : decode cL_mergedAt 13 = .ok (.iconst 1, 1) := by decide +kernel
theorem dL_mergedAt_14 : decode cL_mergedAt 14 = .ok (.ireturn, 1) := by decide +kernel
theorem dL_mergedAt_15 : decode cL_mergedAt 15 = .ok (.iconst 0, 1) := by decide +kernel
theorem dL_mergedAt_16 : decode cL_mergedAt 16 = .ok (.ireturn, 1) := by decide +kernel
theorem dL_isGood_0 : decode cL_isGood 0 = .ok (.aload_n 2, 1) := by decide +kernel
theorem dL_isGood_1 : decode cL_isGood 1 = .ok (.iconst 0, 1) := by decide +kernel
theorem dL_isGood_2 : decode cL_isGood 2 = .ok (.aload_n 0, 1) := by decide +kernel
theorem dL_isGood_3 : decode cL_isGood 3 = .ok (.iload_n 1, 1) := by decide +kernel
theorem dL_isGood_4 : decode cL_isGood 4 = .ok (.invokevirtual 111, 3) := by decide +kernel
theorem dL_isGood_7 : decode cL_isGood 7 = .ok (.ifCond .eq 7, 3) := by decide +kernel
theorem dL_isGood_10 : decode cL_isGood 10 = .ok (.lconst 1, 1) := by decide +kernel
theorem dL_isGood_11 : decode cL_isGood 11 = .ok (.goto 4, 3) := by decide +kernel
theorem dL_isGood_14 : decode cL_isGood 14 = .ok (.lconst 0, 1) := by decide +kernel
theorem dL_isGood_15 : decode cL_isGood 15 = .ok (.lastore, 1) := by decide +kernel
theorem dL_isGood_16 : decode cL_isGood 16 = .ok (.goto 6, 3) := by decide +kernel
theorem dL_isGood_19 : decode cL_isGood 19 = .ok (.astore_n 3, 1) := by decide +kernel
theorem dL_isGood_20 : decode cL_isGood 20 = .ok (.iconst 1, 1) := by decide +kernel
theorem dL_isGood_21 : decode cL_isGood 21 = .ok (.ireturn, 1) := by decide +kernel
theorem dL_isGood_22 : decode cL_isGood 22 = .ok (.iconst 0, 1) := by decide +kernel
theorem dL_isGood_23 : decode cL_isGood 23 = .ok (.ireturn, 1) := by decide +kernel
theorem dL_takenShare_0 : decode cL_takenShare 0 = .ok (.aload_n 1, 1) := by decide +kernel
theorem dL_takenShare_1 : decode cL_takenShare 1 = .ok (.iconst 0, 1) := by decide +kernel
theorem dL_takenShare_2 : decode cL_takenShare 2 = .ok (.aload_n 0, 1) := by decide +kernel
theorem dL_takenShare_3 : decode cL_takenShare 3 = .ok (.invokevirtual 114, 3) := by decide +kernel
theorem dL_takenShare_6 : decode cL_takenShare 6 = .ok (.f2d, 1) := by decide +kernel
theorem dL_takenShare_7 : decode cL_takenShare 7 = .ok (.dastore, 1) := by decide +kernel
theorem dL_takenShare_8 : decode cL_takenShare 8 = .ok (.goto 6, 3) := by decide +kernel
theorem dL_takenShare_11 : decode cL_takenShare 11 = .ok (.astore_n 2, 1) := by decide +kernel
theorem dL_takenShare_12 : decode cL_takenShare 12 = .ok (.iconst 1, 1) := by decide +kernel
theorem dL_takenShare_13 : decode cL_takenShare 13 = .ok (.ireturn, 1) := by decide +kernel
theorem dL_takenShare_14 : decode cL_takenShare 14 = .ok (.iconst 0, 1) := by decide +kernel
theorem dL_takenShare_15 : decode cL_takenShare 15 = .ok (.ireturn, 1) := by decide +kernel
theorem dL_meanEdits_0 : decode cL_meanEdits 0 = .ok (.aload_n 1, 1) := by decide +kernel
theorem dL_meanEdits_1 : decode cL_meanEdits 1 = .ok (.iconst 0, 1) := by decide +kernel
theorem dL_meanEdits_2 : decode cL_meanEdits 2 = .ok (.aload_n 0, 1) := by decide +kernel
theorem dL_meanEdits_3 : decode cL_meanEdits 3 = .ok (.invokevirtual 120, 3) := by decide +kernel
theorem dL_meanEdits_6 : decode cL_meanEdits 6 = .ok (.dastore, 1) := by decide +kernel
theorem dL_meanEdits_7 : decode cL_meanEdits 7 = .ok (.goto 6, 3) := by decide +kernel
theorem dL_meanEdits_10 : decode cL_meanEdits 10 = .ok (.astore_n 2, 1) := by decide +kernel
theorem dL_meanEdits_11 : decode cL_meanEdits 11 = .ok (.iconst 1, 1) := by decide +kernel
theorem dL_meanEdits_12 : decode cL_meanEdits 12 = .ok (.ireturn, 1) := by decide +kernel
theorem dL_meanEdits_13 : decode cL_meanEdits 13 = .ok (.iconst 0, 1) := by decide +kernel
theorem dL_meanEdits_14 : decode cL_meanEdits 14 = .ok (.ireturn, 1) := by decide +kernel
theorem dL_law_0 : decode cL_law 0 = .ok (.new 8, 3) := by decide +kernel
theorem dL_law_3 : decode cL_law 3 = .ok (.dup, 1) := by decide +kernel
theorem dL_law_4 : decode cL_law 4 = .ok (.invokespecial 124, 3) := by decide +kernel
theorem dL_law_7 : decode cL_law 7 = .ok (.astore_n 1, 1) := by decide +kernel
theorem dL_law_8 : decode cL_law 8 = .ok (.new 125, 3) := by decide +kernel
theorem dL_law_11 : decode cL_law 11 = .ok (.dup, 1) := by decide +kernel
theorem dL_law_12 : decode cL_law 12 = .ok (.invokespecial 127, 3) := by decide +kernel
theorem dL_law_15 : decode cL_law 15 = .ok (.astore_n 2, 1) := by decide +kernel
theorem dL_law_16 : decode cL_law 16 = .ok (.iconst 1, 1) := by decide +kernel
theorem dL_law_17 : decode cL_law 17 = .ok (.newarray .long, 2) := by decide +kernel
theorem dL_law_19 : decode cL_law 19 = .ok (.astore_n 3, 1) := by decide +kernel
theorem dL_law_20 : decode cL_law 20 = .ok (.iconst 1, 1) := by decide +kernel
theorem dL_law_21 : decode cL_law 21 = .ok (.newarray .double, 2) := by decide +kernel
theorem dL_law_23 : decode cL_law 23 = .ok (.astore 4, 2) := by decide +kernel
theorem dL_law_25 : decode cL_law 25 = .ok (.iconst 0, 1) := by decide +kernel
theorem dL_law_26 : decode cL_law 26 = .ok (.istore 5, 2) := by decide +kernel
theorem dL_law_28 : decode cL_law 28 = .ok (.iload 5, 2) := by decide +kernel
theorem dL_law_30 : decode cL_law 30 = .ok (.aload_n 0, 1) := by decide +kernel
theorem dL_law_31 : decode cL_law 31 = .ok (.arraylength, 1) := by decide +kernel
theorem dL_law_32 : decode cL_law 32 = .ok (.bipush 6, 2) := by decide +kernel
theorem dL_law_34 : decode cL_law 34 = .ok (.isub, 1) := by decide +kernel
theorem dL_law_35 : decode cL_law 35 = .ok (.if_icmp .gt 2218, 3) := by decide +kernel
theorem dL_law_38 : decode cL_law 38 = .ok (.aload_n 0, 1) := by decide +kernel
theorem dL_law_39 : decode cL_law 39 = .ok (.iload 5, 2) := by decide +kernel
theorem dL_law_41 : decode cL_law 41 = .ok (.iaload, 1) := by decide +kernel
theorem dL_law_42 : decode cL_law 42 = .ok (.bipush 63, 2) := by decide +kernel
theorem dL_law_44 : decode cL_law 44 = .ok (.iand, 1) := by decide +kernel
theorem dL_law_45 : decode cL_law 45 = .ok (.tableswitch 2202 0 32 #[147, 227, 318, 374, 466, 546, 602, 698, 766, 834, 890, 946, 1002, 1058, 1102, 1193, 1249, 1312, 1368, 1424, 1528, 1584, 1652, 1720, 1800, 1856, 1912, 1968, 2031, 2044, 2058, 2124, 2189], 147) := by decide +kernel
theorem dL_law_192 : decode cL_law 192 = .ok (.aload_n 1, 1) := by decide +kernel
theorem dL_law_193 : decode cL_law 193 = .ok (.aload_n 0, 1) := by decide +kernel
theorem dL_law_194 : decode cL_law 194 = .ok (.iload 5, 2) := by decide +kernel
theorem dL_law_196 : decode cL_law 196 = .ok (.iconst 1, 1) := by decide +kernel
theorem dL_law_197 : decode cL_law 197 = .ok (.iadd, 1) := by decide +kernel
theorem dL_law_198 : decode cL_law 198 = .ok (.iaload, 1) := by decide +kernel
theorem dL_law_199 : decode cL_law 199 = .ok (.aload_n 0, 1) := by decide +kernel
theorem dL_law_200 : decode cL_law 200 = .ok (.iload 5, 2) := by decide +kernel
theorem dL_law_202 : decode cL_law 202 = .ok (.iconst 2, 1) := by decide +kernel
theorem dL_law_203 : decode cL_law 203 = .ok (.iadd, 1) := by decide +kernel
theorem dL_law_204 : decode cL_law 204 = .ok (.iaload, 1) := by decide +kernel
theorem dL_law_205 : decode cL_law 205 = .ok (.aload_n 0, 1) := by decide +kernel
theorem dL_law_206 : decode cL_law 206 = .ok (.iload 5, 2) := by decide +kernel
theorem dL_law_208 : decode cL_law 208 = .ok (.iconst 3, 1) := by decide +kernel
theorem dL_law_209 : decode cL_law 209 = .ok (.iadd, 1) := by decide +kernel
theorem dL_law_210 : decode cL_law 210 = .ok (.iaload, 1) := by decide +kernel
theorem dL_law_211 : decode cL_law 211 = .ok (.aload_n 3, 1) := by decide +kernel
theorem dL_law_212 : decode cL_law 212 = .ok (.invokestatic 128, 3) := by decide +kernel
theorem dL_law_215 : decode cL_law 215 = .ok (.istore 6, 2) := by decide +kernel
theorem dL_law_217 : decode cL_law 217 = .ok (.aload_n 2, 1) := by decide +kernel
theorem dL_law_218 : decode cL_law 218 = .ok (.aload_n 0, 1) := by decide +kernel
theorem dL_law_219 : decode cL_law 219 = .ok (.iload 5, 2) := by decide +kernel
theorem dL_law_221 : decode cL_law 221 = .ok (.iconst 1, 1) := by decide +kernel
theorem dL_law_222 : decode cL_law 222 = .ok (.iadd, 1) := by decide +kernel
theorem dL_law_223 : decode cL_law 223 = .ok (.iaload, 1) := by decide +kernel
theorem dL_law_224 : decode cL_law 224 = .ok (.aload_n 0, 1) := by decide +kernel
theorem dL_law_225 : decode cL_law 225 = .ok (.iload 5, 2) := by decide +kernel
theorem dL_law_227 : decode cL_law 227 = .ok (.iconst 2, 1) := by decide +kernel
theorem dL_law_228 : decode cL_law 228 = .ok (.iadd, 1) := by decide +kernel
theorem dL_law_229 : decode cL_law 229 = .ok (.iaload, 1) := by decide +kernel
theorem dL_law_230 : decode cL_law 230 = .ok (.aload_n 0, 1) := by decide +kernel
theorem dL_law_231 : decode cL_law 231 = .ok (.iload 5, 2) := by decide +kernel
theorem dL_law_233 : decode cL_law 233 = .ok (.iconst 3, 1) := by decide +kernel
theorem dL_law_234 : decode cL_law 234 = .ok (.iadd, 1) := by decide +kernel
theorem dL_law_235 : decode cL_law 235 = .ok (.iaload, 1) := by decide +kernel
theorem dL_law_236 : decode cL_law 236 = .ok (.invokevirtual 133, 3) := by decide +kernel
theorem dL_law_239 : decode cL_law 239 = .ok (.istore 7, 2) := by decide +kernel
theorem dL_law_241 : decode cL_law 241 = .ok (.aload_n 2, 1) := by decide +kernel
theorem dL_law_242 : decode cL_law 242 = .ok (.invokevirtual 134, 3) := by decide +kernel
theorem dL_law_245 : decode cL_law 245 = .ok (.iload 6, 2) := by decide +kernel
theorem dL_law_247 : decode cL_law 247 = .ok (.if_icmp .eq 5, 3) := by decide +kernel
theorem dL_law_250 : decode cL_law 250 = .ok (.iconst 0, 1) := by decide +kernel
theorem dL_law_251 : decode cL_law 251 = .ok (.ireturn, 1) := by decide +kernel
theorem dL_law_252 : decode cL_law 252 = .ok (.iload 6, 2) := by decide +kernel
theorem dL_law_254 : decode cL_law 254 = .ok (.ifCond .ne 15, 3) := by decide +kernel
theorem dL_law_257 : decode cL_law 257 = .ok (.aload_n 3, 1) := by decide +kernel
theorem dL_law_258 : decode cL_law 258 = .ok (.iconst 0, 1) := by decide +kernel
theorem dL_law_259 : decode cL_law 259 = .ok (.laload, 1) := by decide +kernel
theorem dL_law_260 : decode cL_law 260 = .ok (.iload 7, 2) := by decide +kernel
theorem dL_law_262 : decode cL_law 262 = .ok (.i2l, 1) := by decide +kernel
theorem dL_law_263 : decode cL_law 263 = .ok (.lcmp, 1) := by decide +kernel
theorem dL_law_264 : decode cL_law 264 = .ok (.ifCond .eq 5, 3) := by decide +kernel
theorem dL_law_267 : decode cL_law 267 = .ok (.iconst 0, 1) := by decide +kernel
theorem dL_law_268 : decode cL_law 268 = .ok (.ireturn, 1) := by decide +kernel
theorem dL_law_269 : decode cL_law 269 = .ok (.goto 1978, 3) := by decide +kernel
theorem dL_law_272 : decode cL_law 272 = .ok (.aload_n 1, 1) := by decide +kernel
theorem dL_law_273 : decode cL_law 273 = .ok (.aload_n 0, 1) := by decide +kernel
theorem dL_law_274 : decode cL_law 274 = .ok (.iload 5, 2) := by decide +kernel
theorem dL_law_276 : decode cL_law 276 = .ok (.iconst 1, 1) := by decide +kernel
theorem dL_law_277 : decode cL_law 277 = .ok (.iadd, 1) := by decide +kernel
theorem dL_law_278 : decode cL_law 278 = .ok (.iaload, 1) := by decide +kernel
theorem dL_law_279 : decode cL_law 279 = .ok (.aload_n 0, 1) := by decide +kernel
theorem dL_law_280 : decode cL_law 280 = .ok (.iload 5, 2) := by decide +kernel
theorem dL_law_282 : decode cL_law 282 = .ok (.iconst 2, 1) := by decide +kernel
theorem dL_law_283 : decode cL_law 283 = .ok (.iadd, 1) := by decide +kernel
theorem dL_law_284 : decode cL_law 284 = .ok (.iaload, 1) := by decide +kernel
theorem dL_law_285 : decode cL_law 285 = .ok (.ifCond .eq 7, 3) := by decide +kernel
theorem dL_law_288 : decode cL_law 288 = .ok (.iconst 1, 1) := by decide +kernel
theorem dL_law_289 : decode cL_law 289 = .ok (.goto 4, 3) := by decide +kernel
theorem dL_law_292 : decode cL_law 292 = .ok (.iconst 0, 1) := by decide +kernel
theorem dL_law_293 : decode cL_law 293 = .ok (.aload_n 3, 1) := by decide +kernel
theorem dL_law_294 : decode cL_law 294 = .ok (.invokestatic 137, 3) := by decide +kernel
theorem dL_law_297 : decode cL_law 297 = .ok (.istore 6, 2) := by decide +kernel
theorem dL_law_299 : decode cL_law 299 = .ok (.aload_n 2, 1) := by decide +kernel
theorem dL_law_300 : decode cL_law 300 = .ok (.aload_n 0, 1) := by decide +kernel
theorem dL_law_301 : decode cL_law 301 = .ok (.iload 5, 2) := by decide +kernel
theorem dL_law_303 : decode cL_law 303 = .ok (.iconst 1, 1) := by decide +kernel
theorem dL_law_304 : decode cL_law 304 = .ok (.iadd, 1) := by decide +kernel
theorem dL_law_305 : decode cL_law 305 = .ok (.iaload, 1) := by decide +kernel
theorem dL_law_306 : decode cL_law 306 = .ok (.aload_n 0, 1) := by decide +kernel
theorem dL_law_307 : decode cL_law 307 = .ok (.iload 5, 2) := by decide +kernel
theorem dL_law_309 : decode cL_law 309 = .ok (.iconst 2, 1) := by decide +kernel
theorem dL_law_310 : decode cL_law 310 = .ok (.iadd, 1) := by decide +kernel
theorem dL_law_311 : decode cL_law 311 = .ok (.iaload, 1) := by decide +kernel
theorem dL_law_312 : decode cL_law 312 = .ok (.ifCond .eq 7, 3) := by decide +kernel
theorem dL_law_315 : decode cL_law 315 = .ok (.iconst 1, 1) := by decide +kernel
theorem dL_law_316 : decode cL_law 316 = .ok (.goto 4, 3) := by decide +kernel
theorem dL_law_319 : decode cL_law 319 = .ok (.iconst 0, 1) := by decide +kernel
theorem dL_law_320 : decode cL_law 320 = .ok (.invokevirtual 140, 3) := by decide +kernel
theorem dL_law_323 : decode cL_law 323 = .ok (.istore 7, 2) := by decide +kernel
theorem dL_law_325 : decode cL_law 325 = .ok (.aload_n 2, 1) := by decide +kernel
theorem dL_law_326 : decode cL_law 326 = .ok (.invokevirtual 134, 3) := by decide +kernel
theorem dL_law_329 : decode cL_law 329 = .ok (.iload 6, 2) := by decide +kernel
theorem dL_law_331 : decode cL_law 331 = .ok (.if_icmp .eq 5, 3) := by decide +kernel
theorem dL_law_334 : decode cL_law 334 = .ok (.iconst 0, 1) := by decide +kernel
theorem dL_law_335 : decode cL_law 335 = .ok (.ireturn, 1) := by decide +kernel
theorem dL_law_336 : decode cL_law 336 = .ok (.iload 6, 2) := by decide +kernel
theorem dL_law_338 : decode cL_law 338 = .ok (.ifCond .ne 22, 3) := by decide +kernel
theorem dL_law_341 : decode cL_law 341 = .ok (.aload_n 3, 1) := by decide +kernel
theorem dL_law_342 : decode cL_law 342 = .ok (.iconst 0, 1) := by decide +kernel
theorem dL_law_343 : decode cL_law 343 = .ok (.laload, 1) := by decide +kernel
theorem dL_law_344 : decode cL_law 344 = .ok (.iload 7, 2) := by decide +kernel
theorem dL_law_346 : decode cL_law 346 = .ok (.ifCond .eq 7, 3) := by decide +kernel
theorem dL_law_349 : decode cL_law 349 = .ok (.lconst 1, 1) := by decide +kernel
theorem dL_law_350 : decode cL_law 350 = .ok (.goto 4, 3) := by decide +kernel
theorem dL_law_353 : decode cL_law 353 = .ok (.lconst 0, 1) := by decide +kernel
theorem dL_law_354 : decode cL_law 354 = .ok (.lcmp, 1) := by decide +kernel
theorem dL_law_355 : decode cL_law 355 = .ok (.ifCond .eq 5, 3) := by decide +kernel
theorem dL_law_358 : decode cL_law 358 = .ok (.iconst 0, 1) := by decide +kernel
theorem dL_law_359 : decode cL_law 359 = .ok (.ireturn, 1) := by decide +kernel
theorem dL_law_360 : decode cL_law 360 = .ok (.goto 1887, 3) := by decide +kernel
theorem dL_law_363 : decode cL_law 363 = .ok (.aload_n 1, 1) := by decide +kernel
theorem dL_law_364 : decode cL_law 364 = .ok (.aload_n 0, 1) := by decide +kernel
theorem dL_law_365 : decode cL_law 365 = .ok (.iload 5, 2) := by decide +kernel
theorem dL_law_367 : decode cL_law 367 = .ok (.iconst 1, 1) := by decide +kernel
theorem dL_law_368 : decode cL_law 368 = .ok (.iadd, 1) := by decide +kernel
theorem dL_law_369 : decode cL_law 369 = .ok (.iaload, 1) := by decide +kernel
theorem dL_law_370 : decode cL_law 370 = .ok (.aload_n 3, 1) := by decide +kernel
theorem dL_law_371 : decode cL_law 371 = .ok (.invokestatic 141, 3) := by decide +kernel
theorem dL_law_374 : decode cL_law 374 = .ok (.istore 6, 2) := by decide +kernel
theorem dL_law_376 : decode cL_law 376 = .ok (.aload_n 2, 1) := by decide +kernel
theorem dL_law_377 : decode cL_law 377 = .ok (.aload_n 0, 1) := by decide +kernel
theorem dL_law_378 : decode cL_law 378 = .ok (.iload 5, 2) := by decide +kernel
theorem dL_law_380 : decode cL_law 380 = .ok (.iconst 1, 1) := by decide +kernel
theorem dL_law_381 : decode cL_law 381 = .ok (.iadd, 1) := by decide +kernel
theorem dL_law_382 : decode cL_law 382 = .ok (.iaload, 1) := by decide +kernel
theorem dL_law_383 : decode cL_law 383 = .ok (.invokevirtual 144, 3) := by decide +kernel
theorem dL_law_386 : decode cL_law 386 = .ok (.istore 7, 2) := by decide +kernel
theorem dL_law_388 : decode cL_law 388 = .ok (.aload_n 2, 1) := by decide +kernel
theorem dL_law_389 : decode cL_law 389 = .ok (.invokevirtual 134, 3) := by decide +kernel
theorem dL_law_392 : decode cL_law 392 = .ok (.iload 6, 2) := by decide +kernel
theorem dL_law_394 : decode cL_law 394 = .ok (.if_icmp .eq 5, 3) := by decide +kernel
theorem dL_law_397 : decode cL_law 397 = .ok (.iconst 0, 1) := by decide +kernel
theorem dL_law_398 : decode cL_law 398 = .ok (.ireturn, 1) := by decide +kernel
theorem dL_law_399 : decode cL_law 399 = .ok (.iload 6, 2) := by decide +kernel
theorem dL_law_401 : decode cL_law 401 = .ok (.ifCond .ne 15, 3) := by decide +kernel
theorem dL_law_404 : decode cL_law 404 = .ok (.aload_n 3, 1) := by decide +kernel
theorem dL_law_405 : decode cL_law 405 = .ok (.iconst 0, 1) := by decide +kernel
theorem dL_law_406 : decode cL_law 406 = .ok (.laload, 1) := by decide +kernel
theorem dL_law_407 : decode cL_law 407 = .ok (.iload 7, 2) := by decide +kernel
theorem dL_law_409 : decode cL_law 409 = .ok (.i2l, 1) := by decide +kernel
theorem dL_law_410 : decode cL_law 410 = .ok (.lcmp, 1) := by decide +kernel
theorem dL_law_411 : decode cL_law 411 = .ok (.ifCond .eq 5, 3) := by decide +kernel
theorem dL_law_414 : decode cL_law 414 = .ok (.iconst 0, 1) := by decide +kernel
theorem dL_law_415 : decode cL_law 415 = .ok (.ireturn, 1) := by decide +kernel
theorem dL_law_416 : decode cL_law 416 = .ok (.goto 1831, 3) := by decide +kernel
theorem dL_law_419 : decode cL_law 419 = .ok (.aload_n 1, 1) := by decide +kernel
theorem dL_law_420 : decode cL_law 420 = .ok (.aload_n 0, 1) := by decide +kernel
theorem dL_law_421 : decode cL_law 421 = .ok (.iload 5, 2) := by decide +kernel
theorem dL_law_423 : decode cL_law 423 = .ok (.iconst 1, 1) := by decide +kernel
theorem dL_law_424 : decode cL_law 424 = .ok (.iadd, 1) := by decide +kernel
theorem dL_law_425 : decode cL_law 425 = .ok (.iaload, 1) := by decide +kernel
theorem dL_law_426 : decode cL_law 426 = .ok (.aload_n 0, 1) := by decide +kernel
theorem dL_law_427 : decode cL_law 427 = .ok (.iload 5, 2) := by decide +kernel
theorem dL_law_429 : decode cL_law 429 = .ok (.iconst 2, 1) := by decide +kernel
theorem dL_law_430 : decode cL_law 430 = .ok (.iadd, 1) := by decide +kernel
theorem dL_law_431 : decode cL_law 431 = .ok (.iaload, 1) := by decide +kernel
theorem dL_law_432 : decode cL_law 432 = .ok (.aload_n 0, 1) := by decide +kernel
theorem dL_law_433 : decode cL_law 433 = .ok (.iload 5, 2) := by decide +kernel
theorem dL_law_435 : decode cL_law 435 = .ok (.iconst 3, 1) := by decide +kernel
theorem dL_law_436 : decode cL_law 436 = .ok (.iadd, 1) := by decide +kernel
theorem dL_law_437 : decode cL_law 437 = .ok (.iaload, 1) := by decide +kernel
theorem dL_law_438 : decode cL_law 438 = .ok (.aload_n 0, 1) := by decide +kernel
theorem dL_law_439 : decode cL_law 439 = .ok (.iload 5, 2) := by decide +kernel
theorem dL_law_441 : decode cL_law 441 = .ok (.iconst 4, 1) := by decide +kernel
theorem dL_law_442 : decode cL_law 442 = .ok (.iadd, 1) := by decide +kernel
theorem dL_law_443 : decode cL_law 443 = .ok (.iaload, 1) := by decide +kernel
theorem dL_law_444 : decode cL_law 444 = .ok (.aload_n 3, 1) := by decide +kernel
theorem dL_law_445 : decode cL_law 445 = .ok (.invokestatic 145, 3) := by decide +kernel
theorem dL_law_448 : decode cL_law 448 = .ok (.istore 6, 2) := by decide +kernel
theorem dL_law_450 : decode cL_law 450 = .ok (.aload_n 2, 1) := by decide +kernel
theorem dL_law_451 : decode cL_law 451 = .ok (.aload_n 0, 1) := by decide +kernel
theorem dL_law_452 : decode cL_law 452 = .ok (.iload 5, 2) := by decide +kernel
theorem dL_law_454 : decode cL_law 454 = .ok (.iconst 1, 1) := by decide +kernel
theorem dL_law_455 : decode cL_law 455 = .ok (.iadd, 1) := by decide +kernel
theorem dL_law_456 : decode cL_law 456 = .ok (.iaload, 1) := by decide +kernel
theorem dL_law_457 : decode cL_law 457 = .ok (.aload_n 0, 1) := by decide +kernel
theorem dL_law_458 : decode cL_law 458 = .ok (.iload 5, 2) := by decide +kernel
theorem dL_law_460 : decode cL_law 460 = .ok (.iconst 2, 1) := by decide +kernel
theorem dL_law_461 : decode cL_law 461 = .ok (.iadd, 1) := by decide +kernel
theorem dL_law_462 : decode cL_law 462 = .ok (.iaload, 1) := by decide +kernel
theorem dL_law_463 : decode cL_law 463 = .ok (.aload_n 0, 1) := by decide +kernel
theorem dL_law_464 : decode cL_law 464 = .ok (.iload 5, 2) := by decide +kernel
theorem dL_law_466 : decode cL_law 466 = .ok (.iconst 3, 1) := by decide +kernel
theorem dL_law_467 : decode cL_law 467 = .ok (.iadd, 1) := by decide +kernel
theorem dL_law_468 : decode cL_law 468 = .ok (.iaload, 1) := by decide +kernel
theorem dL_law_469 : decode cL_law 469 = .ok (.aload_n 0, 1) := by decide +kernel
theorem dL_law_470 : decode cL_law 470 = .ok (.iload 5, 2) := by decide +kernel
theorem dL_law_472 : decode cL_law 472 = .ok (.iconst 4, 1) := by decide +kernel
theorem dL_law_473 : decode cL_law 473 = .ok (.iadd, 1) := by decide +kernel
theorem dL_law_474 : decode cL_law 474 = .ok (.iaload, 1) := by decide +kernel
theorem dL_law_475 : decode cL_law 475 = .ok (.invokevirtual 148, 3) := by decide +kernel
theorem dL_law_478 : decode cL_law 478 = .ok (.istore 7, 2) := by decide +kernel
theorem dL_law_480 : decode cL_law 480 = .ok (.aload_n 2, 1) := by decide +kernel
theorem dL_law_481 : decode cL_law 481 = .ok (.invokevirtual 134, 3) := by decide +kernel
theorem dL_law_484 : decode cL_law 484 = .ok (.iload 6, 2) := by decide +kernel
theorem dL_law_486 : decode cL_law 486 = .ok (.if_icmp .eq 5, 3) := by decide +kernel
theorem dL_law_489 : decode cL_law 489 = .ok (.iconst 0, 1) := by decide +kernel
theorem dL_law_490 : decode cL_law 490 = .ok (.ireturn, 1) := by decide +kernel
theorem dL_law_491 : decode cL_law 491 = .ok (.iload 6, 2) := by decide +kernel
theorem dL_law_493 : decode cL_law 493 = .ok (.ifCond .ne 15, 3) := by decide +kernel
theorem dL_law_496 : decode cL_law 496 = .ok (.aload_n 3, 1) := by decide +kernel
theorem dL_law_497 : decode cL_law 497 = .ok (.iconst 0, 1) := by decide +kernel
theorem dL_law_498 : decode cL_law 498 = .ok (.laload, 1) := by decide +kernel
theorem dL_law_499 : decode cL_law 499 = .ok (.iload 7, 2) := by decide +kernel
theorem dL_law_501 : decode cL_law 501 = .ok (.i2l, 1) := by decide +kernel
theorem dL_law_502 : decode cL_law 502 = .ok (.lcmp, 1) := by decide +kernel
theorem dL_law_503 : decode cL_law 503 = .ok (.ifCond .eq 5, 3) := by decide +kernel
theorem dL_law_506 : decode cL_law 506 = .ok (.iconst 0, 1) := by decide +kernel
theorem dL_law_507 : decode cL_law 507 = .ok (.ireturn, 1) := by decide +kernel
theorem dL_law_508 : decode cL_law 508 = .ok (.goto 1739, 3) := by decide +kernel
theorem dL_law_511 : decode cL_law 511 = .ok (.aload_n 1, 1) := by decide +kernel
theorem dL_law_512 : decode cL_law 512 = .ok (.aload_n 0, 1) := by decide +kernel
theorem dL_law_513 : decode cL_law 513 = .ok (.iload 5, 2) := by decide +kernel
theorem dL_law_515 : decode cL_law 515 = .ok (.iconst 1, 1) := by decide +kernel
theorem dL_law_516 : decode cL_law 516 = .ok (.iadd, 1) := by decide +kernel
theorem dL_law_517 : decode cL_law 517 = .ok (.iaload, 1) := by decide +kernel
theorem dL_law_518 : decode cL_law 518 = .ok (.aload_n 0, 1) := by decide +kernel
theorem dL_law_519 : decode cL_law 519 = .ok (.iload 5, 2) := by decide +kernel
theorem dL_law_521 : decode cL_law 521 = .ok (.iconst 2, 1) := by decide +kernel
theorem dL_law_522 : decode cL_law 522 = .ok (.iadd, 1) := by decide +kernel
theorem dL_law_523 : decode cL_law 523 = .ok (.iaload, 1) := by decide +kernel
theorem dL_law_524 : decode cL_law 524 = .ok (.aload_n 0, 1) := by decide +kernel
theorem dL_law_525 : decode cL_law 525 = .ok (.iload 5, 2) := by decide +kernel
theorem dL_law_527 : decode cL_law 527 = .ok (.iconst 3, 1) := by decide +kernel
theorem dL_law_528 : decode cL_law 528 = .ok (.iadd, 1) := by decide +kernel
theorem dL_law_529 : decode cL_law 529 = .ok (.iaload, 1) := by decide +kernel
theorem dL_law_530 : decode cL_law 530 = .ok (.aload_n 3, 1) := by decide +kernel
theorem dL_law_531 : decode cL_law 531 = .ok (.invokestatic 149, 3) := by decide +kernel
theorem dL_law_534 : decode cL_law 534 = .ok (.istore 6, 2) := by decide +kernel
theorem dL_law_536 : decode cL_law 536 = .ok (.aload_n 2, 1) := by decide +kernel
theorem dL_law_537 : decode cL_law 537 = .ok (.aload_n 0, 1) := by decide +kernel
theorem dL_law_538 : decode cL_law 538 = .ok (.iload 5, 2) := by decide +kernel
theorem dL_law_540 : decode cL_law 540 = .ok (.iconst 1, 1) := by decide +kernel
theorem dL_law_541 : decode cL_law 541 = .ok (.iadd, 1) := by decide +kernel
theorem dL_law_542 : decode cL_law 542 = .ok (.iaload, 1) := by decide +kernel
theorem dL_law_543 : decode cL_law 543 = .ok (.aload_n 0, 1) := by decide +kernel
theorem dL_law_544 : decode cL_law 544 = .ok (.iload 5, 2) := by decide +kernel
theorem dL_law_546 : decode cL_law 546 = .ok (.iconst 2, 1) := by decide +kernel
theorem dL_law_547 : decode cL_law 547 = .ok (.iadd, 1) := by decide +kernel
theorem dL_law_548 : decode cL_law 548 = .ok (.iaload, 1) := by decide +kernel
theorem dL_law_549 : decode cL_law 549 = .ok (.aload_n 0, 1) := by decide +kernel
theorem dL_law_550 : decode cL_law 550 = .ok (.iload 5, 2) := by decide +kernel
theorem dL_law_552 : decode cL_law 552 = .ok (.iconst 3, 1) := by decide +kernel
theorem dL_law_553 : decode cL_law 553 = .ok (.iadd, 1) := by decide +kernel
theorem dL_law_554 : decode cL_law 554 = .ok (.iaload, 1) := by decide +kernel
theorem dL_law_555 : decode cL_law 555 = .ok (.invokevirtual 151, 3) := by decide +kernel
theorem dL_law_558 : decode cL_law 558 = .ok (.istore 7, 2) := by decide +kernel
theorem dL_law_560 : decode cL_law 560 = .ok (.aload_n 2, 1) := by decide +kernel
theorem dL_law_561 : decode cL_law 561 = .ok (.invokevirtual 134, 3) := by decide +kernel
theorem dL_law_564 : decode cL_law 564 = .ok (.iload 6, 2) := by decide +kernel
theorem dL_law_566 : decode cL_law 566 = .ok (.if_icmp .eq 5, 3) := by decide +kernel
theorem dL_law_569 : decode cL_law 569 = .ok (.iconst 0, 1) := by decide +kernel
theorem dL_law_570 : decode cL_law 570 = .ok (.ireturn, 1) := by decide +kernel
theorem dL_law_571 : decode cL_law 571 = .ok (.iload 6, 2) := by decide +kernel
theorem dL_law_573 : decode cL_law 573 = .ok (.ifCond .ne 15, 3) := by decide +kernel
theorem dL_law_576 : decode cL_law 576 = .ok (.aload_n 3, 1) := by decide +kernel
theorem dL_law_577 : decode cL_law 577 = .ok (.iconst 0, 1) := by decide +kernel
theorem dL_law_578 : decode cL_law 578 = .ok (.laload, 1) := by decide +kernel
theorem dL_law_579 : decode cL_law 579 = .ok (.iload 7, 2) := by decide +kernel
theorem dL_law_581 : decode cL_law 581 = .ok (.i2l, 1) := by decide +kernel
theorem dL_law_582 : decode cL_law 582 = .ok (.lcmp, 1) := by decide +kernel
theorem dL_law_583 : decode cL_law 583 = .ok (.ifCond .eq 5, 3) := by decide +kernel
theorem dL_law_586 : decode cL_law 586 = .ok (.iconst 0, 1) := by decide +kernel
theorem dL_law_587 : decode cL_law 587 = .ok (.ireturn, 1) := by decide +kernel
theorem dL_law_588 : decode cL_law 588 = .ok (.goto 1659, 3) := by decide +kernel
theorem dL_law_591 : decode cL_law 591 = .ok (.aload_n 1, 1) := by decide +kernel
theorem dL_law_592 : decode cL_law 592 = .ok (.aload_n 0, 1) := by decide +kernel
theorem dL_law_593 : decode cL_law 593 = .ok (.iload 5, 2) := by decide +kernel
theorem dL_law_595 : decode cL_law 595 = .ok (.iconst 1, 1) := by decide +kernel
theorem dL_law_596 : decode cL_law 596 = .ok (.iadd, 1) := by decide +kernel
theorem dL_law_597 : decode cL_law 597 = .ok (.iaload, 1) := by decide +kernel
theorem dL_law_598 : decode cL_law 598 = .ok (.aload_n 3, 1) := by decide +kernel
theorem dL_law_599 : decode cL_law 599 = .ok (.invokestatic 152, 3) := by decide +kernel
theorem dL_law_602 : decode cL_law 602 = .ok (.istore 6, 2) := by decide +kernel
theorem dL_law_604 : decode cL_law 604 = .ok (.aload_n 2, 1) := by decide +kernel
theorem dL_law_605 : decode cL_law 605 = .ok (.aload_n 0, 1) := by decide +kernel
theorem dL_law_606 : decode cL_law 606 = .ok (.iload 5, 2) := by decide +kernel
theorem dL_law_608 : decode cL_law 608 = .ok (.iconst 1, 1) := by decide +kernel
theorem dL_law_609 : decode cL_law 609 = .ok (.iadd, 1) := by decide +kernel
theorem dL_law_610 : decode cL_law 610 = .ok (.iaload, 1) := by decide +kernel
theorem dL_law_611 : decode cL_law 611 = .ok (.invokevirtual 154, 3) := by decide +kernel
theorem dL_law_614 : decode cL_law 614 = .ok (.istore 7, 2) := by decide +kernel
theorem dL_law_616 : decode cL_law 616 = .ok (.aload_n 2, 1) := by decide +kernel
theorem dL_law_617 : decode cL_law 617 = .ok (.invokevirtual 134, 3) := by decide +kernel
theorem dL_law_620 : decode cL_law 620 = .ok (.iload 6, 2) := by decide +kernel
theorem dL_law_622 : decode cL_law 622 = .ok (.if_icmp .eq 5, 3) := by decide +kernel
theorem dL_law_625 : decode cL_law 625 = .ok (.iconst 0, 1) := by decide +kernel
theorem dL_law_626 : decode cL_law 626 = .ok (.ireturn, 1) := by decide +kernel
theorem dL_law_627 : decode cL_law 627 = .ok (.iload 6, 2) := by decide +kernel
theorem dL_law_629 : decode cL_law 629 = .ok (.ifCond .ne 15, 3) := by decide +kernel
theorem dL_law_632 : decode cL_law 632 = .ok (.aload_n 3, 1) := by decide +kernel
theorem dL_law_633 : decode cL_law 633 = .ok (.iconst 0, 1) := by decide +kernel
theorem dL_law_634 : decode cL_law 634 = .ok (.laload, 1) := by decide +kernel
theorem dL_law_635 : decode cL_law 635 = .ok (.iload 7, 2) := by decide +kernel
theorem dL_law_637 : decode cL_law 637 = .ok (.i2l, 1) := by decide +kernel
theorem dL_law_638 : decode cL_law 638 = .ok (.lcmp, 1) := by decide +kernel
theorem dL_law_639 : decode cL_law 639 = .ok (.ifCond .eq 5, 3) := by decide +kernel
theorem dL_law_642 : decode cL_law 642 = .ok (.iconst 0, 1) := by decide +kernel
theorem dL_law_643 : decode cL_law 643 = .ok (.ireturn, 1) := by decide +kernel
theorem dL_law_644 : decode cL_law 644 = .ok (.goto 1603, 3) := by decide +kernel
theorem dL_law_647 : decode cL_law 647 = .ok (.aload_n 1, 1) := by decide +kernel
theorem dL_law_648 : decode cL_law 648 = .ok (.aload_n 0, 1) := by decide +kernel
theorem dL_law_649 : decode cL_law 649 = .ok (.iload 5, 2) := by decide +kernel
theorem dL_law_651 : decode cL_law 651 = .ok (.iconst 1, 1) := by decide +kernel
theorem dL_law_652 : decode cL_law 652 = .ok (.iadd, 1) := by decide +kernel
theorem dL_law_653 : decode cL_law 653 = .ok (.iaload, 1) := by decide +kernel
theorem dL_law_654 : decode cL_law 654 = .ok (.aload_n 0, 1) := by decide +kernel
theorem dL_law_655 : decode cL_law 655 = .ok (.iload 5, 2) := by decide +kernel
theorem dL_law_657 : decode cL_law 657 = .ok (.iconst 2, 1) := by decide +kernel
theorem dL_law_658 : decode cL_law 658 = .ok (.iadd, 1) := by decide +kernel
theorem dL_law_659 : decode cL_law 659 = .ok (.iaload, 1) := by decide +kernel
theorem dL_law_660 : decode cL_law 660 = .ok (.aload_n 0, 1) := by decide +kernel
theorem dL_law_661 : decode cL_law 661 = .ok (.iload 5, 2) := by decide +kernel
theorem dL_law_663 : decode cL_law 663 = .ok (.iconst 3, 1) := by decide +kernel
theorem dL_law_664 : decode cL_law 664 = .ok (.iadd, 1) := by decide +kernel
theorem dL_law_665 : decode cL_law 665 = .ok (.iaload, 1) := by decide +kernel
theorem dL_law_666 : decode cL_law 666 = .ok (.ifCond .eq 7, 3) := by decide +kernel
theorem dL_law_669 : decode cL_law 669 = .ok (.iconst 1, 1) := by decide +kernel
theorem dL_law_670 : decode cL_law 670 = .ok (.goto 4, 3) := by decide +kernel
theorem dL_law_673 : decode cL_law 673 = .ok (.iconst 0, 1) := by decide +kernel
theorem dL_law_674 : decode cL_law 674 = .ok (.aload_n 3, 1) := by decide +kernel
theorem dL_law_675 : decode cL_law 675 = .ok (.invokestatic 155, 3) := by decide +kernel
theorem dL_law_678 : decode cL_law 678 = .ok (.istore 6, 2) := by decide +kernel
theorem dL_law_680 : decode cL_law 680 = .ok (.aload_n 2, 1) := by decide +kernel
theorem dL_law_681 : decode cL_law 681 = .ok (.aload_n 0, 1) := by decide +kernel
theorem dL_law_682 : decode cL_law 682 = .ok (.iload 5, 2) := by decide +kernel
theorem dL_law_684 : decode cL_law 684 = .ok (.iconst 1, 1) := by decide +kernel
theorem dL_law_685 : decode cL_law 685 = .ok (.iadd, 1) := by decide +kernel
theorem dL_law_686 : decode cL_law 686 = .ok (.iaload, 1) := by decide +kernel
theorem dL_law_687 : decode cL_law 687 = .ok (.aload_n 0, 1) := by decide +kernel
theorem dL_law_688 : decode cL_law 688 = .ok (.iload 5, 2) := by decide +kernel
theorem dL_law_690 : decode cL_law 690 = .ok (.iconst 2, 1) := by decide +kernel
theorem dL_law_691 : decode cL_law 691 = .ok (.iadd, 1) := by decide +kernel
theorem dL_law_692 : decode cL_law 692 = .ok (.iaload, 1) := by decide +kernel
theorem dL_law_693 : decode cL_law 693 = .ok (.aload_n 0, 1) := by decide +kernel
theorem dL_law_694 : decode cL_law 694 = .ok (.iload 5, 2) := by decide +kernel
theorem dL_law_696 : decode cL_law 696 = .ok (.iconst 3, 1) := by decide +kernel
theorem dL_law_697 : decode cL_law 697 = .ok (.iadd, 1) := by decide +kernel
theorem dL_law_698 : decode cL_law 698 = .ok (.iaload, 1) := by decide +kernel
theorem dL_law_699 : decode cL_law 699 = .ok (.ifCond .eq 7, 3) := by decide +kernel
theorem dL_law_702 : decode cL_law 702 = .ok (.iconst 1, 1) := by decide +kernel
theorem dL_law_703 : decode cL_law 703 = .ok (.goto 4, 3) := by decide +kernel
theorem dL_law_706 : decode cL_law 706 = .ok (.iconst 0, 1) := by decide +kernel
theorem dL_law_707 : decode cL_law 707 = .ok (.invokevirtual 158, 3) := by decide +kernel
theorem dL_law_710 : decode cL_law 710 = .ok (.istore 7, 2) := by decide +kernel
theorem dL_law_712 : decode cL_law 712 = .ok (.aload_n 2, 1) := by decide +kernel
theorem dL_law_713 : decode cL_law 713 = .ok (.invokevirtual 134, 3) := by decide +kernel
theorem dL_law_716 : decode cL_law 716 = .ok (.iload 6, 2) := by decide +kernel
theorem dL_law_718 : decode cL_law 718 = .ok (.if_icmp .eq 5, 3) := by decide +kernel
theorem dL_law_721 : decode cL_law 721 = .ok (.iconst 0, 1) := by decide +kernel
theorem dL_law_722 : decode cL_law 722 = .ok (.ireturn, 1) := by decide +kernel
theorem dL_law_723 : decode cL_law 723 = .ok (.iload 6, 2) := by decide +kernel
theorem dL_law_725 : decode cL_law 725 = .ok (.ifCond .ne 15, 3) := by decide +kernel
theorem dL_law_728 : decode cL_law 728 = .ok (.aload_n 3, 1) := by decide +kernel
theorem dL_law_729 : decode cL_law 729 = .ok (.iconst 0, 1) := by decide +kernel
theorem dL_law_730 : decode cL_law 730 = .ok (.laload, 1) := by decide +kernel
theorem dL_law_731 : decode cL_law 731 = .ok (.iload 7, 2) := by decide +kernel
theorem dL_law_733 : decode cL_law 733 = .ok (.i2l, 1) := by decide +kernel
theorem dL_law_734 : decode cL_law 734 = .ok (.lcmp, 1) := by decide +kernel
theorem dL_law_735 : decode cL_law 735 = .ok (.ifCond .eq 5, 3) := by decide +kernel
theorem dL_law_738 : decode cL_law 738 = .ok (.iconst 0, 1) := by decide +kernel
theorem dL_law_739 : decode cL_law 739 = .ok (.ireturn, 1) := by decide +kernel
theorem dL_law_740 : decode cL_law 740 = .ok (.goto 1507, 3) := by decide +kernel
theorem dL_law_743 : decode cL_law 743 = .ok (.aload_n 1, 1) := by decide +kernel
theorem dL_law_744 : decode cL_law 744 = .ok (.aload_n 0, 1) := by decide +kernel
theorem dL_law_745 : decode cL_law 745 = .ok (.iload 5, 2) := by decide +kernel
theorem dL_law_747 : decode cL_law 747 = .ok (.iconst 1, 1) := by decide +kernel
theorem dL_law_748 : decode cL_law 748 = .ok (.iadd, 1) := by decide +kernel
theorem dL_law_749 : decode cL_law 749 = .ok (.iaload, 1) := by decide +kernel
theorem dL_law_750 : decode cL_law 750 = .ok (.aload_n 0, 1) := by decide +kernel
theorem dL_law_751 : decode cL_law 751 = .ok (.iload 5, 2) := by decide +kernel
theorem dL_law_753 : decode cL_law 753 = .ok (.iconst 2, 1) := by decide +kernel
theorem dL_law_754 : decode cL_law 754 = .ok (.iadd, 1) := by decide +kernel
theorem dL_law_755 : decode cL_law 755 = .ok (.iaload, 1) := by decide +kernel
theorem dL_law_756 : decode cL_law 756 = .ok (.aload_n 3, 1) := by decide +kernel
theorem dL_law_757 : decode cL_law 757 = .ok (.invokestatic 159, 3) := by decide +kernel
theorem dL_law_760 : decode cL_law 760 = .ok (.istore 6, 2) := by decide +kernel
theorem dL_law_762 : decode cL_law 762 = .ok (.aload_n 2, 1) := by decide +kernel
theorem dL_law_763 : decode cL_law 763 = .ok (.aload_n 0, 1) := by decide +kernel
theorem dL_law_764 : decode cL_law 764 = .ok (.iload 5, 2) := by decide +kernel
theorem dL_law_766 : decode cL_law 766 = .ok (.iconst 1, 1) := by decide +kernel
theorem dL_law_767 : decode cL_law 767 = .ok (.iadd, 1) := by decide +kernel
theorem dL_law_768 : decode cL_law 768 = .ok (.iaload, 1) := by decide +kernel
theorem dL_law_769 : decode cL_law 769 = .ok (.aload_n 0, 1) := by decide +kernel
theorem dL_law_770 : decode cL_law 770 = .ok (.iload 5, 2) := by decide +kernel
theorem dL_law_772 : decode cL_law 772 = .ok (.iconst 2, 1) := by decide +kernel
theorem dL_law_773 : decode cL_law 773 = .ok (.iadd, 1) := by decide +kernel
theorem dL_law_774 : decode cL_law 774 = .ok (.iaload, 1) := by decide +kernel
theorem dL_law_775 : decode cL_law 775 = .ok (.invokevirtual 162, 3) := by decide +kernel
theorem dL_law_778 : decode cL_law 778 = .ok (.istore 7, 2) := by decide +kernel
theorem dL_law_780 : decode cL_law 780 = .ok (.aload_n 2, 1) := by decide +kernel
theorem dL_law_781 : decode cL_law 781 = .ok (.invokevirtual 134, 3) := by decide +kernel
theorem dL_law_784 : decode cL_law 784 = .ok (.iload 6, 2) := by decide +kernel
theorem dL_law_786 : decode cL_law 786 = .ok (.if_icmp .eq 5, 3) := by decide +kernel
theorem dL_law_789 : decode cL_law 789 = .ok (.iconst 0, 1) := by decide +kernel
theorem dL_law_790 : decode cL_law 790 = .ok (.ireturn, 1) := by decide +kernel
theorem dL_law_791 : decode cL_law 791 = .ok (.iload 6, 2) := by decide +kernel
theorem dL_law_793 : decode cL_law 793 = .ok (.ifCond .ne 15, 3) := by decide +kernel
theorem dL_law_796 : decode cL_law 796 = .ok (.aload_n 3, 1) := by decide +kernel
theorem dL_law_797 : decode cL_law 797 = .ok (.iconst 0, 1) := by decide +kernel
theorem dL_law_798 : decode cL_law 798 = .ok (.laload, 1) := by decide +kernel
theorem dL_law_799 : decode cL_law 799 = .ok (.iload 7, 2) := by decide +kernel
theorem dL_law_801 : decode cL_law 801 = .ok (.i2l, 1) := by decide +kernel
end
section
theorem dL_law_802 : decode cL_law 802 = .ok (.lcmp, 1) := by decide +kernel
theorem dL_law_803 : decode cL_law 803 = .ok (.ifCond .eq 5, 3) := by decide +kernel
theorem dL_law_806 : decode cL_law 806 = .ok (.iconst 0, 1) := by decide +kernel
theorem dL_law_807 : decode cL_law 807 = .ok (.ireturn, 1) := by decide +kernel
theorem dL_law_808 : decode cL_law 808 = .ok (.goto 1439, 3) := by decide +kernel
theorem dL_law_811 : decode cL_law 811 = .ok (.aload_n 1, 1) := by decide +kernel
theorem dL_law_812 : decode cL_law 812 = .ok (.aload_n 0, 1) := by decide +kernel
theorem dL_law_813 : decode cL_law 813 = .ok (.iload 5, 2) := by decide +kernel
theorem dL_law_815 : decode cL_law 815 = .ok (.iconst 1, 1) := by decide +kernel
theorem dL_law_816 : decode cL_law 816 = .ok (.iadd, 1) := by decide +kernel
theorem dL_law_817 : decode cL_law 817 = .ok (.iaload, 1) := by decide +kernel
theorem dL_law_818 : decode cL_law 818 = .ok (.aload_n 0, 1) := by decide +kernel
theorem dL_law_819 : decode cL_law 819 = .ok (.iload 5, 2) := by decide +kernel
theorem dL_law_821 : decode cL_law 821 = .ok (.iconst 2, 1) := by decide +kernel
theorem dL_law_822 : decode cL_law 822 = .ok (.iadd, 1) := by decide +kernel
theorem dL_law_823 : decode cL_law 823 = .ok (.iaload, 1) := by decide +kernel
theorem dL_law_824 : decode cL_law 824 = .ok (.aload_n 3, 1) := by decide +kernel
theorem dL_law_825 : decode cL_law 825 = .ok (.invokestatic 163, 3) := by decide +kernel
theorem dL_law_828 : decode cL_law 828 = .ok (.istore 6, 2) := by decide +kernel
theorem dL_law_830 : decode cL_law 830 = .ok (.aload_n 2, 1) := by decide +kernel
theorem dL_law_831 : decode cL_law 831 = .ok (.aload_n 0, 1) := by decide +kernel
theorem dL_law_832 : decode cL_law 832 = .ok (.iload 5, 2) := by decide +kernel
theorem dL_law_834 : decode cL_law 834 = .ok (.iconst 1, 1) := by decide +kernel
theorem dL_law_835 : decode cL_law 835 = .ok (.iadd, 1) := by decide +kernel
theorem dL_law_836 : decode cL_law 836 = .ok (.iaload, 1) := by decide +kernel
theorem dL_law_837 : decode cL_law 837 = .ok (.aload_n 0, 1) := by decide +kernel
theorem dL_law_838 : decode cL_law 838 = .ok (.iload 5, 2) := by decide +kernel
theorem dL_law_840 : decode cL_law 840 = .ok (.iconst 2, 1) := by decide +kernel
theorem dL_law_841 : decode cL_law 841 = .ok (.iadd, 1) := by decide +kernel
theorem dL_law_842 : decode cL_law 842 = .ok (.iaload, 1) := by decide +kernel
theorem dL_law_843 : decode cL_law 843 = .ok (.invokevirtual 165, 3) := by decide +kernel
theorem dL_law_846 : decode cL_law 846 = .ok (.istore 7, 2) := by decide +kernel
theorem dL_law_848 : decode cL_law 848 = .ok (.aload_n 2, 1) := by decide +kernel
theorem dL_law_849 : decode cL_law 849 = .ok (.invokevirtual 134, 3) := by decide +kernel
theorem dL_law_852 : decode cL_law 852 = .ok (.iload 6, 2) := by decide +kernel
theorem dL_law_854 : decode cL_law 854 = .ok (.if_icmp .eq 5, 3) := by decide +kernel
theorem dL_law_857 : decode cL_law 857 = .ok (.iconst 0, 1) := by decide +kernel
theorem dL_law_858 : decode cL_law 858 = .ok (.ireturn, 1) := by decide +kernel
theorem dL_law_859 : decode cL_law 859 = .ok (.iload 6, 2) := by decide +kernel
theorem dL_law_861 : decode cL_law 861 = .ok (.ifCond .ne 15, 3) := by decide +kernel
theorem dL_law_864 : decode cL_law 864 = .ok (.aload_n 3, 1) := by decide +kernel
theorem dL_law_865 : decode cL_law 865 = .ok (.iconst 0, 1) := by decide +kernel
theorem dL_law_866 : decode cL_law 866 = .ok (.laload, 1) := by decide +kernel
theorem dL_law_867 : decode cL_law 867 = .ok (.iload 7, 2) := by decide +kernel
theorem dL_law_869 : decode cL_law 869 = .ok (.i2l, 1) := by decide +kernel
theorem dL_law_870 : decode cL_law 870 = .ok (.lcmp, 1) := by decide +kernel
theorem dL_law_871 : decode cL_law 871 = .ok (.ifCond .eq 5, 3) := by decide +kernel
theorem dL_law_874 : decode cL_law 874 = .ok (.iconst 0, 1) := by decide +kernel
theorem dL_law_875 : decode cL_law 875 = .ok (.ireturn, 1) := by decide +kernel
theorem dL_law_876 : decode cL_law 876 = .ok (.goto 1371, 3) := by decide +kernel
theorem dL_law_879 : decode cL_law 879 = .ok (.aload_n 1, 1) := by decide +kernel
theorem dL_law_880 : decode cL_law 880 = .ok (.aload_n 0, 1) := by decide +kernel
theorem dL_law_881 : decode cL_law 881 = .ok (.iload 5, 2) := by decide +kernel
theorem dL_law_883 : decode cL_law 883 = .ok (.iconst 1, 1) := by decide +kernel
theorem dL_law_884 : decode cL_law 884 = .ok (.iadd, 1) := by decide +kernel
theorem dL_law_885 : decode cL_law 885 = .ok (.iaload, 1) := by decide +kernel
theorem dL_law_886 : decode cL_law 886 = .ok (.aload_n 3, 1) := by decide +kernel
theorem dL_law_887 : decode cL_law 887 = .ok (.invokestatic 166, 3) := by decide +kernel
theorem dL_law_890 : decode cL_law 890 = .ok (.istore 6, 2) := by decide +kernel
theorem dL_law_892 : decode cL_law 892 = .ok (.aload_n 2, 1) := by decide +kernel
theorem dL_law_893 : decode cL_law 893 = .ok (.aload_n 0, 1) := by decide +kernel
theorem dL_law_894 : decode cL_law 894 = .ok (.iload 5, 2) := by decide +kernel
theorem dL_law_896 : decode cL_law 896 = .ok (.iconst 1, 1) := by decide +kernel
theorem dL_law_897 : decode cL_law 897 = .ok (.iadd, 1) := by decide +kernel
theorem dL_law_898 : decode cL_law 898 = .ok (.iaload, 1) := by decide +kernel
theorem dL_law_899 : decode cL_law 899 = .ok (.invokevirtual 168, 3) := by decide +kernel
theorem dL_law_902 : decode cL_law 902 = .ok (.istore 7, 2) := by decide +kernel
theorem dL_law_904 : decode cL_law 904 = .ok (.aload_n 2, 1) := by decide +kernel
theorem dL_law_905 : decode cL_law 905 = .ok (.invokevirtual 134, 3) := by decide +kernel
theorem dL_law_908 : decode cL_law 908 = .ok (.iload 6, 2) := by decide +kernel
theorem dL_law_910 : decode cL_law 910 = .ok (.if_icmp .eq 5, 3) := by decide +kernel
theorem dL_law_913 : decode cL_law 913 = .ok (.iconst 0, 1) := by decide +kernel
theorem dL_law_914 : decode cL_law 914 = .ok (.ireturn, 1) := by decide +kernel
theorem dL_law_915 : decode cL_law 915 = .ok (.iload 6, 2) := by decide +kernel
theorem dL_law_917 : decode cL_law 917 = .ok (.ifCond .ne 15, 3) := by decide +kernel
theorem dL_law_920 : decode cL_law 920 = .ok (.aload_n 3, 1) := by decide +kernel
theorem dL_law_921 : decode cL_law 921 = .ok (.iconst 0, 1) := by decide +kernel
theorem dL_law_922 : decode cL_law 922 = .ok (.laload, 1) := by decide +kernel
theorem dL_law_923 : decode cL_law 923 = .ok (.iload 7, 2) := by decide +kernel
theorem dL_law_925 : decode cL_law 925 = .ok (.i2l, 1) := by decide +kernel
theorem dL_law_926 : decode cL_law 926 = .ok (.lcmp, 1) := by decide +kernel
theorem dL_law_927 : decode cL_law 927 = .ok (.ifCond .eq 5, 3) := by decide +kernel
theorem dL_law_930 : decode cL_law 930 = .ok (.iconst 0, 1) := by decide +kernel
theorem dL_law_931 : decode cL_law 931 = .ok (.ireturn, 1) := by decide +kernel
theorem dL_law_932 : decode cL_law 932 = .ok (.goto 1315, 3) := by decide +kernel
theorem dL_law_935 : decode cL_law 935 = .ok (.aload_n 1, 1) := by decide +kernel
theorem dL_law_936 : decode cL_law 936 = .ok (.aload_n 0, 1) := by decide +kernel
theorem dL_law_937 : decode cL_law 937 = .ok (.iload 5, 2) := by decide +kernel
theorem dL_law_939 : decode cL_law 939 = .ok (.iconst 1, 1) := by decide +kernel
theorem dL_law_940 : decode cL_law 940 = .ok (.iadd, 1) := by decide +kernel
theorem dL_law_941 : decode cL_law 941 = .ok (.iaload, 1) := by decide +kernel
theorem dL_law_942 : decode cL_law 942 = .ok (.aload_n 3, 1) := by decide +kernel
theorem dL_law_943 : decode cL_law 943 = .ok (.invokestatic 169, 3) := by decide +kernel
theorem dL_law_946 : decode cL_law 946 = .ok (.istore 6, 2) := by decide +kernel
theorem dL_law_948 : decode cL_law 948 = .ok (.aload_n 2, 1) := by decide +kernel
theorem dL_law_949 : decode cL_law 949 = .ok (.aload_n 0, 1) := by decide +kernel
theorem dL_law_950 : decode cL_law 950 = .ok (.iload 5, 2) := by decide +kernel
theorem dL_law_952 : decode cL_law 952 = .ok (.iconst 1, 1) := by decide +kernel
theorem dL_law_953 : decode cL_law 953 = .ok (.iadd, 1) := by decide +kernel
theorem dL_law_954 : decode cL_law 954 = .ok (.iaload, 1) := by decide +kernel
theorem dL_law_955 : decode cL_law 955 = .ok (.invokevirtual 171, 3) := by decide +kernel
theorem dL_law_958 : decode cL_law 958 = .ok (.istore 7, 2) := by decide +kernel
theorem dL_law_960 : decode cL_law 960 = .ok (.aload_n 2, 1) := by decide +kernel
theorem dL_law_961 : decode cL_law 961 = .ok (.invokevirtual 134, 3) := by decide +kernel
theorem dL_law_964 : decode cL_law 964 = .ok (.iload 6, 2) := by decide +kernel
theorem dL_law_966 : decode cL_law 966 = .ok (.if_icmp .eq 5, 3) := by decide +kernel
theorem dL_law_969 : decode cL_law 969 = .ok (.iconst 0, 1) := by decide +kernel
theorem dL_law_970 : decode cL_law 970 = .ok (.ireturn, 1) := by decide +kernel
theorem dL_law_971 : decode cL_law 971 = .ok (.iload 6, 2) := by decide +kernel
theorem dL_law_973 : decode cL_law 973 = .ok (.ifCond .ne 15, 3) := by decide +kernel
theorem dL_law_976 : decode cL_law 976 = .ok (.aload_n 3, 1) := by decide +kernel
theorem dL_law_977 : decode cL_law 977 = .ok (.iconst 0, 1) := by decide +kernel
theorem dL_law_978 : decode cL_law 978 = .ok (.laload, 1) := by decide +kernel
theorem dL_law_979 : decode cL_law 979 = .ok (.iload 7, 2) := by decide +kernel
theorem dL_law_981 : decode cL_law 981 = .ok (.i2l, 1) := by decide +kernel
theorem dL_law_982 : decode cL_law 982 = .ok (.lcmp, 1) := by decide +kernel
theorem dL_law_983 : decode cL_law 983 = .ok (.ifCond .eq 5, 3) := by decide +kernel
theorem dL_law_986 : decode cL_law 986 = .ok (.iconst 0, 1) := by decide +kernel
theorem dL_law_987 : decode cL_law 987 = .ok (.ireturn, 1) := by decide +kernel
theorem dL_law_988 : decode cL_law 988 = .ok (.goto 1259, 3) := by decide +kernel
theorem dL_law_991 : decode cL_law 991 = .ok (.aload_n 1, 1) := by decide +kernel
theorem dL_law_992 : decode cL_law 992 = .ok (.aload_n 0, 1) := by decide +kernel
theorem dL_law_993 : decode cL_law 993 = .ok (.iload 5, 2) := by decide +kernel
theorem dL_law_995 : decode cL_law 995 = .ok (.iconst 1, 1) := by decide +kernel
theorem dL_law_996 : decode cL_law 996 = .ok (.iadd, 1) := by decide +kernel
theorem dL_law_997 : decode cL_law 997 = .ok (.iaload, 1) := by decide +kernel
theorem dL_law_998 : decode cL_law 998 = .ok (.aload_n 3, 1) := by decide +kernel
theorem dL_law_999 : decode cL_law 999 = .ok (.invokestatic 172, 3) := by decide +kernel
theorem dL_law_1002 : decode cL_law 1002 = .ok (.istore 6, 2) := by decide +kernel
theorem dL_law_1004 : decode cL_law 1004 = .ok (.aload_n 2, 1) := by decide +kernel
theorem dL_law_1005 : decode cL_law 1005 = .ok (.aload_n 0, 1) := by decide +kernel
theorem dL_law_1006 : decode cL_law 1006 = .ok (.iload 5, 2) := by decide +kernel
theorem dL_law_1008 : decode cL_law 1008 = .ok (.iconst 1, 1) := by decide +kernel
theorem dL_law_1009 : decode cL_law 1009 = .ok (.iadd, 1) := by decide +kernel
theorem dL_law_1010 : decode cL_law 1010 = .ok (.iaload, 1) := by decide +kernel
theorem dL_law_1011 : decode cL_law 1011 = .ok (.invokevirtual 174, 3) := by decide +kernel
theorem dL_law_1014 : decode cL_law 1014 = .ok (.istore 7, 2) := by decide +kernel
theorem dL_law_1016 : decode cL_law 1016 = .ok (.aload_n 2, 1) := by decide +kernel
theorem dL_law_1017 : decode cL_law 1017 = .ok (.invokevirtual 134, 3) := by decide +kernel
theorem dL_law_1020 : decode cL_law 1020 = .ok (.iload 6, 2) := by decide +kernel
theorem dL_law_1022 : decode cL_law 1022 = .ok (.if_icmp .eq 5, 3) := by decide +kernel
theorem dL_law_1025 : decode cL_law 1025 = .ok (.iconst 0, 1) := by decide +kernel
theorem dL_law_1026 : decode cL_law 1026 = .ok (.ireturn, 1) := by decide +kernel
theorem dL_law_1027 : decode cL_law 1027 = .ok (.iload 6, 2) := by decide +kernel
theorem dL_law_1029 : decode cL_law 1029 = .ok (.ifCond .ne 15, 3) := by decide +kernel
theorem dL_law_1032 : decode cL_law 1032 = .ok (.aload_n 3, 1) := by decide +kernel
theorem dL_law_1033 : decode cL_law 1033 = .ok (.iconst 0, 1) := by decide +kernel
theorem dL_law_1034 : decode cL_law 1034 = .ok (.laload, 1) := by decide +kernel
theorem dL_law_1035 : decode cL_law 1035 = .ok (.iload 7, 2) := by decide +kernel
theorem dL_law_1037 : decode cL_law 1037 = .ok (.i2l, 1) := by decide +kernel
theorem dL_law_1038 : decode cL_law 1038 = .ok (.lcmp, 1) := by decide +kernel
theorem dL_law_1039 : decode cL_law 1039 = .ok (.ifCond .eq 5, 3) := by decide +kernel
theorem dL_law_1042 : decode cL_law 1042 = .ok (.iconst 0, 1) := by decide +kernel
theorem dL_law_1043 : decode cL_law 1043 = .ok (.ireturn, 1) := by decide +kernel
theorem dL_law_1044 : decode cL_law 1044 = .ok (.goto 1203, 3) := by decide +kernel
theorem dL_law_1047 : decode cL_law 1047 = .ok (.aload_n 1, 1) := by decide +kernel
theorem dL_law_1048 : decode cL_law 1048 = .ok (.aload_n 0, 1) := by decide +kernel
theorem dL_law_1049 : decode cL_law 1049 = .ok (.iload 5, 2) := by decide +kernel
theorem dL_law_1051 : decode cL_law 1051 = .ok (.iconst 1, 1) := by decide +kernel
theorem dL_law_1052 : decode cL_law 1052 = .ok (.iadd, 1) := by decide +kernel
theorem dL_law_1053 : decode cL_law 1053 = .ok (.iaload, 1) := by decide +kernel
theorem dL_law_1054 : decode cL_law 1054 = .ok (.aload_n 3, 1) := by decide +kernel
theorem dL_law_1055 : decode cL_law 1055 = .ok (.invokestatic 175, 3) := by decide +kernel
theorem dL_law_1058 : decode cL_law 1058 = .ok (.istore 6, 2) := by decide +kernel
theorem dL_law_1060 : decode cL_law 1060 = .ok (.aload_n 2, 1) := by decide +kernel
theorem dL_law_1061 : decode cL_law 1061 = .ok (.aload_n 0, 1) := by decide +kernel
theorem dL_law_1062 : decode cL_law 1062 = .ok (.iload 5, 2) := by decide +kernel
theorem dL_law_1064 : decode cL_law 1064 = .ok (.iconst 1, 1) := by decide +kernel
theorem dL_law_1065 : decode cL_law 1065 = .ok (.iadd, 1) := by decide +kernel
theorem dL_law_1066 : decode cL_law 1066 = .ok (.iaload, 1) := by decide +kernel
theorem dL_law_1067 : decode cL_law 1067 = .ok (.invokevirtual 177, 3) := by decide +kernel
theorem dL_law_1070 : decode cL_law 1070 = .ok (.istore 7, 2) := by decide +kernel
theorem dL_law_1072 : decode cL_law 1072 = .ok (.aload_n 2, 1) := by decide +kernel
theorem dL_law_1073 : decode cL_law 1073 = .ok (.invokevirtual 134, 3) := by decide +kernel
theorem dL_law_1076 : decode cL_law 1076 = .ok (.iload 6, 2) := by decide +kernel
theorem dL_law_1078 : decode cL_law 1078 = .ok (.if_icmp .eq 5, 3) := by decide +kernel
theorem dL_law_1081 : decode cL_law 1081 = .ok (.iconst 0, 1) := by decide +kernel
theorem dL_law_1082 : decode cL_law 1082 = .ok (.ireturn, 1) := by decide +kernel
theorem dL_law_1083 : decode cL_law 1083 = .ok (.iload 6, 2) := by decide +kernel
theorem dL_law_1085 : decode cL_law 1085 = .ok (.ifCond .ne 15, 3) := by decide +kernel
theorem dL_law_1088 : decode cL_law 1088 = .ok (.aload_n 3, 1) := by decide +kernel
theorem dL_law_1089 : decode cL_law 1089 = .ok (.iconst 0, 1) := by decide +kernel
theorem dL_law_1090 : decode cL_law 1090 = .ok (.laload, 1) := by decide +kernel
theorem dL_law_1091 : decode cL_law 1091 = .ok (.iload 7, 2) := by decide +kernel
theorem dL_law_1093 : decode cL_law 1093 = .ok (.i2l, 1) := by decide +kernel
theorem dL_law_1094 : decode cL_law 1094 = .ok (.lcmp, 1) := by decide +kernel
theorem dL_law_1095 : decode cL_law 1095 = .ok (.ifCond .eq 5, 3) := by decide +kernel
theorem dL_law_1098 : decode cL_law 1098 = .ok (.iconst 0, 1) := by decide +kernel
theorem dL_law_1099 : decode cL_law 1099 = .ok (.ireturn, 1) := by decide +kernel
theorem dL_law_1100 : decode cL_law 1100 = .ok (.goto 1147, 3) := by decide +kernel
theorem dL_law_1103 : decode cL_law 1103 = .ok (.aload_n 1, 1) := by decide +kernel
theorem dL_law_1104 : decode cL_law 1104 = .ok (.aload_n 3, 1) := by decide +kernel
theorem dL_law_1105 : decode cL_law 1105 = .ok (.invokestatic 178, 3) := by decide +kernel
theorem dL_law_1108 : decode cL_law 1108 = .ok (.istore 6, 2) := by decide +kernel
theorem dL_law_1110 : decode cL_law 1110 = .ok (.aload_n 2, 1) := by decide +kernel
theorem dL_law_1111 : decode cL_law 1111 = .ok (.invokevirtual 181, 3) := by decide +kernel
theorem dL_law_1114 : decode cL_law 1114 = .ok (.istore 7, 2) := by decide +kernel
theorem dL_law_1116 : decode cL_law 1116 = .ok (.aload_n 2, 1) := by decide +kernel
theorem dL_law_1117 : decode cL_law 1117 = .ok (.invokevirtual 134, 3) := by decide +kernel
theorem dL_law_1120 : decode cL_law 1120 = .ok (.iload 6, 2) := by decide +kernel
theorem dL_law_1122 : decode cL_law 1122 = .ok (.if_icmp .eq 5, 3) := by decide +kernel
theorem dL_law_1125 : decode cL_law 1125 = .ok (.iconst 0, 1) := by decide +kernel
theorem dL_law_1126 : decode cL_law 1126 = .ok (.ireturn, 1) := by decide +kernel
theorem dL_law_1127 : decode cL_law 1127 = .ok (.iload 6, 2) := by decide +kernel
theorem dL_law_1129 : decode cL_law 1129 = .ok (.ifCond .ne 15, 3) := by decide +kernel
theorem dL_law_1132 : decode cL_law 1132 = .ok (.aload_n 3, 1) := by decide +kernel
theorem dL_law_1133 : decode cL_law 1133 = .ok (.iconst 0, 1) := by decide +kernel
theorem dL_law_1134 : decode cL_law 1134 = .ok (.laload, 1) := by decide +kernel
theorem dL_law_1135 : decode cL_law 1135 = .ok (.iload 7, 2) := by decide +kernel
theorem dL_law_1137 : decode cL_law 1137 = .ok (.i2l, 1) := by decide +kernel
theorem dL_law_1138 : decode cL_law 1138 = .ok (.lcmp, 1) := by decide +kernel
theorem dL_law_1139 : decode cL_law 1139 = .ok (.ifCond .eq 5, 3) := by decide +kernel
theorem dL_law_1142 : decode cL_law 1142 = .ok (.iconst 0, 1) := by decide +kernel
theorem dL_law_1143 : decode cL_law 1143 = .ok (.ireturn, 1) := by decide +kernel
theorem dL_law_1144 : decode cL_law 1144 = .ok (.goto 1103, 3) := by decide +kernel
theorem dL_law_1147 : decode cL_law 1147 = .ok (.aload_n 1, 1) := by decide +kernel
theorem dL_law_1148 : decode cL_law 1148 = .ok (.aload_n 0, 1) := by decide +kernel
theorem dL_law_1149 : decode cL_law 1149 = .ok (.iload 5, 2) := by decide +kernel
theorem dL_law_1151 : decode cL_law 1151 = .ok (.iconst 1, 1) := by decide +kernel
theorem dL_law_1152 : decode cL_law 1152 = .ok (.iadd, 1) := by decide +kernel
theorem dL_law_1153 : decode cL_law 1153 = .ok (.iaload, 1) := by decide +kernel
theorem dL_law_1154 : decode cL_law 1154 = .ok (.aload_n 0, 1) := by decide +kernel
theorem dL_law_1155 : decode cL_law 1155 = .ok (.iload 5, 2) := by decide +kernel
theorem dL_law_1157 : decode cL_law 1157 = .ok (.iconst 2, 1) := by decide +kernel
theorem dL_law_1158 : decode cL_law 1158 = .ok (.iadd, 1) := by decide +kernel
theorem dL_law_1159 : decode cL_law 1159 = .ok (.iaload, 1) := by decide +kernel
theorem dL_law_1160 : decode cL_law 1160 = .ok (.ifCond .eq 7, 3) := by decide +kernel
theorem dL_law_1163 : decode cL_law 1163 = .ok (.iconst 1, 1) := by decide +kernel
theorem dL_law_1164 : decode cL_law 1164 = .ok (.goto 4, 3) := by decide +kernel
theorem dL_law_1167 : decode cL_law 1167 = .ok (.iconst 0, 1) := by decide +kernel
theorem dL_law_1168 : decode cL_law 1168 = .ok (.aload_n 3, 1) := by decide +kernel
theorem dL_law_1169 : decode cL_law 1169 = .ok (.invokestatic 182, 3) := by decide +kernel
theorem dL_law_1172 : decode cL_law 1172 = .ok (.istore 6, 2) := by decide +kernel
theorem dL_law_1174 : decode cL_law 1174 = .ok (.aload_n 2, 1) := by decide +kernel
theorem dL_law_1175 : decode cL_law 1175 = .ok (.aload_n 0, 1) := by decide +kernel
theorem dL_law_1176 : decode cL_law 1176 = .ok (.iload 5, 2) := by decide +kernel
theorem dL_law_1178 : decode cL_law 1178 = .ok (.iconst 1, 1) := by decide +kernel
theorem dL_law_1179 : decode cL_law 1179 = .ok (.iadd, 1) := by decide +kernel
theorem dL_law_1180 : decode cL_law 1180 = .ok (.iaload, 1) := by decide +kernel
theorem dL_law_1181 : decode cL_law 1181 = .ok (.aload_n 0, 1) := by decide +kernel
theorem dL_law_1182 : decode cL_law 1182 = .ok (.iload 5, 2) := by decide +kernel
theorem dL_law_1184 : decode cL_law 1184 = .ok (.iconst 2, 1) := by decide +kernel
theorem dL_law_1185 : decode cL_law 1185 = .ok (.iadd, 1) := by decide +kernel
theorem dL_law_1186 : decode cL_law 1186 = .ok (.iaload, 1) := by decide +kernel
theorem dL_law_1187 : decode cL_law 1187 = .ok (.ifCond .eq 7, 3) := by decide +kernel
theorem dL_law_1190 : decode cL_law 1190 = .ok (.iconst 1, 1) := by decide +kernel
theorem dL_law_1191 : decode cL_law 1191 = .ok (.goto 4, 3) := by decide +kernel
theorem dL_law_1194 : decode cL_law 1194 = .ok (.iconst 0, 1) := by decide +kernel
theorem dL_law_1195 : decode cL_law 1195 = .ok (.invokevirtual 184, 3) := by decide +kernel
theorem dL_law_1198 : decode cL_law 1198 = .ok (.istore 7, 2) := by decide +kernel
theorem dL_law_1200 : decode cL_law 1200 = .ok (.aload_n 2, 1) := by decide +kernel
theorem dL_law_1201 : decode cL_law 1201 = .ok (.invokevirtual 134, 3) := by decide +kernel
theorem dL_law_1204 : decode cL_law 1204 = .ok (.iload 6, 2) := by decide +kernel
theorem dL_law_1206 : decode cL_law 1206 = .ok (.if_icmp .eq 5, 3) := by decide +kernel
theorem dL_law_1209 : decode cL_law 1209 = .ok (.iconst 0, 1) := by decide +kernel
theorem dL_law_1210 : decode cL_law 1210 = .ok (.ireturn, 1) := by decide +kernel
theorem dL_law_1211 : decode cL_law 1211 = .ok (.iload 6, 2) := by decide +kernel
theorem dL_law_1213 : decode cL_law 1213 = .ok (.ifCond .ne 22, 3) := by decide +kernel
theorem dL_law_1216 : decode cL_law 1216 = .ok (.aload_n 3, 1) := by decide +kernel
theorem dL_law_1217 : decode cL_law 1217 = .ok (.iconst 0, 1) := by decide +kernel
theorem dL_law_1218 : decode cL_law 1218 = .ok (.laload, 1) := by decide +kernel
theorem dL_law_1219 : decode cL_law 1219 = .ok (.iload 7, 2) := by decide +kernel
theorem dL_law_1221 : decode cL_law 1221 = .ok (.ifCond .eq 7, 3) := by decide +kernel
theorem dL_law_1224 : decode cL_law 1224 = .ok (.lconst 1, 1) := by decide +kernel
theorem dL_law_1225 : decode cL_law 1225 = .ok (.goto 4, 3) := by decide +kernel
theorem dL_law_1228 : decode cL_law 1228 = .ok (.lconst 0, 1) := by decide +kernel
theorem dL_law_1229 : decode cL_law 1229 = .ok (.lcmp, 1) := by decide +kernel
theorem dL_law_1230 : decode cL_law 1230 = .ok (.ifCond .eq 5, 3) := by decide +kernel
theorem dL_law_1233 : decode cL_law 1233 = .ok (.iconst 0, 1) := by decide +kernel
theorem dL_law_1234 : decode cL_law 1234 = .ok (.ireturn, 1) := by decide +kernel
theorem dL_law_1235 : decode cL_law 1235 = .ok (.goto 1012, 3) := by decide +kernel
theorem dL_law_1238 : decode cL_law 1238 = .ok (.aload_n 1, 1) := by decide +kernel
theorem dL_law_1239 : decode cL_law 1239 = .ok (.aload_n 0, 1) := by decide +kernel
theorem dL_law_1240 : decode cL_law 1240 = .ok (.iload 5, 2) := by decide +kernel
theorem dL_law_1242 : decode cL_law 1242 = .ok (.iconst 1, 1) := by decide +kernel
theorem dL_law_1243 : decode cL_law 1243 = .ok (.iadd, 1) := by decide +kernel
theorem dL_law_1244 : decode cL_law 1244 = .ok (.iaload, 1) := by decide +kernel
theorem dL_law_1245 : decode cL_law 1245 = .ok (.aload_n 3, 1) := by decide +kernel
theorem dL_law_1246 : decode cL_law 1246 = .ok (.invokestatic 185, 3) := by decide +kernel
theorem dL_law_1249 : decode cL_law 1249 = .ok (.istore 6, 2) := by decide +kernel
theorem dL_law_1251 : decode cL_law 1251 = .ok (.aload_n 2, 1) := by decide +kernel
theorem dL_law_1252 : decode cL_law 1252 = .ok (.aload_n 0, 1) := by decide +kernel
theorem dL_law_1253 : decode cL_law 1253 = .ok (.iload 5, 2) := by decide +kernel
theorem dL_law_1255 : decode cL_law 1255 = .ok (.iconst 1, 1) := by decide +kernel
theorem dL_law_1256 : decode cL_law 1256 = .ok (.iadd, 1) := by decide +kernel
theorem dL_law_1257 : decode cL_law 1257 = .ok (.iaload, 1) := by decide +kernel
theorem dL_law_1258 : decode cL_law 1258 = .ok (.invokevirtual 187, 3) := by decide +kernel
theorem dL_law_1261 : decode cL_law 1261 = .ok (.istore 7, 2) := by decide +kernel
theorem dL_law_1263 : decode cL_law 1263 = .ok (.aload_n 2, 1) := by decide +kernel
theorem dL_law_1264 : decode cL_law 1264 = .ok (.invokevirtual 134, 3) := by decide +kernel
theorem dL_law_1267 : decode cL_law 1267 = .ok (.iload 6, 2) := by decide +kernel
theorem dL_law_1269 : decode cL_law 1269 = .ok (.if_icmp .eq 5, 3) := by decide +kernel
theorem dL_law_1272 : decode cL_law 1272 = .ok (.iconst 0, 1) := by decide +kernel
theorem dL_law_1273 : decode cL_law 1273 = .ok (.ireturn, 1) := by decide +kernel
theorem dL_law_1274 : decode cL_law 1274 = .ok (.iload 6, 2) := by decide +kernel
theorem dL_law_1276 : decode cL_law 1276 = .ok (.ifCond .ne 15, 3) := by decide +kernel
theorem dL_law_1279 : decode cL_law 1279 = .ok (.aload_n 3, 1) := by decide +kernel
theorem dL_law_1280 : decode cL_law 1280 = .ok (.iconst 0, 1) := by decide +kernel
theorem dL_law_1281 : decode cL_law 1281 = .ok (.laload, 1) := by decide +kernel
theorem dL_law_1282 : decode cL_law 1282 = .ok (.iload 7, 2) := by decide +kernel
theorem dL_law_1284 : decode cL_law 1284 = .ok (.i2l, 1) := by decide +kernel
theorem dL_law_1285 : decode cL_law 1285 = .ok (.lcmp, 1) := by decide +kernel
theorem dL_law_1286 : decode cL_law 1286 = .ok (.ifCond .eq 5, 3) := by decide +kernel
theorem dL_law_1289 : decode cL_law 1289 = .ok (.iconst 0, 1) := by decide +kernel
theorem dL_law_1290 : decode cL_law 1290 = .ok (.ireturn, 1) := by decide +kernel
theorem dL_law_1291 : decode cL_law 1291 = .ok (.goto 956, 3) := by decide +kernel
theorem dL_law_1294 : decode cL_law 1294 = .ok (.aload_n 1, 1) := by decide +kernel
theorem dL_law_1295 : decode cL_law 1295 = .ok (.aload_n 0, 1) := by decide +kernel
theorem dL_law_1296 : decode cL_law 1296 = .ok (.iload 5, 2) := by decide +kernel
theorem dL_law_1298 : decode cL_law 1298 = .ok (.iconst 1, 1) := by decide +kernel
theorem dL_law_1299 : decode cL_law 1299 = .ok (.iadd, 1) := by decide +kernel
theorem dL_law_1300 : decode cL_law 1300 = .ok (.iaload, 1) := by decide +kernel
theorem dL_law_1301 : decode cL_law 1301 = .ok (.aload_n 3, 1) := by decide +kernel
theorem dL_law_1302 : decode cL_law 1302 = .ok (.invokestatic 188, 3) := by decide +kernel
theorem dL_law_1305 : decode cL_law 1305 = .ok (.istore 6, 2) := by decide +kernel
theorem dL_law_1307 : decode cL_law 1307 = .ok (.aload_n 2, 1) := by decide +kernel
theorem dL_law_1308 : decode cL_law 1308 = .ok (.aload_n 0, 1) := by decide +kernel
theorem dL_law_1309 : decode cL_law 1309 = .ok (.iload 5, 2) := by decide +kernel
theorem dL_law_1311 : decode cL_law 1311 = .ok (.iconst 1, 1) := by decide +kernel
theorem dL_law_1312 : decode cL_law 1312 = .ok (.iadd, 1) := by decide +kernel
theorem dL_law_1313 : decode cL_law 1313 = .ok (.iaload, 1) := by decide +kernel
theorem dL_law_1314 : decode cL_law 1314 = .ok (.invokevirtual 190, 3) := by decide +kernel
theorem dL_law_1317 : decode cL_law 1317 = .ok (.istore 7, 2) := by decide +kernel
theorem dL_law_1319 : decode cL_law 1319 = .ok (.aload_n 2, 1) := by decide +kernel
theorem dL_law_1320 : decode cL_law 1320 = .ok (.invokevirtual 134, 3) := by decide +kernel
theorem dL_law_1323 : decode cL_law 1323 = .ok (.iload 6, 2) := by decide +kernel
theorem dL_law_1325 : decode cL_law 1325 = .ok (.if_icmp .eq 5, 3) := by decide +kernel
theorem dL_law_1328 : decode cL_law 1328 = .ok (.iconst 0, 1) := by decide +kernel
theorem dL_law_1329 : decode cL_law 1329 = .ok (.ireturn, 1) := by decide +kernel
theorem dL_law_1330 : decode cL_law 1330 = .ok (.iload 6, 2) := by decide +kernel
theorem dL_law_1332 : decode cL_law 1332 = .ok (.ifCond .ne 22, 3) := by decide +kernel
theorem dL_law_1335 : decode cL_law 1335 = .ok (.aload_n 3, 1) := by decide +kernel
theorem dL_law_1336 : decode cL_law 1336 = .ok (.iconst 0, 1) := by decide +kernel
theorem dL_law_1337 : decode cL_law 1337 = .ok (.laload, 1) := by decide +kernel
theorem dL_law_1338 : decode cL_law 1338 = .ok (.iload 7, 2) := by decide +kernel
theorem dL_law_1340 : decode cL_law 1340 = .ok (.ifCond .eq 7, 3) := by decide +kernel
theorem dL_law_1343 : decode cL_law 1343 = .ok (.lconst 1, 1) := by decide +kernel
theorem dL_law_1344 : decode cL_law 1344 = .ok (.goto 4, 3) := by decide +kernel
theorem dL_law_1347 : decode cL_law 1347 = .ok (.lconst 0, 1) := by decide +kernel
theorem dL_law_1348 : decode cL_law 1348 = .ok (.lcmp, 1) := by decide +kernel
theorem dL_law_1349 : decode cL_law 1349 = .ok (.ifCond .eq 5, 3) := by decide +kernel
theorem dL_law_1352 : decode cL_law 1352 = .ok (.iconst 0, 1) := by decide +kernel
theorem dL_law_1353 : decode cL_law 1353 = .ok (.ireturn, 1) := by decide +kernel
theorem dL_law_1354 : decode cL_law 1354 = .ok (.goto 893, 3) := by decide +kernel
theorem dL_law_1357 : decode cL_law 1357 = .ok (.aload_n 1, 1) := by decide +kernel
theorem dL_law_1358 : decode cL_law 1358 = .ok (.aload_n 0, 1) := by decide +kernel
theorem dL_law_1359 : decode cL_law 1359 = .ok (.iload 5, 2) := by decide +kernel
theorem dL_law_1361 : decode cL_law 1361 = .ok (.iconst 1, 1) := by decide +kernel
theorem dL_law_1362 : decode cL_law 1362 = .ok (.iadd, 1) := by decide +kernel
theorem dL_law_1363 : decode cL_law 1363 = .ok (.iaload, 1) := by decide +kernel
theorem dL_law_1364 : decode cL_law 1364 = .ok (.aload_n 3, 1) := by decide +kernel
theorem dL_law_1365 : decode cL_law 1365 = .ok (.invokestatic 191, 3) := by decide +kernel
theorem dL_law_1368 : decode cL_law 1368 = .ok (.istore 6, 2) := by decide +kernel
theorem dL_law_1370 : decode cL_law 1370 = .ok (.aload_n 2, 1) := by decide +kernel
theorem dL_law_1371 : decode cL_law 1371 = .ok (.aload_n 0, 1) := by decide +kernel
theorem dL_law_1372 : decode cL_law 1372 = .ok (.iload 5, 2) := by decide +kernel
theorem dL_law_1374 : decode cL_law 1374 = .ok (.iconst 1, 1) := by decide +kernel
theorem dL_law_1375 : decode cL_law 1375 = .ok (.iadd, 1) := by decide +kernel
theorem dL_law_1376 : decode cL_law 1376 = .ok (.iaload, 1) := by decide +kernel
theorem dL_law_1377 : decode cL_law 1377 = .ok (.invokevirtual 193, 3) := by decide +kernel
theorem dL_law_1380 : decode cL_law 1380 = .ok (.istore 7, 2) := by decide +kernel
theorem dL_law_1382 : decode cL_law 1382 = .ok (.aload_n 2, 1) := by decide +kernel
theorem dL_law_1383 : decode cL_law 1383 = .ok (.invokevirtual 134, 3) := by decide +kernel
theorem dL_law_1386 : decode cL_law 1386 = .ok (.iload 6, 2) := by decide +kernel
theorem dL_law_1388 : decode cL_law 1388 = .ok (.if_icmp .eq 5, 3) := by decide +kernel
theorem dL_law_1391 : decode cL_law 1391 = .ok (.iconst 0, 1) := by decide +kernel
theorem dL_law_1392 : decode cL_law 1392 = .ok (.ireturn, 1) := by decide +kernel
theorem dL_law_1393 : decode cL_law 1393 = .ok (.iload 6, 2) := by decide +kernel
theorem dL_law_1395 : decode cL_law 1395 = .ok (.ifCond .ne 15, 3) := by decide +kernel
theorem dL_law_1398 : decode cL_law 1398 = .ok (.aload_n 3, 1) := by decide +kernel
theorem dL_law_1399 : decode cL_law 1399 = .ok (.iconst 0, 1) := by decide +kernel
theorem dL_law_1400 : decode cL_law 1400 = .ok (.laload, 1) := by decide +kernel
theorem dL_law_1401 : decode cL_law 1401 = .ok (.iload 7, 2) := by decide +kernel
theorem dL_law_1403 : decode cL_law 1403 = .ok (.i2l, 1) := by decide +kernel
theorem dL_law_1404 : decode cL_law 1404 = .ok (.lcmp, 1) := by decide +kernel
theorem dL_law_1405 : decode cL_law 1405 = .ok (.ifCond .eq 5, 3) := by decide +kernel
theorem dL_law_1408 : decode cL_law 1408 = .ok (.iconst 0, 1) := by decide +kernel
theorem dL_law_1409 : decode cL_law 1409 = .ok (.ireturn, 1) := by decide +kernel
theorem dL_law_1410 : decode cL_law 1410 = .ok (.goto 837, 3) := by decide +kernel
theorem dL_law_1413 : decode cL_law 1413 = .ok (.aload_n 1, 1) := by decide +kernel
theorem dL_law_1414 : decode cL_law 1414 = .ok (.aload_n 0, 1) := by decide +kernel
theorem dL_law_1415 : decode cL_law 1415 = .ok (.iload 5, 2) := by decide +kernel
theorem dL_law_1417 : decode cL_law 1417 = .ok (.iconst 1, 1) := by decide +kernel
theorem dL_law_1418 : decode cL_law 1418 = .ok (.iadd, 1) := by decide +kernel
theorem dL_law_1419 : decode cL_law 1419 = .ok (.iaload, 1) := by decide +kernel
theorem dL_law_1420 : decode cL_law 1420 = .ok (.aload_n 3, 1) := by decide +kernel
theorem dL_law_1421 : decode cL_law 1421 = .ok (.invokestatic 194, 3) := by decide +kernel
theorem dL_law_1424 : decode cL_law 1424 = .ok (.istore 6, 2) := by decide +kernel
theorem dL_law_1426 : decode cL_law 1426 = .ok (.aload_n 2, 1) := by decide +kernel
theorem dL_law_1427 : decode cL_law 1427 = .ok (.aload_n 0, 1) := by decide +kernel
theorem dL_law_1428 : decode cL_law 1428 = .ok (.iload 5, 2) := by decide +kernel
theorem dL_law_1430 : decode cL_law 1430 = .ok (.iconst 1, 1) := by decide +kernel
theorem dL_law_1431 : decode cL_law 1431 = .ok (.iadd, 1) := by decide +kernel
theorem dL_law_1432 : decode cL_law 1432 = .ok (.iaload, 1) := by decide +kernel
theorem dL_law_1433 : decode cL_law 1433 = .ok (.invokevirtual 196, 3) := by decide +kernel
theorem dL_law_1436 : decode cL_law 1436 = .ok (.istore 7, 2) := by decide +kernel
theorem dL_law_1438 : decode cL_law 1438 = .ok (.aload_n 2, 1) := by decide +kernel
theorem dL_law_1439 : decode cL_law 1439 = .ok (.invokevirtual 134, 3) := by decide +kernel
theorem dL_law_1442 : decode cL_law 1442 = .ok (.iload 6, 2) := by decide +kernel
theorem dL_law_1444 : decode cL_law 1444 = .ok (.if_icmp .eq 5, 3) := by decide +kernel
theorem dL_law_1447 : decode cL_law 1447 = .ok (.iconst 0, 1) := by decide +kernel
theorem dL_law_1448 : decode cL_law 1448 = .ok (.ireturn, 1) := by decide +kernel
theorem dL_law_1449 : decode cL_law 1449 = .ok (.iload 6, 2) := by decide +kernel
theorem dL_law_1451 : decode cL_law 1451 = .ok (.ifCond .ne 15, 3) := by decide +kernel
theorem dL_law_1454 : decode cL_law 1454 = .ok (.aload_n 3, 1) := by decide +kernel
theorem dL_law_1455 : decode cL_law 1455 = .ok (.iconst 0, 1) := by decide +kernel
theorem dL_law_1456 : decode cL_law 1456 = .ok (.laload, 1) := by decide +kernel
theorem dL_law_1457 : decode cL_law 1457 = .ok (.iload 7, 2) := by decide +kernel
theorem dL_law_1459 : decode cL_law 1459 = .ok (.i2l, 1) := by decide +kernel
theorem dL_law_1460 : decode cL_law 1460 = .ok (.lcmp, 1) := by decide +kernel
theorem dL_law_1461 : decode cL_law 1461 = .ok (.ifCond .eq 5, 3) := by decide +kernel
theorem dL_law_1464 : decode cL_law 1464 = .ok (.iconst 0, 1) := by decide +kernel
theorem dL_law_1465 : decode cL_law 1465 = .ok (.ireturn, 1) := by decide +kernel
theorem dL_law_1466 : decode cL_law 1466 = .ok (.goto 781, 3) := by decide +kernel
theorem dL_law_1469 : decode cL_law 1469 = .ok (.aload_n 1, 1) := by decide +kernel
theorem dL_law_1470 : decode cL_law 1470 = .ok (.aload_n 0, 1) := by decide +kernel
theorem dL_law_1471 : decode cL_law 1471 = .ok (.iload 5, 2) := by decide +kernel
theorem dL_law_1473 : decode cL_law 1473 = .ok (.iconst 1, 1) := by decide +kernel
theorem dL_law_1474 : decode cL_law 1474 = .ok (.iadd, 1) := by decide +kernel
theorem dL_law_1475 : decode cL_law 1475 = .ok (.iaload, 1) := by decide +kernel
theorem dL_law_1476 : decode cL_law 1476 = .ok (.aload_n 0, 1) := by decide +kernel
theorem dL_law_1477 : decode cL_law 1477 = .ok (.iload 5, 2) := by decide +kernel
theorem dL_law_1479 : decode cL_law 1479 = .ok (.iconst 2, 1) := by decide +kernel
theorem dL_law_1480 : decode cL_law 1480 = .ok (.iadd, 1) := by decide +kernel
theorem dL_law_1481 : decode cL_law 1481 = .ok (.iaload, 1) := by decide +kernel
theorem dL_law_1482 : decode cL_law 1482 = .ok (.aload_n 0, 1) := by decide +kernel
theorem dL_law_1483 : decode cL_law 1483 = .ok (.iload 5, 2) := by decide +kernel
theorem dL_law_1485 : decode cL_law 1485 = .ok (.iconst 3, 1) := by decide +kernel
theorem dL_law_1486 : decode cL_law 1486 = .ok (.iadd, 1) := by decide +kernel
theorem dL_law_1487 : decode cL_law 1487 = .ok (.iaload, 1) := by decide +kernel
theorem dL_law_1488 : decode cL_law 1488 = .ok (.aload_n 0, 1) := by decide +kernel
theorem dL_law_1489 : decode cL_law 1489 = .ok (.iload 5, 2) := by decide +kernel
theorem dL_law_1491 : decode cL_law 1491 = .ok (.iconst 4, 1) := by decide +kernel
theorem dL_law_1492 : decode cL_law 1492 = .ok (.iadd, 1) := by decide +kernel
theorem dL_law_1493 : decode cL_law 1493 = .ok (.iaload, 1) := by decide +kernel
theorem dL_law_1494 : decode cL_law 1494 = .ok (.aload_n 0, 1) := by decide +kernel
theorem dL_law_1495 : decode cL_law 1495 = .ok (.iload 5, 2) := by decide +kernel
theorem dL_law_1497 : decode cL_law 1497 = .ok (.iconst 5, 1) := by decide +kernel
theorem dL_law_1498 : decode cL_law 1498 = .ok (.iadd, 1) := by decide +kernel
theorem dL_law_1499 : decode cL_law 1499 = .ok (.iaload, 1) := by decide +kernel
theorem dL_law_1500 : decode cL_law 1500 = .ok (.aload_n 3, 1) := by decide +kernel
theorem dL_law_1501 : decode cL_law 1501 = .ok (.invokestatic 197, 3) := by decide +kernel
theorem dL_law_1504 : decode cL_law 1504 = .ok (.istore 6, 2) := by decide +kernel
theorem dL_law_1506 : decode cL_law 1506 = .ok (.aload_n 2, 1) := by decide +kernel
theorem dL_law_1507 : decode cL_law 1507 = .ok (.aload_n 0, 1) := by decide +kernel
theorem dL_law_1508 : decode cL_law 1508 = .ok (.iload 5, 2) := by decide +kernel
theorem dL_law_1510 : decode cL_law 1510 = .ok (.iconst 1, 1) := by decide +kernel
theorem dL_law_1511 : decode cL_law 1511 = .ok (.iadd, 1) := by decide +kernel
theorem dL_law_1512 : decode cL_law 1512 = .ok (.iaload, 1) := by decide +kernel
theorem dL_law_1513 : decode cL_law 1513 = .ok (.aload_n 0, 1) := by decide +kernel
theorem dL_law_1514 : decode cL_law 1514 = .ok (.iload 5, 2) := by decide +kernel
theorem dL_law_1516 : decode cL_law 1516 = .ok (.iconst 2, 1) := by decide +kernel
theorem dL_law_1517 : decode cL_law 1517 = .ok (.iadd, 1) := by decide +kernel
theorem dL_law_1518 : decode cL_law 1518 = .ok (.iaload, 1) := by decide +kernel
theorem dL_law_1519 : decode cL_law 1519 = .ok (.aload_n 0, 1) := by decide +kernel
theorem dL_law_1520 : decode cL_law 1520 = .ok (.iload 5, 2) := by decide +kernel
theorem dL_law_1522 : decode cL_law 1522 = .ok (.iconst 3, 1) := by decide +kernel
theorem dL_law_1523 : decode cL_law 1523 = .ok (.iadd, 1) := by decide +kernel
theorem dL_law_1524 : decode cL_law 1524 = .ok (.iaload, 1) := by decide +kernel
theorem dL_law_1525 : decode cL_law 1525 = .ok (.aload_n 0, 1) := by decide +kernel
theorem dL_law_1526 : decode cL_law 1526 = .ok (.iload 5, 2) := by decide +kernel
theorem dL_law_1528 : decode cL_law 1528 = .ok (.iconst 4, 1) := by decide +kernel
theorem dL_law_1529 : decode cL_law 1529 = .ok (.iadd, 1) := by decide +kernel
theorem dL_law_1530 : decode cL_law 1530 = .ok (.iaload, 1) := by decide +kernel
theorem dL_law_1531 : decode cL_law 1531 = .ok (.aload_n 0, 1) := by decide +kernel
theorem dL_law_1532 : decode cL_law 1532 = .ok (.iload 5, 2) := by decide +kernel
theorem dL_law_1534 : decode cL_law 1534 = .ok (.iconst 5, 1) := by decide +kernel
theorem dL_law_1535 : decode cL_law 1535 = .ok (.iadd, 1) := by decide +kernel
theorem dL_law_1536 : decode cL_law 1536 = .ok (.iaload, 1) := by decide +kernel
theorem dL_law_1537 : decode cL_law 1537 = .ok (.invokevirtual 200, 3) := by decide +kernel
theorem dL_law_1540 : decode cL_law 1540 = .ok (.istore 7, 2) := by decide +kernel
theorem dL_law_1542 : decode cL_law 1542 = .ok (.aload_n 2, 1) := by decide +kernel
theorem dL_law_1543 : decode cL_law 1543 = .ok (.invokevirtual 134, 3) := by decide +kernel
theorem dL_law_1546 : decode cL_law 1546 = .ok (.iload 6, 2) := by decide +kernel
theorem dL_law_1548 : decode cL_law 1548 = .ok (.if_icmp .eq 5, 3) := by decide +kernel
theorem dL_law_1551 : decode cL_law 1551 = .ok (.iconst 0, 1) := by decide +kernel
theorem dL_law_1552 : decode cL_law 1552 = .ok (.ireturn, 1) := by decide +kernel
theorem dL_law_1553 : decode cL_law 1553 = .ok (.iload 6, 2) := by decide +kernel
theorem dL_law_1555 : decode cL_law 1555 = .ok (.ifCond .ne 15, 3) := by decide +kernel
theorem dL_law_1558 : decode cL_law 1558 = .ok (.aload_n 3, 1) := by decide +kernel
theorem dL_law_1559 : decode cL_law 1559 = .ok (.iconst 0, 1) := by decide +kernel
theorem dL_law_1560 : decode cL_law 1560 = .ok (.laload, 1) := by decide +kernel
theorem dL_law_1561 : decode cL_law 1561 = .ok (.iload 7, 2) := by decide +kernel
theorem dL_law_1563 : decode cL_law 1563 = .ok (.i2l, 1) := by decide +kernel
theorem dL_law_1564 : decode cL_law 1564 = .ok (.lcmp, 1) := by decide +kernel
theorem dL_law_1565 : decode cL_law 1565 = .ok (.ifCond .eq 5, 3) := by decide +kernel
theorem dL_law_1568 : decode cL_law 1568 = .ok (.iconst 0, 1) := by decide +kernel
theorem dL_law_1569 : decode cL_law 1569 = .ok (.ireturn, 1) := by decide +kernel
theorem dL_law_1570 : decode cL_law 1570 = .ok (.goto 677, 3) := by decide +kernel
theorem dL_law_1573 : decode cL_law 1573 = .ok (.aload_n 1, 1) := by decide +kernel
theorem dL_law_1574 : decode cL_law 1574 = .ok (.aload_n 0, 1) := by decide +kernel
theorem dL_law_1575 : decode cL_law 1575 = .ok (.iload 5, 2) := by decide +kernel
theorem dL_law_1577 : decode cL_law 1577 = .ok (.iconst 1, 1) := by decide +kernel
theorem dL_law_1578 : decode cL_law 1578 = .ok (.iadd, 1) := by decide +kernel
theorem dL_law_1579 : decode cL_law 1579 = .ok (.iaload, 1) := by decide +kernel
theorem dL_law_1580 : decode cL_law 1580 = .ok (.aload_n 3, 1) := by decide +kernel
theorem dL_law_1581 : decode cL_law 1581 = .ok (.invokestatic 201, 3) := by decide +kernel
theorem dL_law_1584 : decode cL_law 1584 = .ok (.istore 6, 2) := by decide +kernel
theorem dL_law_1586 : decode cL_law 1586 = .ok (.aload_n 2, 1) := by decide +kernel
theorem dL_law_1587 : decode cL_law 1587 = .ok (.aload_n 0, 1) := by decide +kernel
theorem dL_law_1588 : decode cL_law 1588 = .ok (.iload 5, 2) := by decide +kernel
theorem dL_law_1590 : decode cL_law 1590 = .ok (.iconst 1, 1) := by decide +kernel
theorem dL_law_1591 : decode cL_law 1591 = .ok (.iadd, 1) := by decide +kernel
theorem dL_law_1592 : decode cL_law 1592 = .ok (.iaload, 1) := by decide +kernel
theorem dL_law_1593 : decode cL_law 1593 = .ok (.invokevirtual 203, 3) := by decide +kernel
theorem dL_law_1596 : decode cL_law 1596 = .ok (.istore 7, 2) := by decide +kernel
theorem dL_law_1598 : decode cL_law 1598 = .ok (.aload_n 2, 1) := by decide +kernel
theorem dL_law_1599 : decode cL_law 1599 = .ok (.invokevirtual 134, 3) := by decide +kernel
theorem dL_law_1602 : decode cL_law 1602 = .ok (.iload 6, 2) := by decide +kernel
theorem dL_law_1604 : decode cL_law 1604 = .ok (.if_icmp .eq 5, 3) := by decide +kernel
theorem dL_law_1607 : decode cL_law 1607 = .ok (.iconst 0, 1) := by decide +kernel
theorem dL_law_1608 : decode cL_law 1608 = .ok (.ireturn, 1) := by decide +kernel
theorem dL_law_1609 : decode cL_law 1609 = .ok (.iload 6, 2) := by decide +kernel
theorem dL_law_1611 : decode cL_law 1611 = .ok (.ifCond .ne 15, 3) := by decide +kernel
theorem dL_law_1614 : decode cL_law 1614 = .ok (.aload_n 3, 1) := by decide +kernel
theorem dL_law_1615 : decode cL_law 1615 = .ok (.iconst 0, 1) := by decide +kernel
theorem dL_law_1616 : decode cL_law 1616 = .ok (.laload, 1) := by decide +kernel
theorem dL_law_1617 : decode cL_law 1617 = .ok (.iload 7, 2) := by decide +kernel
theorem dL_law_1619 : decode cL_law 1619 = .ok (.i2l, 1) := by decide +kernel
theorem dL_law_1620 : decode cL_law 1620 = .ok (.lcmp, 1) := by decide +kernel
theorem dL_law_1621 : decode cL_law 1621 = .ok (.ifCond .eq 5, 3) := by decide +kernel
theorem dL_law_1624 : decode cL_law 1624 = .ok (.iconst 0, 1) := by decide +kernel
theorem dL_law_1625 : decode cL_law 1625 = .ok (.ireturn, 1) := by decide +kernel
theorem dL_law_1626 : decode cL_law 1626 = .ok (.goto 621, 3) := by decide +kernel
theorem dL_law_1629 : decode cL_law 1629 = .ok (.aload_n 1, 1) := by decide +kernel
theorem dL_law_1630 : decode cL_law 1630 = .ok (.aload_n 0, 1) := by decide +kernel
theorem dL_law_1631 : decode cL_law 1631 = .ok (.iload 5, 2) := by decide +kernel
theorem dL_law_1633 : decode cL_law 1633 = .ok (.iconst 1, 1) := by decide +kernel
theorem dL_law_1634 : decode cL_law 1634 = .ok (.iadd, 1) := by decide +kernel
theorem dL_law_1635 : decode cL_law 1635 = .ok (.iaload, 1) := by decide +kernel
theorem dL_law_1636 : decode cL_law 1636 = .ok (.aload_n 0, 1) := by decide +kernel
theorem dL_law_1637 : decode cL_law 1637 = .ok (.iload 5, 2) := by decide +kernel
theorem dL_law_1639 : decode cL_law 1639 = .ok (.iconst 2, 1) := by decide +kernel
theorem dL_law_1640 : decode cL_law 1640 = .ok (.iadd, 1) := by decide +kernel
theorem dL_law_1641 : decode cL_law 1641 = .ok (.iaload, 1) := by decide +kernel
theorem dL_law_1642 : decode cL_law 1642 = .ok (.aload_n 3, 1) := by decide +kernel
theorem dL_law_1643 : decode cL_law 1643 = .ok (.invokestatic 204, 3) := by decide +kernel
theorem dL_law_1646 : decode cL_law 1646 = .ok (.istore 6, 2) := by decide +kernel
theorem dL_law_1648 : decode cL_law 1648 = .ok (.aload_n 2, 1) := by decide +kernel
theorem dL_law_1649 : decode cL_law 1649 = .ok (.aload_n 0, 1) := by decide +kernel
theorem dL_law_1650 : decode cL_law 1650 = .ok (.iload 5, 2) := by decide +kernel
theorem dL_law_1652 : decode cL_law 1652 = .ok (.iconst 1, 1) := by decide +kernel
theorem dL_law_1653 : decode cL_law 1653 = .ok (.iadd, 1) := by decide +kernel
theorem dL_law_1654 : decode cL_law 1654 = .ok (.iaload, 1) := by decide +kernel
theorem dL_law_1655 : decode cL_law 1655 = .ok (.aload_n 0, 1) := by decide +kernel
theorem dL_law_1656 : decode cL_law 1656 = .ok (.iload 5, 2) := by decide +kernel
theorem dL_law_1658 : decode cL_law 1658 = .ok (.iconst 2, 1) := by decide +kernel
theorem dL_law_1659 : decode cL_law 1659 = .ok (.iadd, 1) := by decide +kernel
theorem dL_law_1660 : decode cL_law 1660 = .ok (.iaload, 1) := by decide +kernel
theorem dL_law_1661 : decode cL_law 1661 = .ok (.invokevirtual 206, 3) := by decide +kernel
theorem dL_law_1664 : decode cL_law 1664 = .ok (.istore 7, 2) := by decide +kernel
theorem dL_law_1666 : decode cL_law 1666 = .ok (.aload_n 2, 1) := by decide +kernel
theorem dL_law_1667 : decode cL_law 1667 = .ok (.invokevirtual 134, 3) := by decide +kernel
theorem dL_law_1670 : decode cL_law 1670 = .ok (.iload 6, 2) := by decide +kernel
theorem dL_law_1672 : decode cL_law 1672 = .ok (.if_icmp .eq 5, 3) := by decide +kernel
theorem dL_law_1675 : decode cL_law 1675 = .ok (.iconst 0, 1) := by decide +kernel
theorem dL_law_1676 : decode cL_law 1676 = .ok (.ireturn, 1) := by decide +kernel
theorem dL_law_1677 : decode cL_law 1677 = .ok (.iload 6, 2) := by decide +kernel
theorem dL_law_1679 : decode cL_law 1679 = .ok (.ifCond .ne 15, 3) := by decide +kernel
theorem dL_law_1682 : decode cL_law 1682 = .ok (.aload_n 3, 1) := by decide +kernel
theorem dL_law_1683 : decode cL_law 1683 = .ok (.iconst 0, 1) := by decide +kernel
theorem dL_law_1684 : decode cL_law 1684 = .ok (.laload, 1) := by decide +kernel
theorem dL_law_1685 : decode cL_law 1685 = .ok (.iload 7, 2) := by decide +kernel
theorem dL_law_1687 : decode cL_law 1687 = .ok (.i2l, 1) := by decide +kernel
theorem dL_law_1688 : decode cL_law 1688 = .ok (.lcmp, 1) := by decide +kernel
theorem dL_law_1689 : decode cL_law 1689 = .ok (.ifCond .eq 5, 3) := by decide +kernel
theorem dL_law_1692 : decode cL_law 1692 = .ok (.iconst 0, 1) := by decide +kernel
theorem dL_law_1693 : decode cL_law 1693 = .ok (.ireturn, 1) := by decide +kernel
theorem dL_law_1694 : decode cL_law 1694 = .ok (.goto 553, 3) := by decide +kernel
theorem dL_law_1697 : decode cL_law 1697 = .ok (.aload_n 1, 1) := by decide +kernel
theorem dL_law_1698 : decode cL_law 1698 = .ok (.aload_n 0, 1) := by decide +kernel
theorem dL_law_1699 : decode cL_law 1699 = .ok (.iload 5, 2) := by decide +kernel
theorem dL_law_1701 : decode cL_law 1701 = .ok (.iconst 1, 1) := by decide +kernel
theorem dL_law_1702 : decode cL_law 1702 = .ok (.iadd, 1) := by decide +kernel
theorem dL_law_1703 : decode cL_law 1703 = .ok (.iaload, 1) := by decide +kernel
theorem dL_law_1704 : decode cL_law 1704 = .ok (.aload_n 0, 1) := by decide +kernel
theorem dL_law_1705 : decode cL_law 1705 = .ok (.iload 5, 2) := by decide +kernel
theorem dL_law_1707 : decode cL_law 1707 = .ok (.iconst 2, 1) := by decide +kernel
theorem dL_law_1708 : decode cL_law 1708 = .ok (.iadd, 1) := by decide +kernel
theorem dL_law_1709 : decode cL_law 1709 = .ok (.iaload, 1) := by decide +kernel
theorem dL_law_1710 : decode cL_law 1710 = .ok (.aload_n 3, 1) := by decide +kernel
theorem dL_law_1711 : decode cL_law 1711 = .ok (.invokestatic 207, 3) := by decide +kernel
theorem dL_law_1714 : decode cL_law 1714 = .ok (.istore 6, 2) := by decide +kernel
theorem dL_law_1716 : decode cL_law 1716 = .ok (.aload_n 2, 1) := by decide +kernel
theorem dL_law_1717 : decode cL_law 1717 = .ok (.aload_n 0, 1) := by decide +kernel
theorem dL_law_1718 : decode cL_law 1718 = .ok (.iload 5, 2) := by decide +kernel
theorem dL_law_1720 : decode cL_law 1720 = .ok (.iconst 1, 1) := by decide +kernel
theorem dL_law_1721 : decode cL_law 1721 = .ok (.iadd, 1) := by decide +kernel
theorem dL_law_1722 : decode cL_law 1722 = .ok (.iaload, 1) := by decide +kernel
theorem dL_law_1723 : decode cL_law 1723 = .ok (.aload_n 0, 1) := by decide +kernel
theorem dL_law_1724 : decode cL_law 1724 = .ok (.iload 5, 2) := by decide +kernel
theorem dL_law_1726 : decode cL_law 1726 = .ok (.iconst 2, 1) := by decide +kernel
theorem dL_law_1727 : decode cL_law 1727 = .ok (.iadd, 1) := by decide +kernel
theorem dL_law_1728 : decode cL_law 1728 = .ok (.iaload, 1) := by decide +kernel
theorem dL_law_1729 : decode cL_law 1729 = .ok (.invokevirtual 209, 3) := by decide +kernel
theorem dL_law_1732 : decode cL_law 1732 = .ok (.istore 7, 2) := by decide +kernel
theorem dL_law_1734 : decode cL_law 1734 = .ok (.aload_n 2, 1) := by decide +kernel
theorem dL_law_1735 : decode cL_law 1735 = .ok (.invokevirtual 134, 3) := by decide +kernel
theorem dL_law_1738 : decode cL_law 1738 = .ok (.iload 6, 2) := by decide +kernel
theorem dL_law_1740 : decode cL_law 1740 = .ok (.if_icmp .eq 5, 3) := by decide +kernel
theorem dL_law_1743 : decode cL_law 1743 = .ok (.iconst 0, 1) := by decide +kernel
theorem dL_law_1744 : decode cL_law 1744 = .ok (.ireturn, 1) := by decide +kernel
theorem dL_law_1745 : decode cL_law 1745 = .ok (.iload 6, 2) := by decide +kernel
theorem dL_law_1747 : decode cL_law 1747 = .ok (.ifCond .ne 15, 3) := by decide +kernel
theorem dL_law_1750 : decode cL_law 1750 = .ok (.aload_n 3, 1) := by decide +kernel
theorem dL_law_1751 : decode cL_law 1751 = .ok (.iconst 0, 1) := by decide +kernel
theorem dL_law_1752 : decode cL_law 1752 = .ok (.laload, 1) := by decide +kernel
theorem dL_law_1753 : decode cL_law 1753 = .ok (.iload 7, 2) := by decide +kernel
theorem dL_law_1755 : decode cL_law 1755 = .ok (.i2l, 1) := by decide +kernel
theorem dL_law_1756 : decode cL_law 1756 = .ok (.lcmp, 1) := by decide +kernel
theorem dL_law_1757 : decode cL_law 1757 = .ok (.ifCond .eq 5, 3) := by decide +kernel
theorem dL_law_1760 : decode cL_law 1760 = .ok (.iconst 0, 1) := by decide +kernel
theorem dL_law_1761 : decode cL_law 1761 = .ok (.ireturn, 1) := by decide +kernel
theorem dL_law_1762 : decode cL_law 1762 = .ok (.goto 485, 3) := by decide +kernel
theorem dL_law_1765 : decode cL_law 1765 = .ok (.aload_n 1, 1) := by decide +kernel
theorem dL_law_1766 : decode cL_law 1766 = .ok (.aload_n 0, 1) := by decide +kernel
theorem dL_law_1767 : decode cL_law 1767 = .ok (.iload 5, 2) := by decide +kernel
theorem dL_law_1769 : decode cL_law 1769 = .ok (.iconst 1, 1) := by decide +kernel
theorem dL_law_1770 : decode cL_law 1770 = .ok (.iadd, 1) := by decide +kernel
theorem dL_law_1771 : decode cL_law 1771 = .ok (.iaload, 1) := by decide +kernel
theorem dL_law_1772 : decode cL_law 1772 = .ok (.aload_n 0, 1) := by decide +kernel
theorem dL_law_1773 : decode cL_law 1773 = .ok (.iload 5, 2) := by decide +kernel
theorem dL_law_1775 : decode cL_law 1775 = .ok (.iconst 2, 1) := by decide +kernel
theorem dL_law_1776 : decode cL_law 1776 = .ok (.iadd, 1) := by decide +kernel
theorem dL_law_1777 : decode cL_law 1777 = .ok (.iaload, 1) := by decide +kernel
theorem dL_law_1778 : decode cL_law 1778 = .ok (.aload_n 0, 1) := by decide +kernel
theorem dL_law_1779 : decode cL_law 1779 = .ok (.iload 5, 2) := by decide +kernel
theorem dL_law_1781 : decode cL_law 1781 = .ok (.iconst 3, 1) := by decide +kernel
theorem dL_law_1782 : decode cL_law 1782 = .ok (.iadd, 1) := by decide +kernel
theorem dL_law_1783 : decode cL_law 1783 = .ok (.iaload, 1) := by decide +kernel
theorem dL_law_1784 : decode cL_law 1784 = .ok (.aload_n 3, 1) := by decide +kernel
theorem dL_law_1785 : decode cL_law 1785 = .ok (.invokestatic 210, 3) := by decide +kernel
theorem dL_law_1788 : decode cL_law 1788 = .ok (.istore 6, 2) := by decide +kernel
theorem dL_law_1790 : decode cL_law 1790 = .ok (.aload_n 2, 1) := by decide +kernel
theorem dL_law_1791 : decode cL_law 1791 = .ok (.aload_n 0, 1) := by decide +kernel
theorem dL_law_1792 : decode cL_law 1792 = .ok (.iload 5, 2) := by decide +kernel
theorem dL_law_1794 : decode cL_law 1794 = .ok (.iconst 1, 1) := by decide +kernel
theorem dL_law_1795 : decode cL_law 1795 = .ok (.iadd, 1) := by decide +kernel
theorem dL_law_1796 : decode cL_law 1796 = .ok (.iaload, 1) := by decide +kernel
theorem dL_law_1797 : decode cL_law 1797 = .ok (.aload_n 0, 1) := by decide +kernel
theorem dL_law_1798 : decode cL_law 1798 = .ok (.iload 5, 2) := by decide +kernel
theorem dL_law_1800 : decode cL_law 1800 = .ok (.iconst 2, 1) := by decide +kernel
theorem dL_law_1801 : decode cL_law 1801 = .ok (.iadd, 1) := by decide +kernel
theorem dL_law_1802 : decode cL_law 1802 = .ok (.iaload, 1) := by decide +kernel
theorem dL_law_1803 : decode cL_law 1803 = .ok (.aload_n 0, 1) := by decide +kernel
theorem dL_law_1804 : decode cL_law 1804 = .ok (.iload 5, 2) := by decide +kernel
theorem dL_law_1806 : decode cL_law 1806 = .ok (.iconst 3, 1) := by decide +kernel
theorem dL_law_1807 : decode cL_law 1807 = .ok (.iadd, 1) := by decide +kernel
theorem dL_law_1808 : decode cL_law 1808 = .ok (.iaload, 1) := by decide +kernel
theorem dL_law_1809 : decode cL_law 1809 = .ok (.invokevirtual 212, 3) := by decide +kernel
theorem dL_law_1812 : decode cL_law 1812 = .ok (.istore 7, 2) := by decide +kernel
theorem dL_law_1814 : decode cL_law 1814 = .ok (.aload_n 2, 1) := by decide +kernel
theorem dL_law_1815 : decode cL_law 1815 = .ok (.invokevirtual 134, 3) := by decide +kernel
theorem dL_law_1818 : decode cL_law 1818 = .ok (.iload 6, 2) := by decide +kernel
theorem dL_law_1820 : decode cL_law 1820 = .ok (.if_icmp .eq 5, 3) := by decide +kernel
theorem dL_law_1823 : decode cL_law 1823 = .ok (.iconst 0, 1) := by decide +kernel
theorem dL_law_1824 : decode cL_law 1824 = .ok (.ireturn, 1) := by decide +kernel
theorem dL_law_1825 : decode cL_law 1825 = .ok (.iload 6, 2) := by decide +kernel
theorem dL_law_1827 : decode cL_law 1827 = .ok (.ifCond .ne 15, 3) := by decide +kernel
theorem dL_law_1830 : decode cL_law 1830 = .ok (.aload_n 3, 1) := by decide +kernel
theorem dL_law_1831 : decode cL_law 1831 = .ok (.iconst 0, 1) := by decide +kernel
theorem dL_law_1832 : decode cL_law 1832 = .ok (.laload, 1) := by decide +kernel
theorem dL_law_1833 : decode cL_law 1833 = .ok (.iload 7, 2) := by decide +kernel
theorem dL_law_1835 : decode cL_law 1835 = .ok (.i2l, 1) := by decide +kernel
theorem dL_law_1836 : decode cL_law 1836 = .ok (.lcmp, 1) := by decide +kernel
theorem dL_law_1837 : decode cL_law 1837 = .ok (.ifCond .eq 5, 3) := by decide +kernel
theorem dL_law_1840 : decode cL_law 1840 = .ok (.iconst 0, 1) := by decide +kernel
theorem dL_law_1841 : decode cL_law 1841 = .ok (.ireturn, 1) := by decide +kernel
theorem dL_law_1842 : decode cL_law 1842 = .ok (.goto 405, 3) := by decide +kernel
theorem dL_law_1845 : decode cL_law 1845 = .ok (.aload_n 1, 1) := by decide +kernel
theorem dL_law_1846 : decode cL_law 1846 = .ok (.aload_n 0, 1) := by decide +kernel
theorem dL_law_1847 : decode cL_law 1847 = .ok (.iload 5, 2) := by decide +kernel
theorem dL_law_1849 : decode cL_law 1849 = .ok (.iconst 1, 1) := by decide +kernel
theorem dL_law_1850 : decode cL_law 1850 = .ok (.iadd, 1) := by decide +kernel
theorem dL_law_1851 : decode cL_law 1851 = .ok (.iaload, 1) := by decide +kernel
theorem dL_law_1852 : decode cL_law 1852 = .ok (.aload_n 3, 1) := by decide +kernel
theorem dL_law_1853 : decode cL_law 1853 = .ok (.invokestatic 213, 3) := by decide +kernel
theorem dL_law_1856 : decode cL_law 1856 = .ok (.istore 6, 2) := by decide +kernel
theorem dL_law_1858 : decode cL_law 1858 = .ok (.aload_n 2, 1) := by decide +kernel
theorem dL_law_1859 : decode cL_law 1859 = .ok (.aload_n 0, 1) := by decide +kernel
theorem dL_law_1860 : decode cL_law 1860 = .ok (.iload 5, 2) := by decide +kernel
theorem dL_law_1862 : decode cL_law 1862 = .ok (.iconst 1, 1) := by decide +kernel
theorem dL_law_1863 : decode cL_law 1863 = .ok (.iadd, 1) := by decide +kernel
theorem dL_law_1864 : decode cL_law 1864 = .ok (.iaload, 1) := by decide +kernel
theorem dL_law_1865 : decode cL_law 1865 = .ok (.invokevirtual 215, 3) := by decide +kernel
theorem dL_law_1868 : decode cL_law 1868 = .ok (.istore 7, 2) := by decide +kernel
theorem dL_law_1870 : decode cL_law 1870 = .ok (.aload_n 2, 1) := by decide +kernel
theorem dL_law_1871 : decode cL_law 1871 = .ok (.invokevirtual 134, 3) := by decide +kernel
theorem dL_law_1874 : decode cL_law 1874 = .ok (.iload 6, 2) := by decide +kernel
theorem dL_law_1876 : decode cL_law 1876 = .ok (.if_icmp .eq 5, 3) := by decide +kernel
theorem dL_law_1879 : decode cL_law 1879 = .ok (.iconst 0, 1) := by decide +kernel
theorem dL_law_1880 : decode cL_law 1880 = .ok (.ireturn, 1) := by decide +kernel
theorem dL_law_1881 : decode cL_law 1881 = .ok (.iload 6, 2) := by decide +kernel
theorem dL_law_1883 : decode cL_law 1883 = .ok (.ifCond .ne 15, 3) := by decide +kernel
theorem dL_law_1886 : decode cL_law 1886 = .ok (.aload_n 3, 1) := by decide +kernel
theorem dL_law_1887 : decode cL_law 1887 = .ok (.iconst 0, 1) := by decide +kernel
theorem dL_law_1888 : decode cL_law 1888 = .ok (.laload, 1) := by decide +kernel
theorem dL_law_1889 : decode cL_law 1889 = .ok (.iload 7, 2) := by decide +kernel
theorem dL_law_1891 : decode cL_law 1891 = .ok (.i2l, 1) := by decide +kernel
theorem dL_law_1892 : decode cL_law 1892 = .ok (.lcmp, 1) := by decide +kernel
theorem dL_law_1893 : decode cL_law 1893 = .ok (.ifCond .eq 5, 3) := by decide +kernel
theorem dL_law_1896 : decode cL_law 1896 = .ok (.iconst 0, 1) := by decide +kernel
theorem dL_law_1897 : decode cL_law 1897 = .ok (.ireturn, 1) := by decide +kernel
theorem dL_law_1898 : decode cL_law 1898 = .ok (.goto 349, 3) := by decide +kernel
theorem dL_law_1901 : decode cL_law 1901 = .ok (.aload_n 1, 1) := by decide +kernel
theorem dL_law_1902 : decode cL_law 1902 = .ok (.aload_n 0, 1) := by decide +kernel
theorem dL_law_1903 : decode cL_law 1903 = .ok (.iload 5, 2) := by decide +kernel
theorem dL_law_1905 : decode cL_law 1905 = .ok (.iconst 1, 1) := by decide +kernel
theorem dL_law_1906 : decode cL_law 1906 = .ok (.iadd, 1) := by decide +kernel
theorem dL_law_1907 : decode cL_law 1907 = .ok (.iaload, 1) := by decide +kernel
theorem dL_law_1908 : decode cL_law 1908 = .ok (.aload_n 3, 1) := by decide +kernel
theorem dL_law_1909 : decode cL_law 1909 = .ok (.invokestatic 216, 3) := by decide +kernel
theorem dL_law_1912 : decode cL_law 1912 = .ok (.istore 6, 2) := by decide +kernel
theorem dL_law_1914 : decode cL_law 1914 = .ok (.aload_n 2, 1) := by decide +kernel
theorem dL_law_1915 : decode cL_law 1915 = .ok (.aload_n 0, 1) := by decide +kernel
theorem dL_law_1916 : decode cL_law 1916 = .ok (.iload 5, 2) := by decide +kernel
theorem dL_law_1918 : decode cL_law 1918 = .ok (.iconst 1, 1) := by decide +kernel
theorem dL_law_1919 : decode cL_law 1919 = .ok (.iadd, 1) := by decide +kernel
theorem dL_law_1920 : decode cL_law 1920 = .ok (.iaload, 1) := by decide +kernel
theorem dL_law_1921 : decode cL_law 1921 = .ok (.invokevirtual 218, 3) := by decide +kernel
theorem dL_law_1924 : decode cL_law 1924 = .ok (.istore 7, 2) := by decide +kernel
theorem dL_law_1926 : decode cL_law 1926 = .ok (.aload_n 2, 1) := by decide +kernel
theorem dL_law_1927 : decode cL_law 1927 = .ok (.invokevirtual 134, 3) := by decide +kernel
theorem dL_law_1930 : decode cL_law 1930 = .ok (.iload 6, 2) := by decide +kernel
theorem dL_law_1932 : decode cL_law 1932 = .ok (.if_icmp .eq 5, 3) := by decide +kernel
theorem dL_law_1935 : decode cL_law 1935 = .ok (.iconst 0, 1) := by decide +kernel
theorem dL_law_1936 : decode cL_law 1936 = .ok (.ireturn, 1) := by decide +kernel
theorem dL_law_1937 : decode cL_law 1937 = .ok (.iload 6, 2) := by decide +kernel
theorem dL_law_1939 : decode cL_law 1939 = .ok (.ifCond .ne 15, 3) := by decide +kernel
theorem dL_law_1942 : decode cL_law 1942 = .ok (.aload_n 3, 1) := by decide +kernel
theorem dL_law_1943 : decode cL_law 1943 = .ok (.iconst 0, 1) := by decide +kernel
theorem dL_law_1944 : decode cL_law 1944 = .ok (.laload, 1) := by decide +kernel
theorem dL_law_1945 : decode cL_law 1945 = .ok (.iload 7, 2) := by decide +kernel
theorem dL_law_1947 : decode cL_law 1947 = .ok (.i2l, 1) := by decide +kernel
theorem dL_law_1948 : decode cL_law 1948 = .ok (.lcmp, 1) := by decide +kernel
theorem dL_law_1949 : decode cL_law 1949 = .ok (.ifCond .eq 5, 3) := by decide +kernel
theorem dL_law_1952 : decode cL_law 1952 = .ok (.iconst 0, 1) := by decide +kernel
theorem dL_law_1953 : decode cL_law 1953 = .ok (.ireturn, 1) := by decide +kernel
theorem dL_law_1954 : decode cL_law 1954 = .ok (.goto 293, 3) := by decide +kernel
theorem dL_law_1957 : decode cL_law 1957 = .ok (.aload_n 1, 1) := by decide +kernel
theorem dL_law_1958 : decode cL_law 1958 = .ok (.aload_n 0, 1) := by decide +kernel
theorem dL_law_1959 : decode cL_law 1959 = .ok (.iload 5, 2) := by decide +kernel
theorem dL_law_1961 : decode cL_law 1961 = .ok (.iconst 1, 1) := by decide +kernel
theorem dL_law_1962 : decode cL_law 1962 = .ok (.iadd, 1) := by decide +kernel
theorem dL_law_1963 : decode cL_law 1963 = .ok (.iaload, 1) := by decide +kernel
theorem dL_law_1964 : decode cL_law 1964 = .ok (.aload_n 3, 1) := by decide +kernel
theorem dL_law_1965 : decode cL_law 1965 = .ok (.invokestatic 219, 3) := by decide +kernel
theorem dL_law_1968 : decode cL_law 1968 = .ok (.istore 6, 2) := by decide +kernel
theorem dL_law_1970 : decode cL_law 1970 = .ok (.aload_n 2, 1) := by decide +kernel
theorem dL_law_1971 : decode cL_law 1971 = .ok (.aload_n 0, 1) := by decide +kernel
theorem dL_law_1972 : decode cL_law 1972 = .ok (.iload 5, 2) := by decide +kernel
theorem dL_law_1974 : decode cL_law 1974 = .ok (.iconst 1, 1) := by decide +kernel
theorem dL_law_1975 : decode cL_law 1975 = .ok (.iadd, 1) := by decide +kernel
theorem dL_law_1976 : decode cL_law 1976 = .ok (.iaload, 1) := by decide +kernel
theorem dL_law_1977 : decode cL_law 1977 = .ok (.invokevirtual 221, 3) := by decide +kernel
theorem dL_law_1980 : decode cL_law 1980 = .ok (.istore 7, 2) := by decide +kernel
theorem dL_law_1982 : decode cL_law 1982 = .ok (.aload_n 2, 1) := by decide +kernel
theorem dL_law_1983 : decode cL_law 1983 = .ok (.invokevirtual 134, 3) := by decide +kernel
theorem dL_law_1986 : decode cL_law 1986 = .ok (.iload 6, 2) := by decide +kernel
theorem dL_law_1988 : decode cL_law 1988 = .ok (.if_icmp .eq 5, 3) := by decide +kernel
theorem dL_law_1991 : decode cL_law 1991 = .ok (.iconst 0, 1) := by decide +kernel
theorem dL_law_1992 : decode cL_law 1992 = .ok (.ireturn, 1) := by decide +kernel
theorem dL_law_1993 : decode cL_law 1993 = .ok (.iload 6, 2) := by decide +kernel
theorem dL_law_1995 : decode cL_law 1995 = .ok (.ifCond .ne 15, 3) := by decide +kernel
theorem dL_law_1998 : decode cL_law 1998 = .ok (.aload_n 3, 1) := by decide +kernel
theorem dL_law_1999 : decode cL_law 1999 = .ok (.iconst 0, 1) := by decide +kernel
theorem dL_law_2000 : decode cL_law 2000 = .ok (.laload, 1) := by decide +kernel
theorem dL_law_2001 : decode cL_law 2001 = .ok (.iload 7, 2) := by decide +kernel
theorem dL_law_2003 : decode cL_law 2003 = .ok (.i2l, 1) := by decide +kernel
theorem dL_law_2004 : decode cL_law 2004 = .ok (.lcmp, 1) := by decide +kernel
theorem dL_law_2005 : decode cL_law 2005 = .ok (.ifCond .eq 5, 3) := by decide +kernel
theorem dL_law_2008 : decode cL_law 2008 = .ok (.iconst 0, 1) := by decide +kernel
theorem dL_law_2009 : decode cL_law 2009 = .ok (.ireturn, 1) := by decide +kernel
theorem dL_law_2010 : decode cL_law 2010 = .ok (.goto 237, 3) := by decide +kernel
theorem dL_law_2013 : decode cL_law 2013 = .ok (.aload_n 1, 1) := by decide +kernel
theorem dL_law_2014 : decode cL_law 2014 = .ok (.aload_n 0, 1) := by decide +kernel
theorem dL_law_2015 : decode cL_law 2015 = .ok (.iload 5, 2) := by decide +kernel
theorem dL_law_2017 : decode cL_law 2017 = .ok (.iconst 1, 1) := by decide +kernel
theorem dL_law_2018 : decode cL_law 2018 = .ok (.iadd, 1) := by decide +kernel
theorem dL_law_2019 : decode cL_law 2019 = .ok (.iaload, 1) := by decide +kernel
theorem dL_law_2020 : decode cL_law 2020 = .ok (.aload_n 3, 1) := by decide +kernel
theorem dL_law_2021 : decode cL_law 2021 = .ok (.invokestatic 222, 3) := by decide +kernel
theorem dL_law_2024 : decode cL_law 2024 = .ok (.istore 6, 2) := by decide +kernel
theorem dL_law_2026 : decode cL_law 2026 = .ok (.aload_n 2, 1) := by decide +kernel
theorem dL_law_2027 : decode cL_law 2027 = .ok (.aload_n 0, 1) := by decide +kernel
theorem dL_law_2028 : decode cL_law 2028 = .ok (.iload 5, 2) := by decide +kernel
theorem dL_law_2030 : decode cL_law 2030 = .ok (.iconst 1, 1) := by decide +kernel
theorem dL_law_2031 : decode cL_law 2031 = .ok (.iadd, 1) := by decide +kernel
theorem dL_law_2032 : decode cL_law 2032 = .ok (.iaload, 1) := by decide +kernel
theorem dL_law_2033 : decode cL_law 2033 = .ok (.invokevirtual 224, 3) := by decide +kernel
theorem dL_law_2036 : decode cL_law 2036 = .ok (.istore 7, 2) := by decide +kernel
theorem dL_law_2038 : decode cL_law 2038 = .ok (.aload_n 2, 1) := by decide +kernel
theorem dL_law_2039 : decode cL_law 2039 = .ok (.invokevirtual 134, 3) := by decide +kernel
theorem dL_law_2042 : decode cL_law 2042 = .ok (.iload 6, 2) := by decide +kernel
theorem dL_law_2044 : decode cL_law 2044 = .ok (.if_icmp .eq 5, 3) := by decide +kernel
theorem dL_law_2047 : decode cL_law 2047 = .ok (.iconst 0, 1) := by decide +kernel
theorem dL_law_2048 : decode cL_law 2048 = .ok (.ireturn, 1) := by decide +kernel
theorem dL_law_2049 : decode cL_law 2049 = .ok (.iload 6, 2) := by decide +kernel
theorem dL_law_2051 : decode cL_law 2051 = .ok (.ifCond .ne 22, 3) := by decide +kernel
theorem dL_law_2054 : decode cL_law 2054 = .ok (.aload_n 3, 1) := by decide +kernel
theorem dL_law_2055 : decode cL_law 2055 = .ok (.iconst 0, 1) := by decide +kernel
theorem dL_law_2056 : decode cL_law 2056 = .ok (.laload, 1) := by decide +kernel
theorem dL_law_2057 : decode cL_law 2057 = .ok (.iload 7, 2) := by decide +kernel
theorem dL_law_2059 : decode cL_law 2059 = .ok (.ifCond .eq 7, 3) := by decide +kernel
theorem dL_law_2062 : decode cL_law 2062 = .ok (.lconst 1, 1) := by decide +kernel
theorem dL_law_2063 : decode cL_law 2063 = .ok (.goto 4, 3) := by decide +kernel
theorem dL_law_2066 : decode cL_law 2066 = .ok (.lconst 0, 1) := by decide +kernel
theorem dL_law_2067 : decode cL_law 2067 = .ok (.lcmp, 1) := by decide +kernel
theorem dL_law_2068 : decode cL_law 2068 = .ok (.ifCond .eq 5, 3) := by decide +kernel
theorem dL_law_2071 : decode cL_law 2071 = .ok (.iconst 0, 1) := by decide +kernel
theorem dL_law_2072 : decode cL_law 2072 = .ok (.ireturn, 1) := by decide +kernel
theorem dL_law_2073 : decode cL_law 2073 = .ok (.goto 174, 3) := by decide +kernel
theorem dL_law_2076 : decode cL_law 2076 = .ok (.aload_n 1, 1) := by decide +kernel
theorem dL_law_2077 : decode cL_law 2077 = .ok (.invokevirtual 225, 3) := by decide +kernel
theorem dL_law_2080 : decode cL_law 2080 = .ok (.aload_n 2, 1) := by decide +kernel
theorem dL_law_2081 : decode cL_law 2081 = .ok (.invokevirtual 228, 3) := by decide +kernel
theorem dL_law_2084 : decode cL_law 2084 = .ok (.if_icmp .eq 163, 3) := by decide +kernel
theorem dL_law_2087 : decode cL_law 2087 = .ok (.iconst 0, 1) := by decide +kernel
theorem dL_law_2088 : decode cL_law 2088 = .ok (.ireturn, 1) := by decide +kernel
theorem dL_law_2089 : decode cL_law 2089 = .ok (.aload_n 1, 1) := by decide +kernel
theorem dL_law_2090 : decode cL_law 2090 = .ok (.invokevirtual 229, 3) := by decide +kernel
theorem dL_law_2093 : decode cL_law 2093 = .ok (.aload_n 2, 1) := by decide +kernel
theorem dL_law_2094 : decode cL_law 2094 = .ok (.invokevirtual 233, 3) := by decide +kernel
theorem dL_law_2097 : decode cL_law 2097 = .ok (.lcmp, 1) := by decide +kernel
theorem dL_law_2098 : decode cL_law 2098 = .ok (.ifCond .eq 149, 3) := by decide +kernel
theorem dL_law_2101 : decode cL_law 2101 = .ok (.iconst 0, 1) := by decide +kernel
theorem dL_law_2102 : decode cL_law 2102 = .ok (.ireturn, 1) := by decide +kernel
theorem dL_law_2103 : decode cL_law 2103 = .ok (.aload_n 1, 1) := by decide +kernel
theorem dL_law_2104 : decode cL_law 2104 = .ok (.aload 4, 2) := by decide +kernel
theorem dL_law_2106 : decode cL_law 2106 = .ok (.invokestatic 234, 3) := by decide +kernel
theorem dL_law_2109 : decode cL_law 2109 = .ok (.istore 6, 2) := by decide +kernel
theorem dL_law_2111 : decode cL_law 2111 = .ok (.aload_n 2, 1) := by decide +kernel
theorem dL_law_2112 : decode cL_law 2112 = .ok (.invokevirtual 237, 3) := by decide +kernel
theorem dL_law_2115 : decode cL_law 2115 = .ok (.fstore 7, 2) := by decide +kernel
theorem dL_law_2117 : decode cL_law 2117 = .ok (.aload_n 2, 1) := by decide +kernel
theorem dL_law_2118 : decode cL_law 2118 = .ok (.invokevirtual 134, 3) := by decide +kernel
theorem dL_law_2121 : decode cL_law 2121 = .ok (.iload 6, 2) := by decide +kernel
theorem dL_law_2123 : decode cL_law 2123 = .ok (.if_icmp .eq 5, 3) := by decide +kernel
theorem dL_law_2126 : decode cL_law 2126 = .ok (.iconst 0, 1) := by decide +kernel
theorem dL_law_2127 : decode cL_law 2127 = .ok (.ireturn, 1) := by decide +kernel
theorem dL_law_2128 : decode cL_law 2128 = .ok (.iload 6, 2) := by decide +kernel
theorem dL_law_2130 : decode cL_law 2130 = .ok (.ifCond .ne 36, 3) := by decide +kernel
theorem dL_law_2133 : decode cL_law 2133 = .ok (.aload 4, 2) := by decide +kernel
theorem dL_law_2135 : decode cL_law 2135 = .ok (.iconst 0, 1) := by decide +kernel
theorem dL_law_2136 : decode cL_law 2136 = .ok (.daload, 1) := by decide +kernel
theorem dL_law_2137 : decode cL_law 2137 = .ok (.fload 7, 2) := by decide +kernel
theorem dL_law_2139 : decode cL_law 2139 = .ok (.f2d, 1) := by decide +kernel
theorem dL_law_2140 : decode cL_law 2140 = .ok (.dcmp .l, 1) := by decide +kernel
theorem dL_law_2141 : decode cL_law 2141 = .ok (.ifCond .eq 25, 3) := by decide +kernel
theorem dL_law_2144 : decode cL_law 2144 = .ok (.aload 4, 2) := by decide +kernel
theorem dL_law_2146 : decode cL_law 2146 = .ok (.iconst 0, 1) := by decide +kernel
theorem dL_law_2147 : decode cL_law 2147 = .ok (.daload, 1) := by decide +kernel
theorem dL_law_2148 : decode cL_law 2148 = .ok (.aload 4, 2) := by decide +kernel
theorem dL_law_2150 : decode cL_law 2150 = .ok (.iconst 0, 1) := by decide +kernel
theorem dL_law_2151 : decode cL_law 2151 = .ok (.daload, 1) := by decide +kernel
theorem dL_law_2152 : decode cL_law 2152 = .ok (.dcmp .l, 1) := by decide +kernel
theorem dL_law_2153 : decode cL_law 2153 = .ok (.ifCond .eq 11, 3) := by decide +kernel
theorem dL_law_2156 : decode cL_law 2156 = .ok (.fload 7, 2) := by decide +kernel
theorem dL_law_2158 : decode cL_law 2158 = .ok (.fload 7, 2) := by decide +kernel
theorem dL_law_2160 : decode cL_law 2160 = .ok (.fcmp .l, 1) := by decide +kernel
theorem dL_law_2161 : decode cL_law 2161 = .ok (.ifCond .ne 5, 3) := by decide +kernel
theorem dL_law_2164 : decode cL_law 2164 = .ok (.iconst 0, 1) := by decide +kernel
theorem dL_law_2165 : decode cL_law 2165 = .ok (.ireturn, 1) := by decide +kernel
theorem dL_law_2166 : decode cL_law 2166 = .ok (.goto 81, 3) := by decide +kernel
theorem dL_law_2169 : decode cL_law 2169 = .ok (.aload_n 1, 1) := by decide +kernel
theorem dL_law_2170 : decode cL_law 2170 = .ok (.aload 4, 2) := by decide +kernel
theorem dL_law_2172 : decode cL_law 2172 = .ok (.invokestatic 238, 3) := by decide +kernel
theorem dL_law_2175 : decode cL_law 2175 = .ok (.istore 6, 2) := by decide +kernel
theorem dL_law_2177 : decode cL_law 2177 = .ok (.aload_n 2, 1) := by decide +kernel
theorem dL_law_2178 : decode cL_law 2178 = .ok (.invokevirtual 240, 3) := by decide +kernel
theorem dL_law_2181 : decode cL_law 2181 = .ok (.dstore 7, 2) := by decide +kernel
theorem dL_law_2183 : decode cL_law 2183 = .ok (.aload_n 2, 1) := by decide +kernel
theorem dL_law_2184 : decode cL_law 2184 = .ok (.invokevirtual 134, 3) := by decide +kernel
theorem dL_law_2187 : decode cL_law 2187 = .ok (.iload 6, 2) := by decide +kernel
theorem dL_law_2189 : decode cL_law 2189 = .ok (.if_icmp .eq 5, 3) := by decide +kernel
theorem dL_law_2192 : decode cL_law 2192 = .ok (.iconst 0, 1) := by decide +kernel
theorem dL_law_2193 : decode cL_law 2193 = .ok (.ireturn, 1) := by decide +kernel
theorem dL_law_2194 : decode cL_law 2194 = .ok (.iload 6, 2) := by decide +kernel
theorem dL_law_2196 : decode cL_law 2196 = .ok (.ifCond .ne 35, 3) := by decide +kernel
theorem dL_law_2199 : decode cL_law 2199 = .ok (.aload 4, 2) := by decide +kernel
theorem dL_law_2201 : decode cL_law 2201 = .ok (.iconst 0, 1) := by decide +kernel
theorem dL_law_2202 : decode cL_law 2202 = .ok (.daload, 1) := by decide +kernel
theorem dL_law_2203 : decode cL_law 2203 = .ok (.dload 7, 2) := by decide +kernel
theorem dL_law_2205 : decode cL_law 2205 = .ok (.dcmp .l, 1) := by decide +kernel
theorem dL_law_2206 : decode cL_law 2206 = .ok (.ifCond .eq 25, 3) := by decide +kernel
theorem dL_law_2209 : decode cL_law 2209 = .ok (.aload 4, 2) := by decide +kernel
theorem dL_law_2211 : decode cL_law 2211 = .ok (.iconst 0, 1) := by decide +kernel
theorem dL_law_2212 : decode cL_law 2212 = .ok (.daload, 1) := by decide +kernel
theorem dL_law_2213 : decode cL_law 2213 = .ok (.aload 4, 2) := by decide +kernel
theorem dL_law_2215 : decode cL_law 2215 = .ok (.iconst 0, 1) := by decide +kernel
theorem dL_law_2216 : decode cL_law 2216 = .ok (.daload, 1) := by decide +kernel
theorem dL_law_2217 : decode cL_law 2217 = .ok (.dcmp .l, 1) := by decide +kernel
theorem dL_law_2218 : decode cL_law 2218 = .ok (.ifCond .eq 11, 3) := by decide +kernel
theorem dL_law_2221 : decode cL_law 2221 = .ok (.dload 7, 2) := by decide +kernel
theorem dL_law_2223 : decode cL_law 2223 = .ok (.dload 7, 2) := by decide +kernel
theorem dL_law_2225 : decode cL_law 2225 = .ok (.dcmp .l, 1) := by decide +kernel
theorem dL_law_2226 : decode cL_law 2226 = .ok (.ifCond .ne 5, 3) := by decide +kernel
theorem dL_law_2229 : decode cL_law 2229 = .ok (.iconst 0, 1) := by decide +kernel
theorem dL_law_2230 : decode cL_law 2230 = .ok (.ireturn, 1) := by decide +kernel
theorem dL_law_2231 : decode cL_law 2231 = .ok (.goto 16, 3) := by decide +kernel
theorem dL_law_2234 : decode cL_law 2234 = .ok (.aload_n 1, 1) := by decide +kernel
theorem dL_law_2235 : decode cL_law 2235 = .ok (.invokevirtual 241, 3) := by decide +kernel
theorem dL_law_2238 : decode cL_law 2238 = .ok (.aload_n 2, 1) := by decide +kernel
theorem dL_law_2239 : decode cL_law 2239 = .ok (.invokevirtual 245, 3) := by decide +kernel
theorem dL_law_2242 : decode cL_law 2242 = .ok (.if_icmp .eq 5, 3) := by decide +kernel
theorem dL_law_2245 : decode cL_law 2245 = .ok (.iconst 0, 1) := by decide +kernel
theorem dL_law_2246 : decode cL_law 2246 = .ok (.ireturn, 1) := by decide +kernel
theorem dL_law_2247 : decode cL_law 2247 = .ok (.iinc 5 6, 3) := by decide +kernel
theorem dL_law_2250 : decode cL_law 2250 = .ok (.goto (-2222), 3) := by decide +kernel
theorem dL_law_2253 : decode cL_law 2253 = .ok (.iconst 1, 1) := by decide +kernel
theorem dL_law_2254 : decode cL_law 2254 = .ok (.ireturn, 1) := by decide +kernel
end
section
theorem dX5_init_0 : decode cX5_init 0 = .ok (.aload_n 0, 1) := by decide +kernel
theorem dX5_init_1 : decode cX5_init 1 = .ok (.invokespecial 1, 3) := by decide +kernel
theorem dX5_init_4 : decode cX5_init 4 = .ok (.aload_n 0, 1) := by decide +kernel
theorem dX5_init_5 : decode cX5_init 5 = .ok (.iconst 4, 1) := by decide +kernel
theorem dX5_init_6 : decode cX5_init 6 = .ok (.newarray .int, 2) := by decide +kernel
theorem dX5_init_8 : decode cX5_init 8 = .ok (.putfield 9, 3) := by decide +kernel
theorem dX5_init_11 : decode cX5_init 11 = .ok (.aload_n 0, 1) := by decide +kernel
theorem dX5_init_12 : decode cX5_init 12 = .ok (.iconst 4, 1) := by decide +kernel
theorem dX5_init_13 : decode cX5_init 13 = .ok (.newarray .int, 2) := by decide +kernel
theorem dX5_init_15 : decode cX5_init 15 = .ok (.putfield 13, 3) := by decide +kernel
theorem dX5_init_18 : decode cX5_init 18 = .ok (.aload_n 0, 1) := by decide +kernel
theorem dX5_init_19 : decode cX5_init 19 = .ok (.iconst 4, 1) := by decide +kernel
theorem dX5_init_20 : decode cX5_init 20 = .ok (.newarray .boolean, 2) := by decide +kernel
theorem dX5_init_22 : decode cX5_init 22 = .ok (.putfield 16, 3) := by decide +kernel
theorem dX5_init_25 : decode cX5_init 25 = .ok (.aload_n 0, 1) := by decide +kernel
theorem dX5_init_26 : decode cX5_init 26 = .ok (.bipush 6, 2) := by decide +kernel
theorem dX5_init_28 : decode cX5_init 28 = .ok (.newarray .boolean, 2) := by decide +kernel
theorem dX5_init_30 : decode cX5_init 30 = .ok (.putfield 20, 3) := by decide +kernel
theorem dX5_init_33 : decode cX5_init 33 = .ok (.aload_n 0, 1) := by decide +kernel
theorem dX5_init_34 : decode cX5_init 34 = .ok (.bipush 16, 2) := by decide +kernel
theorem dX5_init_36 : decode cX5_init 36 = .ok (.anewarray 23, 3) := by decide +kernel
theorem dX5_init_39 : decode cX5_init 39 = .ok (.putfield 25, 3) := by decide +kernel
theorem dX5_init_42 : decode cX5_init 42 = .ok (.aload_n 0, 1) := by decide +kernel
theorem dX5_init_43 : decode cX5_init 43 = .ok (.new 29, 3) := by decide +kernel
theorem dX5_init_46 : decode cX5_init 46 = .ok (.dup, 1) := by decide +kernel
theorem dX5_init_47 : decode cX5_init 47 = .ok (.invokespecial 31, 3) := by decide +kernel
theorem dX5_init_50 : decode cX5_init 50 = .ok (.putfield 32, 3) := by decide +kernel
theorem dX5_init_53 : decode cX5_init 53 = .ok (.aload_n 0, 1) := by decide +kernel
theorem dX5_init_54 : decode cX5_init 54 = .ok (.new 29, 3) := by decide +kernel
theorem dX5_init_57 : decode cX5_init 57 = .ok (.dup, 1) := by decide +kernel
theorem dX5_init_58 : decode cX5_init 58 = .ok (.invokespecial 31, 3) := by decide +kernel
theorem dX5_init_61 : decode cX5_init 61 = .ok (.putfield 36, 3) := by decide +kernel
theorem dX5_init_64 : decode cX5_init 64 = .ok (.aload_n 0, 1) := by decide +kernel
theorem dX5_init_65 : decode cX5_init 65 = .ok (.iconst 4, 1) := by decide +kernel
theorem dX5_init_66 : decode cX5_init 66 = .ok (.newarray .int, 2) := by decide +kernel
theorem dX5_init_68 : decode cX5_init 68 = .ok (.putfield 39, 3) := by decide +kernel
theorem dX5_init_71 : decode cX5_init 71 = .ok (.aload_n 0, 1) := by decide +kernel
theorem dX5_init_72 : decode cX5_init 72 = .ok (.bipush 64, 2) := by decide +kernel
theorem dX5_init_74 : decode cX5_init 74 = .ok (.newarray .int, 2) := by decide +kernel
theorem dX5_init_76 : decode cX5_init 76 = .ok (.putfield 42, 3) := by decide +kernel
theorem dX5_init_79 : decode cX5_init 79 = .ok (.aload_n 0, 1) := by decide +kernel
theorem dX5_init_80 : decode cX5_init 80 = .ok (.bipush 64, 2) := by decide +kernel
theorem dX5_init_82 : decode cX5_init 82 = .ok (.newarray .int, 2) := by decide +kernel
theorem dX5_init_84 : decode cX5_init 84 = .ok (.putfield 45, 3) := by decide +kernel
theorem dX5_init_87 : decode cX5_init 87 = .ok (.aload_n 0, 1) := by decide +kernel
theorem dX5_init_88 : decode cX5_init 88 = .ok (.new 48, 3) := by decide +kernel
theorem dX5_init_91 : decode cX5_init 91 = .ok (.dup, 1) := by decide +kernel
theorem dX5_init_92 : decode cX5_init 92 = .ok (.invokespecial 50, 3) := by decide +kernel
theorem dX5_init_95 : decode cX5_init 95 = .ok (.putfield 51, 3) := by decide +kernel
theorem dX5_init_98 : decode cX5_init 98 = .ok (.iconst 0, 1) := by decide +kernel
theorem dX5_init_99 : decode cX5_init 99 = .ok (.istore_n 1, 1) := by decide +kernel
theorem dX5_init_100 : decode cX5_init 100 = .ok (.iload_n 1, 1) := by decide +kernel
theorem dX5_init_101 : decode cX5_init 101 = .ok (.iconst 4, 1) := by decide +kernel
theorem dX5_init_102 : decode cX5_init 102 = .ok (.if_icmp .ge 16, 3) := by decide +kernel
theorem dX5_init_105 : decode cX5_init 105 = .ok (.aload_n 0, 1) := by decide +kernel
theorem dX5_init_106 : decode cX5_init 106 = .ok (.getfield 13, 3) := by decide +kernel
theorem dX5_init_109 : decode cX5_init 109 = .ok (.iload_n 1, 1) := by decide +kernel
theorem dX5_init_110 : decode cX5_init 110 = .ok (.iconst 1, 1) := by decide +kernel
theorem dX5_init_111 : decode cX5_init 111 = .ok (.iastore, 1) := by decide +kernel
theorem dX5_init_112 : decode cX5_init 112 = .ok (.iinc 1 1, 3) := by decide +kernel
theorem dX5_init_115 : decode cX5_init 115 = .ok (.goto (-15), 3) := by decide +kernel
theorem dX5_init_118 : decode cX5_init 118 = .ok (.iconst 0, 1) := by decide +kernel
theorem dX5_init_119 : decode cX5_init 119 = .ok (.istore_n 1, 1) := by decide +kernel
theorem dX5_init_120 : decode cX5_init 120 = .ok (.iload_n 1, 1) := by decide +kernel
theorem dX5_init_121 : decode cX5_init 121 = .ok (.bipush 16, 2) := by decide +kernel
theorem dX5_init_123 : decode cX5_init 123 = .ok (.if_icmp .ge 22, 3) := by decide +kernel
theorem dX5_init_126 : decode cX5_init 126 = .ok (.aload_n 0, 1) := by decide +kernel
theorem dX5_init_127 : decode cX5_init 127 = .ok (.getfield 25, 3) := by decide +kernel
theorem dX5_init_130 : decode cX5_init 130 = .ok (.iload_n 1, 1) := by decide +kernel
theorem dX5_init_131 : decode cX5_init 131 = .ok (.new 23, 3) := by decide +kernel
theorem dX5_init_134 : decode cX5_init 134 = .ok (.dup, 1) := by decide +kernel
theorem dX5_init_135 : decode cX5_init 135 = .ok (.invokespecial 55, 3) := by decide +kernel
theorem dX5_init_138 : decode cX5_init 138 = .ok (.aastore, 1) := by decide +kernel
theorem dX5_init_139 : decode cX5_init 139 = .ok (.iinc 1 1, 3) := by decide +kernel
theorem dX5_init_142 : decode cX5_init 142 = .ok (.goto (-22), 3) := by decide +kernel
theorem dX5_init_145 : decode cX5_init 145 = .ok (.return_, 1) := by decide +kernel
theorem dX5_setOwner_0 : decode cX5_setOwner 0 = .ok (.iload_n 1, 1) := by decide +kernel
theorem dX5_setOwner_1 : decode cX5_setOwner 1 = .ok (.invokestatic 56, 3) := by decide +kernel
theorem dX5_setOwner_4 : decode cX5_setOwner 4 = .ok (.iload_n 2, 1) := by decide +kernel
theorem dX5_setOwner_5 : decode cX5_setOwner 5 = .ok (.invokestatic 60, 3) := by decide +kernel
theorem dX5_setOwner_8 : decode cX5_setOwner 8 = .ok (.iload_n 3, 1) := by decide +kernel
theorem dX5_setOwner_9 : decode cX5_setOwner 9 = .ok (.invokestatic 60, 3) := by decide +kernel
theorem dX5_setOwner_12 : decode cX5_setOwner 12 = .ok (.iload_n 2, 1) := by decide +kernel
theorem dX5_setOwner_13 : decode cX5_setOwner 13 = .ok (.iload_n 3, 1) := by decide +kernel
theorem dX5_setOwner_14 : decode cX5_setOwner 14 = .ok (.if_icmp .ne 13, 3) := by decide +kernel
theorem dX5_setOwner_17 : decode cX5_setOwner 17 = .ok (.new 63, 3) := by decide +kernel
theorem dX5_setOwner_20 : decode cX5_setOwner 20 = .ok (.dup, 1) := by decide +kernel
theorem dX5_setOwner_21 : decode cX5_setOwner 21 = .ok (.ldc 65, 2) := by decide +kernel
theorem dX5_setOwner_23 : decode cX5_setOwner 23 = .ok (.invokespecial 67, 3) := by decide +kernel
theorem dX5_setOwner_26 : decode cX5_setOwner 26 = .ok (.athrow, 1) := by decide +kernel
theorem dX5_setOwner_27 : decode cX5_setOwner 27 = .ok (.aload_n 0, 1) := by decide +kernel
theorem dX5_setOwner_28 : decode cX5_setOwner 28 = .ok (.getfield 9, 3) := by decide +kernel
theorem dX5_setOwner_31 : decode cX5_setOwner 31 = .ok (.iload_n 1, 1) := by decide +kernel
theorem dX5_setOwner_32 : decode cX5_setOwner 32 = .ok (.iaload, 1) := by decide +kernel
theorem dX5_setOwner_33 : decode cX5_setOwner 33 = .ok (.istore 4, 2) := by decide +kernel
theorem dX5_setOwner_35 : decode cX5_setOwner 35 = .ok (.aload_n 0, 1) := by decide +kernel
theorem dX5_setOwner_36 : decode cX5_setOwner 36 = .ok (.getfield 9, 3) := by decide +kernel
theorem dX5_setOwner_39 : decode cX5_setOwner 39 = .ok (.iload_n 1, 1) := by decide +kernel
theorem dX5_setOwner_40 : decode cX5_setOwner 40 = .ok (.iload_n 2, 1) := by decide +kernel
theorem dX5_setOwner_41 : decode cX5_setOwner 41 = .ok (.iastore, 1) := by decide +kernel
theorem dX5_setOwner_42 : decode cX5_setOwner 42 = .ok (.aload_n 0, 1) := by decide +kernel
theorem dX5_setOwner_43 : decode cX5_setOwner 43 = .ok (.getfield 13, 3) := by decide +kernel
theorem dX5_setOwner_46 : decode cX5_setOwner 46 = .ok (.iload_n 1, 1) := by decide +kernel
theorem dX5_setOwner_47 : decode cX5_setOwner 47 = .ok (.iload_n 3, 1) := by decide +kernel
theorem dX5_setOwner_48 : decode cX5_setOwner 48 = .ok (.iastore, 1) := by decide +kernel
theorem dX5_setOwner_49 : decode cX5_setOwner 49 = .ok (.iload 4, 2) := by decide +kernel
theorem dX5_setOwner_51 : decode cX5_setOwner 51 = .ok (.ireturn, 1) := by decide +kernel
theorem dX5_setAway_0 : decode cX5_setAway 0 = .ok (.iload_n 1, 1) := by decide +kernel
theorem dX5_setAway_1 : decode cX5_setAway 1 = .ok (.invokestatic 60, 3) := by decide +kernel
theorem dX5_setAway_4 : decode cX5_setAway 4 = .ok (.aload_n 0, 1) := by decide +kernel
theorem dX5_setAway_5 : decode cX5_setAway 5 = .ok (.getfield 20, 3) := by decide +kernel
theorem dX5_setAway_8 : decode cX5_setAway 8 = .ok (.iload_n 1, 1) := by decide +kernel
theorem dX5_setAway_9 : decode cX5_setAway 9 = .ok (.baload, 1) := by decide +kernel
theorem dX5_setAway_10 : decode cX5_setAway 10 = .ok (.istore_n 3, 1) := by decide +kernel
theorem dX5_setAway_11 : decode cX5_setAway 11 = .ok (.aload_n 0, 1) := by decide +kernel
theorem dX5_setAway_12 : decode cX5_setAway 12 = .ok (.getfield 20, 3) := by decide +kernel
theorem dX5_setAway_15 : decode cX5_setAway 15 = .ok (.iload_n 1, 1) := by decide +kernel
theorem dX5_setAway_16 : decode cX5_setAway 16 = .ok (.iload_n 2, 1) := by decide +kernel
theorem dX5_setAway_17 : decode cX5_setAway 17 = .ok (.bastore, 1) := by decide +kernel
theorem dX5_setAway_18 : decode cX5_setAway 18 = .ok (.iload_n 3, 1) := by decide +kernel
theorem dX5_setAway_19 : decode cX5_setAway 19 = .ok (.ireturn, 1) := by decide +kernel
theorem dX5_open_0 : decode cX5_open 0 = .ok (.iload_n 1, 1) := by decide +kernel
theorem dX5_open_1 : decode cX5_open 1 = .ok (.invokestatic 60, 3) := by decide +kernel
theorem dX5_open_4 : decode cX5_open 4 = .ok (.aload_n 0, 1) := by decide +kernel
theorem dX5_open_5 : decode cX5_open 5 = .ok (.getfield 70, 3) := by decide +kernel
theorem dX5_open_8 : decode cX5_open 8 = .ok (.bipush 16, 2) := by decide +kernel
theorem dX5_open_10 : decode cX5_open 10 = .ok (.if_icmp .lt 13, 3) := by decide +kernel
theorem dX5_open_13 : decode cX5_open 13 = .ok (.new 74, 3) := by decide +kernel
theorem dX5_open_16 : decode cX5_open 16 = .ok (.dup, 1) := by decide +kernel
theorem dX5_open_17 : decode cX5_open 17 = .ok (.ldc 76, 2) := by decide +kernel
theorem dX5_open_19 : decode cX5_open 19 = .ok (.invokespecial 78, 3) := by decide +kernel
theorem dX5_open_22 : decode cX5_open 22 = .ok (.athrow, 1) := by decide +kernel
theorem dX5_open_23 : decode cX5_open 23 = .ok (.aload_n 0, 1) := by decide +kernel
theorem dX5_open_24 : decode cX5_open 24 = .ok (.getfield 70, 3) := by decide +kernel
theorem dX5_open_27 : decode cX5_open 27 = .ok (.istore_n 2, 1) := by decide +kernel
theorem dX5_open_28 : decode cX5_open 28 = .ok (.aload_n 0, 1) := by decide +kernel
theorem dX5_open_29 : decode cX5_open 29 = .ok (.getfield 25, 3) := by decide +kernel
theorem dX5_open_32 : decode cX5_open 32 = .ok (.iload_n 2, 1) := by decide +kernel
theorem dX5_open_33 : decode cX5_open 33 = .ok (.aaload, 1) := by decide +kernel
theorem dX5_open_34 : decode cX5_open 34 = .ok (.iload_n 1, 1) := by decide +kernel
theorem dX5_open_35 : decode cX5_open 35 = .ok (.putfield 79, 3) := by decide +kernel
theorem dX5_open_38 : decode cX5_open 38 = .ok (.aload_n 0, 1) := by decide +kernel
theorem dX5_open_39 : decode cX5_open 39 = .ok (.dup, 1) := by decide +kernel
theorem dX5_open_40 : decode cX5_open 40 = .ok (.getfield 70, 3) := by decide +kernel
theorem dX5_open_43 : decode cX5_open 43 = .ok (.iconst 1, 1) := by decide +kernel
theorem dX5_open_44 : decode cX5_open 44 = .ok (.iadd, 1) := by decide +kernel
theorem dX5_open_45 : decode cX5_open 45 = .ok (.putfield 70, 3) := by decide +kernel
theorem dX5_open_48 : decode cX5_open 48 = .ok (.iload_n 2, 1) := by decide +kernel
theorem dX5_open_49 : decode cX5_open 49 = .ok (.ireturn, 1) := by decide +kernel
theorem dX5_edit_0 : decode cX5_edit 0 = .ok (.aload_n 0, 1) := by decide +kernel
theorem dX5_edit_1 : decode cX5_edit 1 = .ok (.iload_n 1, 1) := by decide +kernel
theorem dX5_edit_2 : decode cX5_edit 2 = .ok (.invokevirtual 82, 3) := by decide +kernel
theorem dX5_edit_5 : decode cX5_edit 5 = .ok (.astore 5, 2) := by decide +kernel
theorem dX5_edit_7 : decode cX5_edit 7 = .ok (.iload_n 2, 1) := by decide +kernel
theorem dX5_edit_8 : decode cX5_edit 8 = .ok (.iload_n 3, 1) := by decide +kernel
theorem dX5_edit_9 : decode cX5_edit 9 = .ok (.invokestatic 86, 3) := by decide +kernel
theorem dX5_edit_12 : decode cX5_edit 12 = .ok (.istore 6, 2) := by decide +kernel
theorem dX5_edit_14 : decode cX5_edit 14 = .ok (.iload 4, 2) := by decide +kernel
theorem dX5_edit_16 : decode cX5_edit 16 = .ok (.ifCond .lt 10, 3) := by decide +kernel
theorem dX5_edit_19 : decode cX5_edit 19 = .ok (.iload 4, 2) := by decide +kernel
theorem dX5_edit_21 : decode cX5_edit 21 = .ok (.bipush 99, 2) := by decide +kernel
theorem dX5_edit_23 : decode cX5_edit 23 = .ok (.if_icmp .le 13, 3) := by decide +kernel
theorem dX5_edit_26 : decode cX5_edit 26 = .ok (.new 63, 3) := by decide +kernel
theorem dX5_edit_29 : decode cX5_edit 29 = .ok (.dup, 1) := by decide +kernel
theorem dX5_edit_30 : decode cX5_edit 30 = .ok (.ldc 90, 2) := by decide +kernel
theorem dX5_edit_32 : decode cX5_edit 32 = .ok (.invokespecial 67, 3) := by decide +kernel
theorem dX5_edit_35 : decode cX5_edit 35 = .ok (.athrow, 1) := by decide +kernel
theorem dX5_edit_36 : decode cX5_edit 36 = .ok (.aload 5, 2) := by decide +kernel
theorem dX5_edit_38 : decode cX5_edit 38 = .ok (.invokestatic 92, 3) := by decide +kernel
theorem dX5_edit_41 : decode cX5_edit 41 = .ok (.aload 5, 2) := by decide +kernel
theorem dX5_edit_43 : decode cX5_edit 43 = .ok (.iload 6, 2) := by decide +kernel
theorem dX5_edit_45 : decode cX5_edit 45 = .ok (.iload 4, 2) := by decide +kernel
theorem dX5_edit_47 : decode cX5_edit 47 = .ok (.invokevirtual 96, 3) := by decide +kernel
theorem dX5_edit_50 : decode cX5_edit 50 = .ok (.aload 5, 2) := by decide +kernel
theorem dX5_edit_52 : decode cX5_edit 52 = .ok (.invokevirtual 100, 3) := by decide +kernel
theorem dX5_edit_55 : decode cX5_edit 55 = .ok (.ireturn, 1) := by decide +kernel
theorem dX5_take_0 : decode cX5_take 0 = .ok (.aload_n 0, 1) := by decide +kernel
theorem dX5_take_1 : decode cX5_take 1 = .ok (.iload_n 1, 1) := by decide +kernel
theorem dX5_take_2 : decode cX5_take 2 = .ok (.invokevirtual 82, 3) := by decide +kernel
theorem dX5_take_5 : decode cX5_take 5 = .ok (.astore 4, 2) := by decide +kernel
theorem dX5_take_7 : decode cX5_take 7 = .ok (.iload_n 2, 1) := by decide +kernel
theorem dX5_take_8 : decode cX5_take 8 = .ok (.iload_n 3, 1) := by decide +kernel
theorem dX5_take_9 : decode cX5_take 9 = .ok (.invokestatic 86, 3) := by decide +kernel
theorem dX5_take_12 : decode cX5_take 12 = .ok (.istore 5, 2) := by decide +kernel
theorem dX5_take_14 : decode cX5_take 14 = .ok (.aload 4, 2) := by decide +kernel
theorem dX5_take_16 : decode cX5_take 16 = .ok (.invokestatic 92, 3) := by decide +kernel
theorem dX5_take_19 : decode cX5_take 19 = .ok (.aload 4, 2) := by decide +kernel
theorem dX5_take_21 : decode cX5_take 21 = .ok (.iload 5, 2) := by decide +kernel
theorem dX5_take_23 : decode cX5_take 23 = .ok (.invokevirtual 104, 3) := by decide +kernel
theorem dX5_take_26 : decode cX5_take 26 = .ok (.ifCond .ne 13, 3) := by decide +kernel
theorem dX5_take_29 : decode cX5_take 29 = .ok (.new 74, 3) := by decide +kernel
theorem dX5_take_32 : decode cX5_take 32 = .ok (.dup, 1) := by decide +kernel
theorem dX5_take_33 : decode cX5_take 33 = .ok (.ldc 108, 2) := by decide +kernel
theorem dX5_take_35 : decode cX5_take 35 = .ok (.invokespecial 78, 3) := by decide +kernel
theorem dX5_take_38 : decode cX5_take 38 = .ok (.athrow, 1) := by decide +kernel
theorem dX5_take_39 : decode cX5_take 39 = .ok (.aload 4, 2) := by decide +kernel
theorem dX5_take_41 : decode cX5_take 41 = .ok (.iload 5, 2) := by decide +kernel
theorem dX5_take_43 : decode cX5_take 43 = .ok (.invokevirtual 110, 3) := by decide +kernel
theorem dX5_take_46 : decode cX5_take 46 = .ok (.aload 4, 2) := by decide +kernel
theorem dX5_take_48 : decode cX5_take 48 = .ok (.invokevirtual 100, 3) := by decide +kernel
theorem dX5_take_51 : decode cX5_take 51 = .ok (.ireturn, 1) := by decide +kernel
theorem dX5_close_0 : decode cX5_close 0 = .ok (.aload_n 0, 1) := by decide +kernel
theorem dX5_close_1 : decode cX5_close 1 = .ok (.iload_n 1, 1) := by decide +kernel
theorem dX5_close_2 : decode cX5_close 2 = .ok (.invokevirtual 82, 3) := by decide +kernel
theorem dX5_close_5 : decode cX5_close 5 = .ok (.astore_n 2, 1) := by decide +kernel
theorem dX5_close_6 : decode cX5_close 6 = .ok (.aload_n 2, 1) := by decide +kernel
theorem dX5_close_7 : decode cX5_close 7 = .ok (.invokestatic 92, 3) := by decide +kernel
theorem dX5_close_10 : decode cX5_close 10 = .ok (.aload_n 2, 1) := by decide +kernel
theorem dX5_close_11 : decode cX5_close 11 = .ok (.bipush 120, 2) := by decide +kernel
theorem dX5_close_13 : decode cX5_close 13 = .ok (.putfield 113, 3) := by decide +kernel
theorem dX5_close_16 : decode cX5_close 16 = .ok (.aload_n 2, 1) := by decide +kernel
theorem dX5_close_17 : decode cX5_close 17 = .ok (.invokevirtual 100, 3) := by decide +kernel
theorem dX5_close_20 : decode cX5_close 20 = .ok (.ireturn, 1) := by decide +kernel
theorem dX5_vote_0 : decode cX5_vote 0 = .ok (.aload_n 0, 1) := by decide +kernel
theorem dX5_vote_1 : decode cX5_vote 1 = .ok (.iload_n 1, 1) := by decide +kernel
theorem dX5_vote_2 : decode cX5_vote 2 = .ok (.invokevirtual 82, 3) := by decide +kernel
theorem dX5_vote_5 : decode cX5_vote 5 = .ok (.astore 4, 2) := by decide +kernel
theorem dX5_vote_7 : decode cX5_vote 7 = .ok (.iload_n 2, 1) := by decide +kernel
theorem dX5_vote_8 : decode cX5_vote 8 = .ok (.invokestatic 60, 3) := by decide +kernel
theorem dX5_vote_11 : decode cX5_vote 11 = .ok (.iload_n 2, 1) := by decide +kernel
theorem dX5_vote_12 : decode cX5_vote 12 = .ok (.aload 4, 2) := by decide +kernel
theorem dX5_vote_14 : decode cX5_vote 14 = .ok (.getfield 79, 3) := by decide +kernel
theorem dX5_vote_17 : decode cX5_vote 17 = .ok (.if_icmp .ne 13, 3) := by decide +kernel
theorem dX5_vote_20 : decode cX5_vote 20 = .ok (.new 63, 3) := by decide +kernel
theorem dX5_vote_23 : decode cX5_vote 23 = .ok (.dup, 1) := by decide +kernel
theorem dX5_vote_24 : decode cX5_vote 24 = .ok (.ldc 117, 2) := by decide +kernel
theorem dX5_vote_26 : decode cX5_vote 26 = .ok (.invokespecial 67, 3) := by decide +kernel
theorem dX5_vote_29 : decode cX5_vote 29 = .ok (.athrow, 1) := by decide +kernel
theorem dX5_vote_30 : decode cX5_vote 30 = .ok (.aload 4, 2) := by decide +kernel
theorem dX5_vote_32 : decode cX5_vote 32 = .ok (.invokestatic 92, 3) := by decide +kernel
theorem dX5_vote_35 : decode cX5_vote 35 = .ok (.iload_n 3, 1) := by decide +kernel
theorem dX5_vote_36 : decode cX5_vote 36 = .ok (.ifCond .eq 15, 3) := by decide +kernel
theorem dX5_vote_39 : decode cX5_vote 39 = .ok (.aload 4, 2) := by decide +kernel
theorem dX5_vote_41 : decode cX5_vote 41 = .ok (.iload_n 2, 1) := by decide +kernel
theorem dX5_vote_42 : decode cX5_vote 42 = .ok (.invokevirtual 119, 3) := by decide +kernel
theorem dX5_vote_45 : decode cX5_vote 45 = .ok (.aload 4, 2) := by decide +kernel
theorem dX5_vote_47 : decode cX5_vote 47 = .ok (.invokevirtual 100, 3) := by decide +kernel
theorem dX5_vote_50 : decode cX5_vote 50 = .ok (.ireturn, 1) := by decide +kernel
theorem dX5_vote_51 : decode cX5_vote 51 = .ok (.aload 4, 2) := by decide +kernel
theorem dX5_vote_53 : decode cX5_vote 53 = .ok (.iload_n 2, 1) := by decide +kernel
theorem dX5_vote_54 : decode cX5_vote 54 = .ok (.invokevirtual 122, 3) := by decide +kernel
theorem dX5_vote_57 : decode cX5_vote 57 = .ok (.iconst 0, 1) := by decide +kernel
theorem dX5_vote_58 : decode cX5_vote 58 = .ok (.ireturn, 1) := by decide +kernel
theorem dX5_verdict_0 : decode cX5_verdict 0 = .ok (.aload_n 0, 1) := by decide +kernel
theorem dX5_verdict_1 : decode cX5_verdict 1 = .ok (.iload_n 1, 1) := by decide +kernel
theorem dX5_verdict_2 : decode cX5_verdict 2 = .ok (.invokevirtual 82, 3) := by decide +kernel
theorem dX5_verdict_5 : decode cX5_verdict 5 = .ok (.astore_n 3, 1) := by decide +kernel
theorem dX5_verdict_6 : decode cX5_verdict 6 = .ok (.iload_n 2, 1) := by decide +kernel
theorem dX5_verdict_7 : decode cX5_verdict 7 = .ok (.invokestatic 56, 3) := by decide +kernel
theorem dX5_verdict_10 : decode cX5_verdict 10 = .ok (.aload_n 0, 1) := by decide +kernel
theorem dX5_verdict_11 : decode cX5_verdict 11 = .ok (.aload_n 3, 1) := by decide +kernel
theorem dX5_verdict_12 : decode cX5_verdict 12 = .ok (.iload_n 2, 1) := by decide +kernel
theorem dX5_verdict_13 : decode cX5_verdict 13 = .ok (.invokevirtual 125, 3) := by decide +kernel
theorem dX5_verdict_16 : decode cX5_verdict 16 = .ok (.ireturn, 1) := by decide +kernel
theorem dX5_asked_0 : decode cX5_asked 0 = .ok (.aload_n 0, 1) := by decide +kernel
theorem dX5_asked_1 : decode cX5_asked 1 = .ok (.iload_n 1, 1) := by decide +kernel
theorem dX5_asked_2 : decode cX5_asked 2 = .ok (.invokevirtual 82, 3) := by decide +kernel
theorem dX5_asked_5 : decode cX5_asked 5 = .ok (.astore_n 3, 1) := by decide +kernel
theorem dX5_asked_6 : decode cX5_asked 6 = .ok (.iload_n 2, 1) := by decide +kernel
theorem dX5_asked_7 : decode cX5_asked 7 = .ok (.invokestatic 56, 3) := by decide +kernel
theorem dX5_asked_10 : decode cX5_asked 10 = .ok (.aload_n 0, 1) := by decide +kernel
theorem dX5_asked_11 : decode cX5_asked 11 = .ok (.aload_n 3, 1) := by decide +kernel
theorem dX5_asked_12 : decode cX5_asked 12 = .ok (.iload_n 2, 1) := by decide +kernel
theorem dX5_asked_13 : decode cX5_asked 13 = .ok (.invokevirtual 129, 3) := by decide +kernel
theorem dX5_asked_16 : decode cX5_asked 16 = .ok (.istore 4, 2) := by decide +kernel
theorem dX5_asked_18 : decode cX5_asked 18 = .ok (.iload 4, 2) := by decide +kernel
theorem dX5_asked_20 : decode cX5_asked 20 = .ok (.iconst (-1), 1) := by decide +kernel
theorem dX5_asked_21 : decode cX5_asked 21 = .ok (.if_icmp .ne 13, 3) := by decide +kernel
theorem dX5_asked_24 : decode cX5_asked 24 = .ok (.new 133, 3) := by decide +kernel
theorem dX5_asked_27 : decode cX5_asked 27 = .ok (.dup, 1) := by decide +kernel
theorem dX5_asked_28 : decode cX5_asked 28 = .ok (.ldc 135, 2) := by decide +kernel
theorem dX5_asked_30 : decode cX5_asked 30 = .ok (.invokespecial 137, 3) := by decide +kernel
theorem dX5_asked_33 : decode cX5_asked 33 = .ok (.athrow, 1) := by decide +kernel
theorem dX5_asked_34 : decode cX5_asked 34 = .ok (.iload 4, 2) := by decide +kernel
theorem dX5_asked_36 : decode cX5_asked 36 = .ok (.ireturn, 1) := by decide +kernel
theorem dX5_missing_0 : decode cX5_missing 0 = .ok (.aload_n 0, 1) := by decide +kernel
theorem dX5_missing_1 : decode cX5_missing 1 = .ok (.aload_n 0, 1) := by decide +kernel
theorem dX5_missing_2 : decode cX5_missing 2 = .ok (.iload_n 1, 1) := by decide +kernel
theorem dX5_missing_3 : decode cX5_missing 3 = .ok (.invokevirtual 82, 3) := by decide +kernel
theorem dX5_missing_6 : decode cX5_missing 6 = .ok (.invokevirtual 138, 3) := by decide +kernel
theorem dX5_missing_9 : decode cX5_missing 9 = .ok (.ireturn, 1) := by decide +kernel
theorem dX5_queue_0 : decode cX5_queue 0 = .ok (.aload_n 0, 1) := by decide +kernel
theorem dX5_queue_1 : decode cX5_queue 1 = .ok (.iload_n 1, 1) := by decide +kernel
theorem dX5_queue_2 : decode cX5_queue 2 = .ok (.invokevirtual 82, 3) := by decide +kernel
theorem dX5_queue_5 : decode cX5_queue 5 = .ok (.astore_n 2, 1) := by decide +kernel
theorem dX5_queue_6 : decode cX5_queue 6 = .ok (.aload_n 2, 1) := by decide +kernel
theorem dX5_queue_7 : decode cX5_queue 7 = .ok (.invokestatic 92, 3) := by decide +kernel
theorem dX5_queue_10 : decode cX5_queue 10 = .ok (.aload_n 2, 1) := by decide +kernel
theorem dX5_queue_11 : decode cX5_queue 11 = .ok (.getfield 142, 3) := by decide +kernel
theorem dX5_queue_14 : decode cX5_queue 14 = .ok (.lconst 0, 1) := by decide +kernel
theorem dX5_queue_15 : decode cX5_queue 15 = .ok (.lcmp, 1) := by decide +kernel
theorem dX5_queue_16 : decode cX5_queue 16 = .ok (.ifCond .eq 12, 3) := by decide +kernel
theorem dX5_queue_19 : decode cX5_queue 19 = .ok (.aload_n 2, 1) := by decide +kernel
theorem dX5_queue_20 : decode cX5_queue 20 = .ok (.getfield 146, 3) := by decide +kernel
theorem dX5_queue_23 : decode cX5_queue 23 = .ok (.lconst 0, 1) := by decide +kernel
theorem dX5_queue_24 : decode cX5_queue 24 = .ok (.lcmp, 1) := by decide +kernel
theorem dX5_queue_25 : decode cX5_queue 25 = .ok (.ifCond .eq 13, 3) := by decide +kernel
theorem dX5_queue_28 : decode cX5_queue 28 = .ok (.new 74, 3) := by decide +kernel
theorem dX5_queue_31 : decode cX5_queue 31 = .ok (.dup, 1) := by decide +kernel
theorem dX5_queue_32 : decode cX5_queue 32 = .ok (.ldc 149, 2) := by decide +kernel
theorem dX5_queue_34 : decode cX5_queue 34 = .ok (.invokespecial 78, 3) := by decide +kernel
theorem dX5_queue_37 : decode cX5_queue 37 = .ok (.athrow, 1) := by decide +kernel
theorem dX5_queue_38 : decode cX5_queue 38 = .ok (.aload_n 0, 1) := by decide +kernel
theorem dX5_queue_39 : decode cX5_queue 39 = .ok (.aload_n 2, 1) := by decide +kernel
theorem dX5_queue_40 : decode cX5_queue 40 = .ok (.invokevirtual 138, 3) := by decide +kernel
theorem dX5_queue_43 : decode cX5_queue 43 = .ok (.ifCond .le 13, 3) := by decide +kernel
theorem dX5_queue_46 : decode cX5_queue 46 = .ok (.new 151, 3) := by decide +kernel
theorem dX5_queue_49 : decode cX5_queue 49 = .ok (.dup, 1) := by decide +kernel
theorem dX5_queue_50 : decode cX5_queue 50 = .ok (.ldc 153, 2) := by decide +kernel
theorem dX5_queue_52 : decode cX5_queue 52 = .ok (.invokespecial 155, 3) := by decide +kernel
theorem dX5_queue_55 : decode cX5_queue 55 = .ok (.athrow, 1) := by decide +kernel
theorem dX5_queue_56 : decode cX5_queue 56 = .ok (.aload_n 2, 1) := by decide +kernel
theorem dX5_queue_57 : decode cX5_queue 57 = .ok (.bipush 113, 2) := by decide +kernel
theorem dX5_queue_59 : decode cX5_queue 59 = .ok (.putfield 113, 3) := by decide +kernel
theorem dX5_queue_62 : decode cX5_queue 62 = .ok (.aload_n 0, 1) := by decide +kernel
theorem dX5_queue_63 : decode cX5_queue 63 = .ok (.getfield 32, 3) := by decide +kernel
theorem dX5_queue_66 : decode cX5_queue 66 = .ok (.iload_n 1, 1) := by decide +kernel
theorem dX5_queue_67 : decode cX5_queue 67 = .ok (.invokevirtual 156, 3) := by decide +kernel
theorem dX5_queue_70 : decode cX5_queue 70 = .ok (.aload_n 0, 1) := by decide +kernel
theorem dX5_queue_71 : decode cX5_queue 71 = .ok (.getfield 32, 3) := by decide +kernel
theorem dX5_queue_74 : decode cX5_queue 74 = .ok (.getfield 159, 3) := by decide +kernel
theorem dX5_queue_77 : decode cX5_queue 77 = .ok (.ireturn, 1) := by decide +kernel
theorem dX5_unqueue_0 : decode cX5_unqueue 0 = .ok (.aload_n 0, 1) := by decide +kernel
theorem dX5_unqueue_1 : decode cX5_unqueue 1 = .ok (.iload_n 1, 1) := by decide +kernel
theorem dX5_unqueue_2 : decode cX5_unqueue 2 = .ok (.invokevirtual 82, 3) := by decide +kernel
theorem dX5_unqueue_5 : decode cX5_unqueue 5 = .ok (.astore_n 2, 1) := by decide +kernel
theorem dX5_unqueue_6 : decode cX5_unqueue 6 = .ok (.aload_n 2, 1) := by decide +kernel
theorem dX5_unqueue_7 : decode cX5_unqueue 7 = .ok (.getfield 113, 3) := by decide +kernel
theorem dX5_unqueue_10 : decode cX5_unqueue 10 = .ok (.bipush 113, 2) := by decide +kernel
theorem dX5_unqueue_12 : decode cX5_unqueue 12 = .ok (.if_icmp .eq 13, 3) := by decide +kernel
theorem dX5_unqueue_15 : decode cX5_unqueue 15 = .ok (.new 74, 3) := by decide +kernel
theorem dX5_unqueue_18 : decode cX5_unqueue 18 = .ok (.dup, 1) := by decide +kernel
theorem dX5_unqueue_19 : decode cX5_unqueue 19 = .ok (.ldc 162, 2) := by decide +kernel
theorem dX5_unqueue_21 : decode cX5_unqueue 21 = .ok (.invokespecial 78, 3) := by decide +kernel
theorem dX5_unqueue_24 : decode cX5_unqueue 24 = .ok (.athrow, 1) := by decide +kernel
theorem dX5_unqueue_25 : decode cX5_unqueue 25 = .ok (.aload_n 0, 1) := by decide +kernel
theorem dX5_unqueue_26 : decode cX5_unqueue 26 = .ok (.iload_n 1, 1) := by decide +kernel
theorem dX5_unqueue_27 : decode cX5_unqueue 27 = .ok (.invokevirtual 164, 3) := by decide +kernel
theorem dX5_unqueue_30 : decode cX5_unqueue 30 = .ok (.aload_n 0, 1) := by decide +kernel
theorem dX5_unqueue_31 : decode cX5_unqueue 31 = .ok (.getfield 32, 3) := by decide +kernel
theorem dX5_unqueue_34 : decode cX5_unqueue 34 = .ok (.getfield 159, 3) := by decide +kernel
theorem dX5_unqueue_37 : decode cX5_unqueue 37 = .ok (.ireturn, 1) := by decide +kernel
theorem dX5_queueAt_0 : decode cX5_queueAt 0 = .ok (.aload_n 0, 1) := by decide +kernel
theorem dX5_queueAt_1 : decode cX5_queueAt 1 = .ok (.getfield 32, 3) := by decide +kernel
theorem dX5_queueAt_4 : decode cX5_queueAt 4 = .ok (.iload_n 1, 1) := by decide +kernel
theorem dX5_queueAt_5 : decode cX5_queueAt 5 = .ok (.invokestatic 167, 3) := by decide +kernel
theorem dX5_queueAt_8 : decode cX5_queueAt 8 = .ok (.aload_n 0, 1) := by decide +kernel
theorem dX5_queueAt_9 : decode cX5_queueAt 9 = .ok (.getfield 32, 3) := by decide +kernel
theorem dX5_queueAt_12 : decode cX5_queueAt 12 = .ok (.iload_n 1, 1) := by decide +kernel
theorem dX5_queueAt_13 : decode cX5_queueAt 13 = .ok (.invokevirtual 171, 3) := by decide +kernel
theorem dX5_queueAt_16 : decode cX5_queueAt 16 = .ok (.ireturn, 1) := by decide +kernel
theorem dX5_step_0 : decode cX5_step 0 = .ok (.aload_n 0, 1) := by decide +kernel
theorem dX5_step_1 : decode cX5_step 1 = .ok (.invokevirtual 175, 3) := by decide +kernel
theorem dX5_step_4 : decode cX5_step 4 = .ok (.istore_n 1, 1) := by decide +kernel
theorem dX5_step_5 : decode cX5_step 5 = .ok (.iload_n 1, 1) := by decide +kernel
theorem dX5_step_6 : decode cX5_step 6 = .ok (.ifCond .ne 13, 3) := by decide +kernel
theorem dX5_step_9 : decode cX5_step 9 = .ok (.new 133, 3) := by decide +kernel
theorem dX5_step_12 : decode cX5_step 12 = .ok (.dup, 1) := by decide +kernel
theorem dX5_step_13 : decode cX5_step 13 = .ok (.ldc 178, 2) := by decide +kernel
theorem dX5_step_15 : decode cX5_step 15 = .ok (.invokespecial 137, 3) := by decide +kernel
theorem dX5_step_18 : decode cX5_step 18 = .ok (.athrow, 1) := by decide +kernel
theorem dX5_step_19 : decode cX5_step 19 = .ok (.aload_n 0, 1) := by decide +kernel
theorem dX5_step_20 : decode cX5_step 20 = .ok (.iconst 0, 1) := by decide +kernel
theorem dX5_step_21 : decode cX5_step 21 = .ok (.iload_n 1, 1) := by decide +kernel
theorem dX5_step_22 : decode cX5_step 22 = .ok (.iconst 0, 1) := by decide +kernel
theorem dX5_step_23 : decode cX5_step 23 = .ok (.invokevirtual 180, 3) := by decide +kernel
theorem dX5_step_26 : decode cX5_step 26 = .ok (.ireturn, 1) := by decide +kernel
theorem dX5_setFrozen_0 : decode cX5_setFrozen 0 = .ok (.iload_n 1, 1) := by decide +kernel
theorem dX5_setFrozen_1 : decode cX5_setFrozen 1 = .ok (.invokestatic 56, 3) := by decide +kernel
theorem dX5_setFrozen_4 : decode cX5_setFrozen 4 = .ok (.aload_n 0, 1) := by decide +kernel
theorem dX5_setFrozen_5 : decode cX5_setFrozen 5 = .ok (.getfield 16, 3) := by decide +kernel
theorem dX5_setFrozen_8 : decode cX5_setFrozen 8 = .ok (.iload_n 1, 1) := by decide +kernel
theorem dX5_setFrozen_9 : decode cX5_setFrozen 9 = .ok (.baload, 1) := by decide +kernel
theorem dX5_setFrozen_10 : decode cX5_setFrozen 10 = .ok (.istore_n 3, 1) := by decide +kernel
theorem dX5_setFrozen_11 : decode cX5_setFrozen 11 = .ok (.aload_n 0, 1) := by decide +kernel
theorem dX5_setFrozen_12 : decode cX5_setFrozen 12 = .ok (.getfield 16, 3) := by decide +kernel
theorem dX5_setFrozen_15 : decode cX5_setFrozen 15 = .ok (.iload_n 1, 1) := by decide +kernel
theorem dX5_setFrozen_16 : decode cX5_setFrozen 16 = .ok (.iload_n 2, 1) := by decide +kernel
theorem dX5_setFrozen_17 : decode cX5_setFrozen 17 = .ok (.bastore, 1) := by decide +kernel
theorem dX5_setFrozen_18 : decode cX5_setFrozen 18 = .ok (.iload_n 3, 1) := by decide +kernel
theorem dX5_setFrozen_19 : decode cX5_setFrozen 19 = .ok (.ireturn, 1) := by decide +kernel
theorem dX5_stateOf_0 : decode cX5_stateOf 0 = .ok (.aload_n 0, 1) := by decide +kernel
theorem dX5_stateOf_1 : decode cX5_stateOf 1 = .ok (.iload_n 1, 1) := by decide +kernel
theorem dX5_stateOf_2 : decode cX5_stateOf 2 = .ok (.invokevirtual 82, 3) := by decide +kernel
theorem dX5_stateOf_5 : decode cX5_stateOf 5 = .ok (.getfield 113, 3) := by decide +kernel
theorem dX5_stateOf_8 : decode cX5_stateOf 8 = .ok (.ireturn, 1) := by decide +kernel
theorem dX5_hasFailed_0 : decode cX5_hasFailed 0 = .ok (.aload_n 0, 1) := by decide +kernel
theorem dX5_hasFailed_1 : decode cX5_hasFailed 1 = .ok (.iload_n 1, 1) := by decide +kernel
theorem dX5_hasFailed_2 : decode cX5_hasFailed 2 = .ok (.invokevirtual 82, 3) := by decide +kernel
theorem dX5_hasFailed_5 : decode cX5_hasFailed 5 = .ok (.getfield 184, 3) := by decide +kernel
theorem dX5_hasFailed_8 : decode cX5_hasFailed 8 = .ok (.ireturn, 1) := by decide +kernel
theorem dX5_clashes_0 : decode cX5_clashes 0 = .ok (.aload_n 0, 1) := by decide +kernel
theorem dX5_clashes_1 : decode cX5_clashes 1 = .ok (.iload_n 1, 1) := by decide +kernel
theorem dX5_clashes_2 : decode cX5_clashes 2 = .ok (.invokevirtual 82, 3) := by decide +kernel
theorem dX5_clashes_5 : decode cX5_clashes 5 = .ok (.invokevirtual 188, 3) := by decide +kernel
theorem dX5_clashes_8 : decode cX5_clashes 8 = .ok (.ireturn, 1) := by decide +kernel
theorem dX5_update_0 : decode cX5_update 0 = .ok (.aload_n 0, 1) := by decide +kernel
theorem dX5_update_1 : decode cX5_update 1 = .ok (.iload_n 1, 1) := by decide +kernel
theorem dX5_update_2 : decode cX5_update 2 = .ok (.invokevirtual 82, 3) := by decide +kernel
theorem dX5_update_5 : decode cX5_update 5 = .ok (.astore_n 2, 1) := by decide +kernel
theorem dX5_update_6 : decode cX5_update 6 = .ok (.aload_n 2, 1) := by decide +kernel
theorem dX5_update_7 : decode cX5_update 7 = .ok (.invokestatic 92, 3) := by decide +kernel
theorem dX5_update_10 : decode cX5_update 10 = .ok (.aload_n 2, 1) := by decide +kernel
theorem dX5_update_11 : decode cX5_update 11 = .ok (.invokevirtual 188, 3) := by decide +kernel
theorem dX5_update_14 : decode cX5_update 14 = .ok (.istore_n 3, 1) := by decide +kernel
theorem dX5_update_15 : decode cX5_update 15 = .ok (.aload_n 2, 1) := by decide +kernel
theorem dX5_update_16 : decode cX5_update 16 = .ok (.invokevirtual 191, 3) := by decide +kernel
theorem dX5_update_19 : decode cX5_update 19 = .ok (.iload_n 3, 1) := by decide +kernel
theorem dX5_update_20 : decode cX5_update 20 = .ok (.ireturn, 1) := by decide +kernel
theorem dX5_addTest_0 : decode cX5_addTest 0 = .ok (.iload_n 1, 1) := by decide +kernel
theorem dX5_addTest_1 : decode cX5_addTest 1 = .ok (.iload_n 2, 1) := by decide +kernel
theorem dX5_addTest_2 : decode cX5_addTest 2 = .ok (.invokestatic 86, 3) := by decide +kernel
theorem dX5_addTest_5 : decode cX5_addTest 5 = .ok (.istore 6, 2) := by decide +kernel
theorem dX5_addTest_7 : decode cX5_addTest 7 = .ok (.iload_n 3, 1) := by decide +kernel
theorem dX5_addTest_8 : decode cX5_addTest 8 = .ok (.iload 4, 2) := by decide +kernel
theorem dX5_addTest_10 : decode cX5_addTest 10 = .ok (.invokestatic 86, 3) := by decide +kernel
theorem dX5_addTest_13 : decode cX5_addTest 13 = .ok (.istore 7, 2) := by decide +kernel
theorem dX5_addTest_15 : decode cX5_addTest 15 = .ok (.iload 5, 2) := by decide +kernel
theorem dX5_addTest_17 : decode cX5_addTest 17 = .ok (.ifCond .lt 11, 3) := by decide +kernel
theorem dX5_addTest_20 : decode cX5_addTest 20 = .ok (.iload 5, 2) := by decide +kernel
theorem dX5_addTest_22 : decode cX5_addTest 22 = .ok (.sipush 198, 3) := by decide +kernel
theorem dX5_addTest_25 : decode cX5_addTest 25 = .ok (.if_icmp .le 13, 3) := by decide +kernel
theorem dX5_addTest_28 : decode cX5_addTest 28 = .ok (.new 63, 3) := by decide +kernel
theorem dX5_addTest_31 : decode cX5_addTest 31 = .ok (.dup, 1) := by decide +kernel
theorem dX5_addTest_32 : decode cX5_addTest 32 = .ok (.ldc 194, 2) := by decide +kernel
theorem dX5_addTest_34 : decode cX5_addTest 34 = .ok (.invokespecial 67, 3) := by decide +kernel
theorem dX5_addTest_37 : decode cX5_addTest 37 = .ok (.athrow, 1) := by decide +kernel
theorem dX5_addTest_38 : decode cX5_addTest 38 = .ok (.aload_n 0, 1) := by decide +kernel
theorem dX5_addTest_39 : decode cX5_addTest 39 = .ok (.getfield 51, 3) := by decide +kernel
theorem dX5_addTest_42 : decode cX5_addTest 42 = .ok (.getfield 196, 3) := by decide +kernel
theorem dX5_addTest_45 : decode cX5_addTest 45 = .ok (.bipush 12, 2) := by decide +kernel
theorem dX5_addTest_47 : decode cX5_addTest 47 = .ok (.if_icmp .lt 13, 3) := by decide +kernel
theorem dX5_addTest_50 : decode cX5_addTest 50 = .ok (.new 74, 3) := by decide +kernel
theorem dX5_addTest_53 : decode cX5_addTest 53 = .ok (.dup, 1) := by decide +kernel
theorem dX5_addTest_54 : decode cX5_addTest 54 = .ok (.ldc 199, 2) := by decide +kernel
theorem dX5_addTest_56 : decode cX5_addTest 56 = .ok (.invokespecial 78, 3) := by decide +kernel
theorem dX5_addTest_59 : decode cX5_addTest 59 = .ok (.athrow, 1) := by decide +kernel
theorem dX5_addTest_60 : decode cX5_addTest 60 = .ok (.aload_n 0, 1) := by decide +kernel
theorem dX5_addTest_61 : decode cX5_addTest 61 = .ok (.getfield 42, 3) := by decide +kernel
theorem dX5_addTest_64 : decode cX5_addTest 64 = .ok (.iload 6, 2) := by decide +kernel
theorem dX5_addTest_66 : decode cX5_addTest 66 = .ok (.iaload, 1) := by decide +kernel
theorem dX5_addTest_67 : decode cX5_addTest 67 = .ok (.aload_n 0, 1) := by decide +kernel
theorem dX5_addTest_68 : decode cX5_addTest 68 = .ok (.getfield 42, 3) := by decide +kernel
theorem dX5_addTest_71 : decode cX5_addTest 71 = .ok (.iload 7, 2) := by decide +kernel
theorem dX5_addTest_73 : decode cX5_addTest 73 = .ok (.iaload, 1) := by decide +kernel
theorem dX5_addTest_74 : decode cX5_addTest 74 = .ok (.iadd, 1) := by decide +kernel
theorem dX5_addTest_75 : decode cX5_addTest 75 = .ok (.iload 5, 2) := by decide +kernel
theorem dX5_addTest_77 : decode cX5_addTest 77 = .ok (.if_icmp .le 13, 3) := by decide +kernel
theorem dX5_addTest_80 : decode cX5_addTest 80 = .ok (.new 151, 3) := by decide +kernel
theorem dX5_addTest_83 : decode cX5_addTest 83 = .ok (.dup, 1) := by decide +kernel
theorem dX5_addTest_84 : decode cX5_addTest 84 = .ok (.ldc 201, 2) := by decide +kernel
theorem dX5_addTest_86 : decode cX5_addTest 86 = .ok (.invokespecial 155, 3) := by decide +kernel
theorem dX5_addTest_89 : decode cX5_addTest 89 = .ok (.athrow, 1) := by decide +kernel
theorem dX5_addTest_90 : decode cX5_addTest 90 = .ok (.aload_n 0, 1) := by decide +kernel
theorem dX5_addTest_91 : decode cX5_addTest 91 = .ok (.getfield 51, 3) := by decide +kernel
theorem dX5_addTest_94 : decode cX5_addTest 94 = .ok (.iload 6, 2) := by decide +kernel
theorem dX5_addTest_96 : decode cX5_addTest 96 = .ok (.iload 7, 2) := by decide +kernel
theorem dX5_addTest_98 : decode cX5_addTest 98 = .ok (.iload 5, 2) := by decide +kernel
theorem dX5_addTest_100 : decode cX5_addTest 100 = .ok (.invokevirtual 203, 3) := by decide +kernel
theorem dX5_addTest_103 : decode cX5_addTest 103 = .ok (.ireturn, 1) := by decide +kernel
theorem dX5_dropTest_0 : decode cX5_dropTest 0 = .ok (.iload_n 1, 1) := by decide +kernel
theorem dX5_dropTest_1 : decode cX5_dropTest 1 = .ok (.ifCond .lt 29, 3) := by decide +kernel
theorem dX5_dropTest_4 : decode cX5_dropTest 4 = .ok (.iload_n 1, 1) := by decide +kernel
theorem dX5_dropTest_5 : decode cX5_dropTest 5 = .ok (.aload_n 0, 1) := by decide +kernel
theorem dX5_dropTest_6 : decode cX5_dropTest 6 = .ok (.getfield 51, 3) := by decide +kernel
theorem dX5_dropTest_9 : decode cX5_dropTest 9 = .ok (.getfield 196, 3) := by decide +kernel
theorem dX5_dropTest_12 : decode cX5_dropTest 12 = .ok (.if_icmp .ge 18, 3) := by decide +kernel
theorem dX5_dropTest_15 : decode cX5_dropTest 15 = .ok (.aload_n 0, 1) := by decide +kernel
theorem dX5_dropTest_16 : decode cX5_dropTest 16 = .ok (.getfield 51, 3) := by decide +kernel
theorem dX5_dropTest_19 : decode cX5_dropTest 19 = .ok (.getfield 206, 3) := by decide +kernel
theorem dX5_dropTest_22 : decode cX5_dropTest 22 = .ok (.iload_n 1, 1) := by decide +kernel
theorem dX5_dropTest_23 : decode cX5_dropTest 23 = .ok (.aaload, 1) := by decide +kernel
theorem dX5_dropTest_24 : decode cX5_dropTest 24 = .ok (.getfield 210, 3) := by decide +kernel
theorem dX5_dropTest_27 : decode cX5_dropTest 27 = .ok (.ifCond .ne 13, 3) := by decide +kernel
theorem dX5_dropTest_30 : decode cX5_dropTest 30 = .ok (.new 133, 3) := by decide +kernel
theorem dX5_dropTest_33 : decode cX5_dropTest 33 = .ok (.dup, 1) := by decide +kernel
theorem dX5_dropTest_34 : decode cX5_dropTest 34 = .ok (.ldc 215, 2) := by decide +kernel
theorem dX5_dropTest_36 : decode cX5_dropTest 36 = .ok (.invokespecial 137, 3) := by decide +kernel
theorem dX5_dropTest_39 : decode cX5_dropTest 39 = .ok (.athrow, 1) := by decide +kernel
theorem dX5_dropTest_40 : decode cX5_dropTest 40 = .ok (.aload_n 0, 1) := by decide +kernel
theorem dX5_dropTest_41 : decode cX5_dropTest 41 = .ok (.getfield 51, 3) := by decide +kernel
theorem dX5_dropTest_44 : decode cX5_dropTest 44 = .ok (.iload_n 1, 1) := by decide +kernel
theorem dX5_dropTest_45 : decode cX5_dropTest 45 = .ok (.invokevirtual 217, 3) := by decide +kernel
theorem dX5_dropTest_48 : decode cX5_dropTest 48 = .ok (.ireturn, 1) := by decide +kernel
theorem dX5_value_0 : decode cX5_value 0 = .ok (.aload_n 0, 1) := by decide +kernel
theorem dX5_value_1 : decode cX5_value 1 = .ok (.getfield 42, 3) := by decide +kernel
theorem dX5_value_4 : decode cX5_value 4 = .ok (.iload_n 1, 1) := by decide +kernel
theorem dX5_value_5 : decode cX5_value 5 = .ok (.iload_n 2, 1) := by decide +kernel
theorem dX5_value_6 : decode cX5_value 6 = .ok (.invokestatic 86, 3) := by decide +kernel
theorem dX5_value_9 : decode cX5_value 9 = .ok (.iaload, 1) := by decide +kernel
theorem dX5_value_10 : decode cX5_value 10 = .ok (.ireturn, 1) := by decide +kernel
theorem dX5_valueByMerges_0 : decode cX5_valueByMerges 0 = .ok (.aload_n 0, 1) := by decide +kernel
theorem dX5_valueByMerges_1 : decode cX5_valueByMerges 1 = .ok (.iload_n 1, 1) := by decide +kernel
theorem dX5_valueByMerges_2 : decode cX5_valueByMerges 2 = .ok (.iload_n 2, 1) := by decide +kernel
theorem dX5_valueByMerges_3 : decode cX5_valueByMerges 3 = .ok (.invokestatic 86, 3) := by decide +kernel
theorem dX5_valueByMerges_6 : decode cX5_valueByMerges 6 = .ok (.invokevirtual 220, 3) := by decide +kernel
theorem dX5_valueByMerges_9 : decode cX5_valueByMerges 9 = .ok (.ireturn, 1) := by decide +kernel
theorem dX5_valueWith_0 : decode cX5_valueWith 0 = .ok (.aload_n 0, 1) := by decide +kernel
theorem dX5_valueWith_1 : decode cX5_valueWith 1 = .ok (.iload_n 1, 1) := by decide +kernel
theorem dX5_valueWith_2 : decode cX5_valueWith 2 = .ok (.invokevirtual 82, 3) := by decide +kernel
theorem dX5_valueWith_5 : decode cX5_valueWith 5 = .ok (.astore 4, 2) := by decide +kernel
theorem dX5_valueWith_7 : decode cX5_valueWith 7 = .ok (.iload_n 2, 1) := by decide +kernel
theorem dX5_valueWith_8 : decode cX5_valueWith 8 = .ok (.iload_n 3, 1) := by decide +kernel
theorem dX5_valueWith_9 : decode cX5_valueWith 9 = .ok (.invokestatic 86, 3) := by decide +kernel
theorem dX5_valueWith_12 : decode cX5_valueWith 12 = .ok (.istore 5, 2) := by decide +kernel
theorem dX5_valueWith_14 : decode cX5_valueWith 14 = .ok (.aload 4, 2) := by decide +kernel
theorem dX5_valueWith_16 : decode cX5_valueWith 16 = .ok (.iload 5, 2) := by decide +kernel
theorem dX5_valueWith_18 : decode cX5_valueWith 18 = .ok (.invokevirtual 104, 3) := by decide +kernel
theorem dX5_valueWith_21 : decode cX5_valueWith 21 = .ok (.ifCond .eq 14, 3) := by decide +kernel
theorem dX5_valueWith_24 : decode cX5_valueWith 24 = .ok (.aload 4, 2) := by decide +kernel
theorem dX5_valueWith_26 : decode cX5_valueWith 26 = .ok (.getfield 223, 3) := by decide +kernel
theorem dX5_valueWith_29 : decode cX5_valueWith 29 = .ok (.iload 5, 2) := by decide +kernel
theorem dX5_valueWith_31 : decode cX5_valueWith 31 = .ok (.iaload, 1) := by decide +kernel
theorem dX5_valueWith_32 : decode cX5_valueWith 32 = .ok (.goto 10, 3) := by decide +kernel
theorem dX5_valueWith_35 : decode cX5_valueWith 35 = .ok (.aload_n 0, 1) := by decide +kernel
theorem dX5_valueWith_36 : decode cX5_valueWith 36 = .ok (.getfield 42, 3) := by decide +kernel
theorem dX5_valueWith_39 : decode cX5_valueWith 39 = .ok (.iload 5, 2) := by decide +kernel
theorem dX5_valueWith_41 : decode cX5_valueWith 41 = .ok (.iaload, 1) := by decide +kernel
theorem dX5_valueWith_42 : decode cX5_valueWith 42 = .ok (.ireturn, 1) := by decide +kernel
theorem dX5_along_0 : decode cX5_along 0 = .ok (.aload_n 0, 1) := by decide +kernel
theorem dX5_along_1 : decode cX5_along 1 = .ok (.iload_n 1, 1) := by decide +kernel
theorem dX5_along_2 : decode cX5_along 2 = .ok (.invokevirtual 82, 3) := by decide +kernel
theorem dX5_along_5 : decode cX5_along 5 = .ok (.invokestatic 226, 3) := by decide +kernel
theorem dX5_along_8 : decode cX5_along 8 = .ok (.aload_n 0, 1) := by decide +kernel
theorem dX5_along_9 : decode cX5_along 9 = .ok (.iload_n 1, 1) := by decide +kernel
theorem dX5_along_10 : decode cX5_along 10 = .ok (.invokevirtual 229, 3) := by decide +kernel
theorem dX5_along_13 : decode cX5_along 13 = .ok (.invokestatic 232, 3) := by decide +kernel
theorem dX5_along_16 : decode cX5_along 16 = .ok (.ireturn, 1) := by decide +kernel
theorem dX5_revert_0 : decode cX5_revert 0 = .ok (.aload_n 0, 1) := by decide +kernel
theorem dX5_revert_1 : decode cX5_revert 1 = .ok (.iload_n 1, 1) := by decide +kernel
theorem dX5_revert_2 : decode cX5_revert 2 = .ok (.invokevirtual 82, 3) := by decide +kernel
theorem dX5_revert_5 : decode cX5_revert 5 = .ok (.invokestatic 226, 3) := by decide +kernel
theorem dX5_revert_8 : decode cX5_revert 8 = .ok (.aload_n 0, 1) := by decide +kernel
theorem dX5_revert_9 : decode cX5_revert 9 = .ok (.iload_n 1, 1) := by decide +kernel
theorem dX5_revert_10 : decode cX5_revert 10 = .ok (.invokevirtual 229, 3) := by decide +kernel
theorem dX5_revert_13 : decode cX5_revert 13 = .ok (.istore_n 2, 1) := by decide +kernel
theorem dX5_revert_14 : decode cX5_revert 14 = .ok (.aload_n 0, 1) := by decide +kernel
theorem dX5_revert_15 : decode cX5_revert 15 = .ok (.iload_n 2, 1) := by decide +kernel
theorem dX5_revert_16 : decode cX5_revert 16 = .ok (.invokevirtual 237, 3) := by decide +kernel
theorem dX5_revert_19 : decode cX5_revert 19 = .ok (.ifCond .ne 13, 3) := by decide +kernel
theorem dX5_revert_22 : decode cX5_revert 22 = .ok (.new 151, 3) := by decide +kernel
theorem dX5_revert_25 : decode cX5_revert 25 = .ok (.dup, 1) := by decide +kernel
theorem dX5_revert_26 : decode cX5_revert 26 = .ok (.ldc 240, 2) := by decide +kernel
theorem dX5_revert_28 : decode cX5_revert 28 = .ok (.invokespecial 155, 3) := by decide +kernel
theorem dX5_revert_31 : decode cX5_revert 31 = .ok (.athrow, 1) := by decide +kernel
theorem dX5_revert_32 : decode cX5_revert 32 = .ok (.aload_n 0, 1) := by decide +kernel
theorem dX5_revert_33 : decode cX5_revert 33 = .ok (.getfield 45, 3) := by decide +kernel
theorem dX5_revert_36 : decode cX5_revert 36 = .ok (.iconst 0, 1) := by decide +kernel
theorem dX5_revert_37 : decode cX5_revert 37 = .ok (.aload_n 0, 1) := by decide +kernel
theorem dX5_revert_38 : decode cX5_revert 38 = .ok (.getfield 42, 3) := by decide +kernel
theorem dX5_revert_41 : decode cX5_revert 41 = .ok (.iconst 0, 1) := by decide +kernel
theorem dX5_revert_42 : decode cX5_revert 42 = .ok (.bipush 64, 2) := by decide +kernel
theorem dX5_revert_44 : decode cX5_revert 44 = .ok (.invokestatic 242, 3) := by decide +kernel
theorem dX5_revert_47 : decode cX5_revert 47 = .ok (.aload_n 0, 1) := by decide +kernel
theorem dX5_revert_48 : decode cX5_revert 48 = .ok (.iload_n 2, 1) := by decide +kernel
theorem dX5_revert_49 : decode cX5_revert 49 = .ok (.invokevirtual 248, 3) := by decide +kernel
theorem dX5_revert_52 : decode cX5_revert 52 = .ok (.iload_n 2, 1) := by decide +kernel
theorem dX5_revert_53 : decode cX5_revert 53 = .ok (.invokestatic 232, 3) := by decide +kernel
theorem dX5_revert_56 : decode cX5_revert 56 = .ok (.ireturn, 1) := by decide +kernel
theorem dX5_mergedAt_0 : decode cX5_mergedAt 0 = .ok (.aload_n 0, 1) := by decide +kernel
theorem dX5_mergedAt_1 : decode cX5_mergedAt 1 = .ok (.getfield 36, 3) := by decide +kernel
theorem dX5_mergedAt_4 : decode cX5_mergedAt 4 = .ok (.iload_n 1, 1) := by decide +kernel
theorem dX5_mergedAt_5 : decode cX5_mergedAt 5 = .ok (.invokestatic 167, 3) := by decide +kernel
theorem dX5_mergedAt_8 : decode cX5_mergedAt 8 = .ok (.aload_n 0, 1) := by decide +kernel
theorem dX5_mergedAt_9 : decode cX5_mergedAt 9 = .ok (.getfield 36, 3) := by decide +kernel
theorem dX5_mergedAt_12 : decode cX5_mergedAt 12 = .ok (.iload_n 1, 1) := by decide +kernel
theorem dX5_mergedAt_13 : decode cX5_mergedAt 13 = .ok (.invokevirtual 171, 3) := by decide +kernel
theorem dX5_mergedAt_16 : decode cX5_mergedAt 16 = .ok (.ireturn, 1) := by decide +kernel
theorem dX5_isGood_0 : decode cX5_isGood 0 = .ok (.iload_n 1, 1) := by decide +kernel
theorem dX5_isGood_1 : decode cX5_isGood 1 = .ok (.invokestatic 56, 3) := by decide +kernel
theorem dX5_isGood_4 : decode cX5_isGood 4 = .ok (.aload_n 0, 1) := by decide +kernel
theorem dX5_isGood_5 : decode cX5_isGood 5 = .ok (.getfield 51, 3) := by decide +kernel
theorem dX5_isGood_8 : decode cX5_isGood 8 = .ok (.iload_n 1, 1) := by decide +kernel
theorem dX5_isGood_9 : decode cX5_isGood 9 = .ok (.aload_n 0, 1) := by decide +kernel
theorem dX5_isGood_10 : decode cX5_isGood 10 = .ok (.getfield 42, 3) := by decide +kernel
theorem dX5_isGood_13 : decode cX5_isGood 13 = .ok (.invokevirtual 251, 3) := by decide +kernel
theorem dX5_isGood_16 : decode cX5_isGood 16 = .ok (.ireturn, 1) := by decide +kernel
theorem dX5_builds_0 : decode cX5_builds 0 = .ok (.aload_n 0, 1) := by decide +kernel
theorem dX5_builds_1 : decode cX5_builds 1 = .ok (.getfield 51, 3) := by decide +kernel
theorem dX5_builds_4 : decode cX5_builds 4 = .ok (.getfield 255, 3) := by decide +kernel
theorem dX5_builds_7 : decode cX5_builds 7 = .ok (.ireturn, 1) := by decide +kernel
theorem dX5_taken_0 : decode cX5_taken 0 = .ok (.aload_n 0, 1) := by decide +kernel
theorem dX5_taken_1 : decode cX5_taken 1 = .ok (.getfield 51, 3) := by decide +kernel
theorem dX5_taken_4 : decode cX5_taken 4 = .ok (.getfield 258, 3) := by decide +kernel
theorem dX5_taken_7 : decode cX5_taken 7 = .ok (.lreturn, 1) := by decide +kernel
theorem dX5_takenShare_0 : decode cX5_takenShare 0 = .ok (.aload_n 0, 1) := by decide +kernel
theorem dX5_takenShare_1 : decode cX5_takenShare 1 = .ok (.getfield 51, 3) := by decide +kernel
theorem dX5_takenShare_4 : decode cX5_takenShare 4 = .ok (.getfield 258, 3) := by decide +kernel
theorem dX5_takenShare_7 : decode cX5_takenShare 7 = .ok (.aload_n 0, 1) := by decide +kernel
theorem dX5_takenShare_8 : decode cX5_takenShare 8 = .ok (.getfield 51, 3) := by decide +kernel
theorem dX5_takenShare_11 : decode cX5_takenShare 11 = .ok (.getfield 255, 3) := by decide +kernel
theorem dX5_takenShare_14 : decode cX5_takenShare 14 = .ok (.i2l, 1) := by decide +kernel
theorem dX5_takenShare_15 : decode cX5_takenShare 15 = .ok (.ladd, 1) := by decide +kernel
theorem dX5_takenShare_16 : decode cX5_takenShare 16 = .ok (.lstore_n 1, 1) := by decide +kernel
theorem dX5_takenShare_17 : decode cX5_takenShare 17 = .ok (.lload_n 1, 1) := by decide +kernel
theorem dX5_takenShare_18 : decode cX5_takenShare 18 = .ok (.lconst 0, 1) := by decide +kernel
theorem dX5_takenShare_19 : decode cX5_takenShare 19 = .ok (.lcmp, 1) := by decide +kernel
theorem dX5_takenShare_20 : decode cX5_takenShare 20 = .ok (.ifCond .ne 14, 3) := by decide +kernel
theorem dX5_takenShare_23 : decode cX5_takenShare 23 = .ok (.new 261, 3) := by decide +kernel
theorem dX5_takenShare_26 : decode cX5_takenShare 26 = .ok (.dup, 1) := by decide +kernel
theorem dX5_takenShare_27 : decode cX5_takenShare 27 = .ok (.ldc_w 263, 3) := by decide +kernel
theorem dX5_takenShare_30 : decode cX5_takenShare 30 = .ok (.invokespecial 265, 3) := by decide +kernel
theorem dX5_takenShare_33 : decode cX5_takenShare 33 = .ok (.athrow, 1) := by decide +kernel
theorem dX5_takenShare_34 : decode cX5_takenShare 34 = .ok (.aload_n 0, 1) := by decide +kernel
theorem dX5_takenShare_35 : decode cX5_takenShare 35 = .ok (.getfield 51, 3) := by decide +kernel
theorem dX5_takenShare_38 : decode cX5_takenShare 38 = .ok (.getfield 258, 3) := by decide +kernel
theorem dX5_takenShare_41 : decode cX5_takenShare 41 = .ok (.l2f, 1) := by decide +kernel
theorem dX5_takenShare_42 : decode cX5_takenShare 42 = .ok (.lload_n 1, 1) := by decide +kernel
theorem dX5_takenShare_43 : decode cX5_takenShare 43 = .ok (.l2f, 1) := by decide +kernel
theorem dX5_takenShare_44 : decode cX5_takenShare 44 = .ok (.fdiv, 1) := by decide +kernel
theorem dX5_takenShare_45 : decode cX5_takenShare 45 = .ok (.freturn, 1) := by decide +kernel
theorem dX5_meanEdits_0 : decode cX5_meanEdits 0 = .ok (.aload_n 0, 1) := by decide +kernel
theorem dX5_meanEdits_1 : decode cX5_meanEdits 1 = .ok (.getfield 36, 3) := by decide +kernel
theorem dX5_meanEdits_4 : decode cX5_meanEdits 4 = .ok (.getfield 159, 3) := by decide +kernel
theorem dX5_meanEdits_7 : decode cX5_meanEdits 7 = .ok (.ifCond .ne 14, 3) := by decide +kernel
theorem dX5_meanEdits_10 : decode cX5_meanEdits 10 = .ok (.new 261, 3) := by decide +kernel
theorem dX5_meanEdits_13 : decode cX5_meanEdits 13 = .ok (.dup, 1) := by decide +kernel
theorem dX5_meanEdits_14 : decode cX5_meanEdits 14 = .ok (.ldc_w 266, 3) := by decide +kernel
theorem dX5_meanEdits_17 : decode cX5_meanEdits 17 = .ok (.invokespecial 265, 3) := by decide +kernel
theorem dX5_meanEdits_20 : decode cX5_meanEdits 20 = .ok (.athrow, 1) := by decide +kernel
theorem dX5_meanEdits_21 : decode cX5_meanEdits 21 = .ok (.iconst 0, 1) := by decide +kernel
theorem dX5_meanEdits_22 : decode cX5_meanEdits 22 = .ok (.istore_n 1, 1) := by decide +kernel
theorem dX5_meanEdits_23 : decode cX5_meanEdits 23 = .ok (.iconst 0, 1) := by decide +kernel
theorem dX5_meanEdits_24 : decode cX5_meanEdits 24 = .ok (.istore_n 2, 1) := by decide +kernel
theorem dX5_meanEdits_25 : decode cX5_meanEdits 25 = .ok (.iload_n 2, 1) := by decide +kernel
theorem dX5_meanEdits_26 : decode cX5_meanEdits 26 = .ok (.aload_n 0, 1) := by decide +kernel
theorem dX5_meanEdits_27 : decode cX5_meanEdits 27 = .ok (.getfield 36, 3) := by decide +kernel
theorem dX5_meanEdits_30 : decode cX5_meanEdits 30 = .ok (.getfield 159, 3) := by decide +kernel
theorem dX5_meanEdits_33 : decode cX5_meanEdits 33 = .ok (.if_icmp .ge 28, 3) := by decide +kernel
theorem dX5_meanEdits_36 : decode cX5_meanEdits 36 = .ok (.iload_n 1, 1) := by decide +kernel
theorem dX5_meanEdits_37 : decode cX5_meanEdits 37 = .ok (.aload_n 0, 1) := by decide +kernel
theorem dX5_meanEdits_38 : decode cX5_meanEdits 38 = .ok (.getfield 25, 3) := by decide +kernel
theorem dX5_meanEdits_41 : decode cX5_meanEdits 41 = .ok (.aload_n 0, 1) := by decide +kernel
theorem dX5_meanEdits_42 : decode cX5_meanEdits 42 = .ok (.getfield 36, 3) := by decide +kernel
theorem dX5_meanEdits_45 : decode cX5_meanEdits 45 = .ok (.iload_n 2, 1) := by decide +kernel
theorem dX5_meanEdits_46 : decode cX5_meanEdits 46 = .ok (.invokevirtual 171, 3) := by decide +kernel
theorem dX5_meanEdits_49 : decode cX5_meanEdits 49 = .ok (.aaload, 1) := by decide +kernel
theorem dX5_meanEdits_50 : decode cX5_meanEdits 50 = .ok (.invokevirtual 100, 3) := by decide +kernel
theorem dX5_meanEdits_53 : decode cX5_meanEdits 53 = .ok (.iadd, 1) := by decide +kernel
theorem dX5_meanEdits_54 : decode cX5_meanEdits 54 = .ok (.istore_n 1, 1) := by decide +kernel
theorem dX5_meanEdits_55 : decode cX5_meanEdits 55 = .ok (.iinc 2 1, 3) := by decide +kernel
theorem dX5_meanEdits_58 : decode cX5_meanEdits 58 = .ok (.goto (-33), 3) := by decide +kernel
theorem dX5_meanEdits_61 : decode cX5_meanEdits 61 = .ok (.iload_n 1, 1) := by decide +kernel
theorem dX5_meanEdits_62 : decode cX5_meanEdits 62 = .ok (.i2d, 1) := by decide +kernel
theorem dX5_meanEdits_63 : decode cX5_meanEdits 63 = .ok (.aload_n 0, 1) := by decide +kernel
theorem dX5_meanEdits_64 : decode cX5_meanEdits 64 = .ok (.getfield 36, 3) := by decide +kernel
theorem dX5_meanEdits_67 : decode cX5_meanEdits 67 = .ok (.getfield 159, 3) := by decide +kernel
theorem dX5_meanEdits_70 : decode cX5_meanEdits 70 = .ok (.i2d, 1) := by decide +kernel
theorem dX5_meanEdits_71 : decode cX5_meanEdits 71 = .ok (.ddiv, 1) := by decide +kernel
theorem dX5_meanEdits_72 : decode cX5_meanEdits 72 = .ok (.dreturn, 1) := by decide +kernel
theorem dX5_isSound_0 : decode cX5_isSound 0 = .ok (.iconst 0, 1) := by decide +kernel
theorem dX5_isSound_1 : decode cX5_isSound 1 = .ok (.istore_n 1, 1) := by decide +kernel
theorem dX5_isSound_2 : decode cX5_isSound 2 = .ok (.iload_n 1, 1) := by decide +kernel
theorem dX5_isSound_3 : decode cX5_isSound 3 = .ok (.iconst 4, 1) := by decide +kernel
theorem dX5_isSound_4 : decode cX5_isSound 4 = .ok (.if_icmp .ge 26, 3) := by decide +kernel
theorem dX5_isSound_7 : decode cX5_isSound 7 = .ok (.aload_n 0, 1) := by decide +kernel
theorem dX5_isSound_8 : decode cX5_isSound 8 = .ok (.getfield 51, 3) := by decide +kernel
theorem dX5_isSound_11 : decode cX5_isSound 11 = .ok (.iload_n 1, 1) := by decide +kernel
theorem dX5_isSound_12 : decode cX5_isSound 12 = .ok (.aload_n 0, 1) := by decide +kernel
theorem dX5_isSound_13 : decode cX5_isSound 13 = .ok (.getfield 42, 3) := by decide +kernel
theorem dX5_isSound_16 : decode cX5_isSound 16 = .ok (.invokevirtual 251, 3) := by decide +kernel
theorem dX5_isSound_19 : decode cX5_isSound 19 = .ok (.ifCond .ne 5, 3) := by decide +kernel
theorem dX5_isSound_22 : decode cX5_isSound 22 = .ok (.iconst 0, 1) := by decide +kernel
theorem dX5_isSound_23 : decode cX5_isSound 23 = .ok (.ireturn, 1) := by decide +kernel
theorem dX5_isSound_24 : decode cX5_isSound 24 = .ok (.iinc 1 1, 3) := by decide +kernel
theorem dX5_isSound_27 : decode cX5_isSound 27 = .ok (.goto (-25), 3) := by decide +kernel
theorem dX5_isSound_30 : decode cX5_isSound 30 = .ok (.iconst 0, 1) := by decide +kernel
theorem dX5_isSound_31 : decode cX5_isSound 31 = .ok (.istore_n 1, 1) := by decide +kernel
theorem dX5_isSound_32 : decode cX5_isSound 32 = .ok (.iload_n 1, 1) := by decide +kernel
theorem dX5_isSound_33 : decode cX5_isSound 33 = .ok (.bipush 64, 2) := by decide +kernel
theorem dX5_isSound_35 : decode cX5_isSound 35 = .ok (.if_icmp .ge 25, 3) := by decide +kernel
theorem dX5_isSound_38 : decode cX5_isSound 38 = .ok (.aload_n 0, 1) := by decide +kernel
theorem dX5_isSound_39 : decode cX5_isSound 39 = .ok (.getfield 42, 3) := by decide +kernel
theorem dX5_isSound_42 : decode cX5_isSound 42 = .ok (.iload_n 1, 1) := by decide +kernel
theorem dX5_isSound_43 : decode cX5_isSound 43 = .ok (.iaload, 1) := by decide +kernel
theorem dX5_isSound_44 : decode cX5_isSound 44 = .ok (.aload_n 0, 1) := by decide +kernel
theorem dX5_isSound_45 : decode cX5_isSound 45 = .ok (.iload_n 1, 1) := by decide +kernel
theorem dX5_isSound_46 : decode cX5_isSound 46 = .ok (.invokevirtual 220, 3) := by decide +kernel
theorem dX5_isSound_49 : decode cX5_isSound 49 = .ok (.if_icmp .eq 5, 3) := by decide +kernel
theorem dX5_isSound_52 : decode cX5_isSound 52 = .ok (.iconst 0, 1) := by decide +kernel
theorem dX5_isSound_53 : decode cX5_isSound 53 = .ok (.ireturn, 1) := by decide +kernel
theorem dX5_isSound_54 : decode cX5_isSound 54 = .ok (.iinc 1 1, 3) := by decide +kernel
theorem dX5_isSound_57 : decode cX5_isSound 57 = .ok (.goto (-25), 3) := by decide +kernel
theorem dX5_isSound_60 : decode cX5_isSound 60 = .ok (.iconst 1, 1) := by decide +kernel
theorem dX5_isSound_61 : decode cX5_isSound 61 = .ok (.ireturn, 1) := by decide +kernel
theorem dX5_checkDirectory_0 : decode cX5_checkDirectory 0 = .ok (.iload_n 0, 1) := by decide +kernel
theorem dX5_checkDirectory_1 : decode cX5_checkDirectory 1 = .ok (.ifCond .lt 8, 3) := by decide +kernel
theorem dX5_checkDirectory_4 : decode cX5_checkDirectory 4 = .ok (.iload_n 0, 1) := by decide +kernel
theorem dX5_checkDirectory_5 : decode cX5_checkDirectory 5 = .ok (.iconst 4, 1) := by decide +kernel
theorem dX5_checkDirectory_6 : decode cX5_checkDirectory 6 = .ok (.if_icmp .lt 14, 3) := by decide +kernel
theorem dX5_checkDirectory_9 : decode cX5_checkDirectory 9 = .ok (.new 268, 3) := by decide +kernel
theorem dX5_checkDirectory_12 : decode cX5_checkDirectory 12 = .ok (.dup, 1) := by decide +kernel
theorem dX5_checkDirectory_13 : decode cX5_checkDirectory 13 = .ok (.ldc_w 270, 3) := by decide +kernel
theorem dX5_checkDirectory_16 : decode cX5_checkDirectory 16 = .ok (.invokespecial 272, 3) := by decide +kernel
theorem dX5_checkDirectory_19 : decode cX5_checkDirectory 19 = .ok (.athrow, 1) := by decide +kernel
theorem dX5_checkDirectory_20 : decode cX5_checkDirectory 20 = .ok (.return_, 1) := by decide +kernel
theorem dX5_checkPerson_0 : decode cX5_checkPerson 0 = .ok (.iload_n 0, 1) := by decide +kernel
theorem dX5_checkPerson_1 : decode cX5_checkPerson 1 = .ok (.ifCond .lt 9, 3) := by decide +kernel
theorem dX5_checkPerson_4 : decode cX5_checkPerson 4 = .ok (.iload_n 0, 1) := by decide +kernel
theorem dX5_checkPerson_5 : decode cX5_checkPerson 5 = .ok (.bipush 6, 2) := by decide +kernel
theorem dX5_checkPerson_7 : decode cX5_checkPerson 7 = .ok (.if_icmp .lt 14, 3) := by decide +kernel
theorem dX5_checkPerson_10 : decode cX5_checkPerson 10 = .ok (.new 63, 3) := by decide +kernel
theorem dX5_checkPerson_13 : decode cX5_checkPerson 13 = .ok (.dup, 1) := by decide +kernel
theorem dX5_checkPerson_14 : decode cX5_checkPerson 14 = .ok (.ldc_w 273, 3) := by decide +kernel
theorem dX5_checkPerson_17 : decode cX5_checkPerson 17 = .ok (.invokespecial 67, 3) := by decide +kernel
theorem dX5_checkPerson_20 : decode cX5_checkPerson 20 = .ok (.athrow, 1) := by decide +kernel
theorem dX5_checkPerson_21 : decode cX5_checkPerson 21 = .ok (.return_, 1) := by decide +kernel
theorem dX5_checkIndex_0 : decode cX5_checkIndex 0 = .ok (.iload_n 1, 1) := by decide +kernel
theorem dX5_checkIndex_1 : decode cX5_checkIndex 1 = .ok (.ifCond .lt 11, 3) := by decide +kernel
theorem dX5_checkIndex_4 : decode cX5_checkIndex 4 = .ok (.iload_n 1, 1) := by decide +kernel
theorem dX5_checkIndex_5 : decode cX5_checkIndex 5 = .ok (.aload_n 0, 1) := by decide +kernel
theorem dX5_checkIndex_6 : decode cX5_checkIndex 6 = .ok (.getfield 159, 3) := by decide +kernel
theorem dX5_checkIndex_9 : decode cX5_checkIndex 9 = .ok (.if_icmp .lt 14, 3) := by decide +kernel
theorem dX5_checkIndex_12 : decode cX5_checkIndex 12 = .ok (.new 268, 3) := by decide +kernel
theorem dX5_checkIndex_15 : decode cX5_checkIndex 15 = .ok (.dup, 1) := by decide +kernel
theorem dX5_checkIndex_16 : decode cX5_checkIndex 16 = .ok (.ldc_w 275, 3) := by decide +kernel
theorem dX5_checkIndex_19 : decode cX5_checkIndex 19 = .ok (.invokespecial 272, 3) := by decide +kernel
theorem dX5_checkIndex_22 : decode cX5_checkIndex 22 = .ok (.athrow, 1) := by decide +kernel
theorem dX5_checkIndex_23 : decode cX5_checkIndex 23 = .ok (.return_, 1) := by decide +kernel
theorem dX5_checkOpen_0 : decode cX5_checkOpen 0 = .ok (.aload_n 0, 1) := by decide +kernel
theorem dX5_checkOpen_1 : decode cX5_checkOpen 1 = .ok (.getfield 113, 3) := by decide +kernel
theorem dX5_checkOpen_4 : decode cX5_checkOpen 4 = .ok (.bipush 111, 2) := by decide +kernel
theorem dX5_checkOpen_6 : decode cX5_checkOpen 6 = .ok (.if_icmp .eq 14, 3) := by decide +kernel
theorem dX5_checkOpen_9 : decode cX5_checkOpen 9 = .ok (.new 74, 3) := by decide +kernel
theorem dX5_checkOpen_12 : decode cX5_checkOpen 12 = .ok (.dup, 1) := by decide +kernel
theorem dX5_checkOpen_13 : decode cX5_checkOpen 13 = .ok (.ldc_w 277, 3) := by decide +kernel
theorem dX5_checkOpen_16 : decode cX5_checkOpen 16 = .ok (.invokespecial 78, 3) := by decide +kernel
theorem dX5_checkOpen_19 : decode cX5_checkOpen 19 = .ok (.athrow, 1) := by decide +kernel
theorem dX5_checkOpen_20 : decode cX5_checkOpen 20 = .ok (.return_, 1) := by decide +kernel
theorem dX5_checkMerged_0 : decode cX5_checkMerged 0 = .ok (.aload_n 0, 1) := by decide +kernel
theorem dX5_checkMerged_1 : decode cX5_checkMerged 1 = .ok (.getfield 113, 3) := by decide +kernel
theorem dX5_checkMerged_4 : decode cX5_checkMerged 4 = .ok (.bipush 109, 2) := by decide +kernel
theorem dX5_checkMerged_6 : decode cX5_checkMerged 6 = .ok (.if_icmp .eq 14, 3) := by decide +kernel
theorem dX5_checkMerged_9 : decode cX5_checkMerged 9 = .ok (.new 74, 3) := by decide +kernel
theorem dX5_checkMerged_12 : decode cX5_checkMerged 12 = .ok (.dup, 1) := by decide +kernel
theorem dX5_checkMerged_13 : decode cX5_checkMerged 13 = .ok (.ldc_w 279, 3) := by decide +kernel
theorem dX5_checkMerged_16 : decode cX5_checkMerged 16 = .ok (.invokespecial 78, 3) := by decide +kernel
theorem dX5_checkMerged_19 : decode cX5_checkMerged 19 = .ok (.athrow, 1) := by decide +kernel
theorem dX5_checkMerged_20 : decode cX5_checkMerged 20 = .ok (.return_, 1) := by decide +kernel
theorem dX5_placeOf_0 : decode cX5_placeOf 0 = .ok (.iload_n 0, 1) := by decide +kernel
theorem dX5_placeOf_1 : decode cX5_placeOf 1 = .ok (.ifCond .lt 18, 3) := by decide +kernel
theorem dX5_placeOf_4 : decode cX5_placeOf 4 = .ok (.iload_n 0, 1) := by decide +kernel
theorem dX5_placeOf_5 : decode cX5_placeOf 5 = .ok (.bipush 16, 2) := by decide +kernel
theorem dX5_placeOf_7 : decode cX5_placeOf 7 = .ok (.if_icmp .ge 12, 3) := by decide +kernel
theorem dX5_placeOf_10 : decode cX5_placeOf 10 = .ok (.iload_n 1, 1) := by decide +kernel
theorem dX5_placeOf_11 : decode cX5_placeOf 11 = .ok (.ifCond .lt 8, 3) := by decide +kernel
theorem dX5_placeOf_14 : decode cX5_placeOf 14 = .ok (.iload_n 1, 1) := by decide +kernel
theorem dX5_placeOf_15 : decode cX5_placeOf 15 = .ok (.iconst 4, 1) := by decide +kernel
theorem dX5_placeOf_16 : decode cX5_placeOf 16 = .ok (.if_icmp .lt 14, 3) := by decide +kernel
theorem dX5_placeOf_19 : decode cX5_placeOf 19 = .ok (.new 268, 3) := by decide +kernel
theorem dX5_placeOf_22 : decode cX5_placeOf 22 = .ok (.dup, 1) := by decide +kernel
theorem dX5_placeOf_23 : decode cX5_placeOf 23 = .ok (.ldc_w 281, 3) := by decide +kernel
theorem dX5_placeOf_26 : decode cX5_placeOf 26 = .ok (.invokespecial 272, 3) := by decide +kernel
theorem dX5_placeOf_29 : decode cX5_placeOf 29 = .ok (.athrow, 1) := by decide +kernel
theorem dX5_placeOf_30 : decode cX5_placeOf 30 = .ok (.iload_n 0, 1) := by decide +kernel
theorem dX5_placeOf_31 : decode cX5_placeOf 31 = .ok (.iconst 4, 1) := by decide +kernel
theorem dX5_placeOf_32 : decode cX5_placeOf 32 = .ok (.imul, 1) := by decide +kernel
theorem dX5_placeOf_33 : decode cX5_placeOf 33 = .ok (.iload_n 1, 1) := by decide +kernel
theorem dX5_placeOf_34 : decode cX5_placeOf 34 = .ok (.iadd, 1) := by decide +kernel
theorem dX5_placeOf_35 : decode cX5_placeOf 35 = .ok (.ireturn, 1) := by decide +kernel
theorem dX5_changeOf_0 : decode cX5_changeOf 0 = .ok (.iload_n 1, 1) := by decide +kernel
theorem dX5_changeOf_1 : decode cX5_changeOf 1 = .ok (.ifCond .lt 11, 3) := by decide +kernel
theorem dX5_changeOf_4 : decode cX5_changeOf 4 = .ok (.iload_n 1, 1) := by decide +kernel
theorem dX5_changeOf_5 : decode cX5_changeOf 5 = .ok (.aload_n 0, 1) := by decide +kernel
theorem dX5_changeOf_6 : decode cX5_changeOf 6 = .ok (.getfield 70, 3) := by decide +kernel
theorem dX5_changeOf_9 : decode cX5_changeOf 9 = .ok (.if_icmp .lt 14, 3) := by decide +kernel
theorem dX5_changeOf_12 : decode cX5_changeOf 12 = .ok (.new 133, 3) := by decide +kernel
theorem dX5_changeOf_15 : decode cX5_changeOf 15 = .ok (.dup, 1) := by decide +kernel
theorem dX5_changeOf_16 : decode cX5_changeOf 16 = .ok (.ldc_w 275, 3) := by decide +kernel
theorem dX5_changeOf_19 : decode cX5_changeOf 19 = .ok (.invokespecial 137, 3) := by decide +kernel
theorem dX5_changeOf_22 : decode cX5_changeOf 22 = .ok (.athrow, 1) := by decide +kernel
theorem dX5_changeOf_23 : decode cX5_changeOf 23 = .ok (.aload_n 0, 1) := by decide +kernel
theorem dX5_changeOf_24 : decode cX5_changeOf 24 = .ok (.getfield 25, 3) := by decide +kernel
theorem dX5_changeOf_27 : decode cX5_changeOf 27 = .ok (.iload_n 1, 1) := by decide +kernel
theorem dX5_changeOf_28 : decode cX5_changeOf 28 = .ok (.aaload, 1) := by decide +kernel
theorem dX5_changeOf_29 : decode cX5_changeOf 29 = .ok (.areturn, 1) := by decide +kernel
theorem dX5_personAsked_0 : decode cX5_personAsked 0 = .ok (.aload_n 0, 1) := by decide +kernel
theorem dX5_personAsked_1 : decode cX5_personAsked 1 = .ok (.getfield 9, 3) := by decide +kernel
theorem dX5_personAsked_4 : decode cX5_personAsked 4 = .ok (.iload_n 2, 1) := by decide +kernel
theorem dX5_personAsked_5 : decode cX5_personAsked 5 = .ok (.iaload, 1) := by decide +kernel
theorem dX5_personAsked_6 : decode cX5_personAsked 6 = .ok (.istore_n 3, 1) := by decide +kernel
theorem dX5_personAsked_7 : decode cX5_personAsked 7 = .ok (.aload_n 0, 1) := by decide +kernel
theorem dX5_personAsked_8 : decode cX5_personAsked 8 = .ok (.getfield 20, 3) := by decide +kernel
theorem dX5_personAsked_11 : decode cX5_personAsked 11 = .ok (.iload_n 3, 1) := by decide +kernel
theorem dX5_personAsked_12 : decode cX5_personAsked 12 = .ok (.baload, 1) := by decide +kernel
theorem dX5_personAsked_13 : decode cX5_personAsked 13 = .ok (.ifCond .ne 13, 3) := by decide +kernel
theorem dX5_personAsked_16 : decode cX5_personAsked 16 = .ok (.iload_n 3, 1) := by decide +kernel
theorem dX5_personAsked_17 : decode cX5_personAsked 17 = .ok (.aload_n 1, 1) := by decide +kernel
theorem dX5_personAsked_18 : decode cX5_personAsked 18 = .ok (.getfield 79, 3) := by decide +kernel
theorem dX5_personAsked_21 : decode cX5_personAsked 21 = .ok (.if_icmp .eq 5, 3) := by decide +kernel
theorem dX5_personAsked_24 : decode cX5_personAsked 24 = .ok (.iload_n 3, 1) := by decide +kernel
theorem dX5_personAsked_25 : decode cX5_personAsked 25 = .ok (.ireturn, 1) := by decide +kernel
theorem dX5_personAsked_26 : decode cX5_personAsked 26 = .ok (.aload_n 0, 1) := by decide +kernel
theorem dX5_personAsked_27 : decode cX5_personAsked 27 = .ok (.getfield 13, 3) := by decide +kernel
theorem dX5_personAsked_30 : decode cX5_personAsked 30 = .ok (.iload_n 2, 1) := by decide +kernel
theorem dX5_personAsked_31 : decode cX5_personAsked 31 = .ok (.iaload, 1) := by decide +kernel
theorem dX5_personAsked_32 : decode cX5_personAsked 32 = .ok (.istore 4, 2) := by decide +kernel
theorem dX5_personAsked_34 : decode cX5_personAsked 34 = .ok (.iload 4, 2) := by decide +kernel
theorem dX5_personAsked_36 : decode cX5_personAsked 36 = .ok (.aload_n 1, 1) := by decide +kernel
theorem dX5_personAsked_37 : decode cX5_personAsked 37 = .ok (.getfield 79, 3) := by decide +kernel
theorem dX5_personAsked_40 : decode cX5_personAsked 40 = .ok (.if_icmp .ne 7, 3) := by decide +kernel
theorem dX5_personAsked_43 : decode cX5_personAsked 43 = .ok (.iconst (-1), 1) := by decide +kernel
theorem dX5_personAsked_44 : decode cX5_personAsked 44 = .ok (.goto 5, 3) := by decide +kernel
theorem dX5_personAsked_47 : decode cX5_personAsked 47 = .ok (.iload 4, 2) := by decide +kernel
theorem dX5_personAsked_49 : decode cX5_personAsked 49 = .ok (.ireturn, 1) := by decide +kernel
theorem dX5_verdictOf_0 : decode cX5_verdictOf 0 = .ok (.aload_n 1, 1) := by decide +kernel
theorem dX5_verdictOf_1 : decode cX5_verdictOf 1 = .ok (.iload_n 2, 1) := by decide +kernel
theorem dX5_verdictOf_2 : decode cX5_verdictOf 2 = .ok (.invokevirtual 283, 3) := by decide +kernel
theorem dX5_verdictOf_5 : decode cX5_verdictOf 5 = .ok (.ifCond .ne 6, 3) := by decide +kernel
theorem dX5_verdictOf_8 : decode cX5_verdictOf 8 = .ok (.bipush 45, 2) := by decide +kernel
theorem dX5_verdictOf_10 : decode cX5_verdictOf 10 = .ok (.ireturn, 1) := by decide +kernel
theorem dX5_verdictOf_11 : decode cX5_verdictOf 11 = .ok (.aload_n 0, 1) := by decide +kernel
theorem dX5_verdictOf_12 : decode cX5_verdictOf 12 = .ok (.aload_n 1, 1) := by decide +kernel
theorem dX5_verdictOf_13 : decode cX5_verdictOf 13 = .ok (.iload_n 2, 1) := by decide +kernel
theorem dX5_verdictOf_14 : decode cX5_verdictOf 14 = .ok (.invokevirtual 129, 3) := by decide +kernel
theorem dX5_verdictOf_17 : decode cX5_verdictOf 17 = .ok (.istore_n 3, 1) := by decide +kernel
theorem dX5_verdictOf_18 : decode cX5_verdictOf 18 = .ok (.iload_n 3, 1) := by decide +kernel
theorem dX5_verdictOf_19 : decode cX5_verdictOf 19 = .ok (.iconst (-1), 1) := by decide +kernel
theorem dX5_verdictOf_20 : decode cX5_verdictOf 20 = .ok (.if_icmp .ne 8, 3) := by decide +kernel
theorem dX5_verdictOf_23 : decode cX5_verdictOf 23 = .ok (.bipush 102, 2) := by decide +kernel
theorem dX5_verdictOf_25 : decode cX5_verdictOf 25 = .ok (.goto 9, 3) := by decide +kernel
theorem dX5_verdictOf_28 : decode cX5_verdictOf 28 = .ok (.aload_n 1, 1) := by decide +kernel
theorem dX5_verdictOf_29 : decode cX5_verdictOf 29 = .ok (.iload_n 3, 1) := by decide +kernel
theorem dX5_verdictOf_30 : decode cX5_verdictOf 30 = .ok (.iload_n 2, 1) := by decide +kernel
theorem dX5_verdictOf_31 : decode cX5_verdictOf 31 = .ok (.invokevirtual 286, 3) := by decide +kernel
theorem dX5_verdictOf_34 : decode cX5_verdictOf 34 = .ok (.ireturn, 1) := by decide +kernel
theorem dX5_missingVerdicts_0 : decode cX5_missingVerdicts 0 = .ok (.iconst 0, 1) := by decide +kernel
theorem dX5_missingVerdicts_1 : decode cX5_missingVerdicts 1 = .ok (.istore_n 2, 1) := by decide +kernel
theorem dX5_missingVerdicts_2 : decode cX5_missingVerdicts 2 = .ok (.iconst 0, 1) := by decide +kernel
theorem dX5_missingVerdicts_3 : decode cX5_missingVerdicts 3 = .ok (.istore_n 3, 1) := by decide +kernel
theorem dX5_missingVerdicts_4 : decode cX5_missingVerdicts 4 = .ok (.iload_n 3, 1) := by decide +kernel
theorem dX5_missingVerdicts_5 : decode cX5_missingVerdicts 5 = .ok (.iconst 4, 1) := by decide +kernel
theorem dX5_missingVerdicts_6 : decode cX5_missingVerdicts 6 = .ok (.if_icmp .ge 41, 3) := by decide +kernel
theorem dX5_missingVerdicts_9 : decode cX5_missingVerdicts 9 = .ok (.aload_n 0, 1) := by decide +kernel
theorem dX5_missingVerdicts_10 : decode cX5_missingVerdicts 10 = .ok (.aload_n 1, 1) := by decide +kernel
theorem dX5_missingVerdicts_11 : decode cX5_missingVerdicts 11 = .ok (.iload_n 3, 1) := by decide +kernel
theorem dX5_missingVerdicts_12 : decode cX5_missingVerdicts 12 = .ok (.invokevirtual 125, 3) := by decide +kernel
theorem dX5_missingVerdicts_15 : decode cX5_missingVerdicts 15 = .ok (.istore 4, 2) := by decide +kernel
theorem dX5_missingVerdicts_17 : decode cX5_missingVerdicts 17 = .ok (.iload 4, 2) := by decide +kernel
theorem dX5_missingVerdicts_19 : decode cX5_missingVerdicts 19 = .ok (.bipush 63, 2) := by decide +kernel
theorem dX5_missingVerdicts_21 : decode cX5_missingVerdicts 21 = .ok (.if_icmp .eq 17, 3) := by decide +kernel
theorem dX5_missingVerdicts_24 : decode cX5_missingVerdicts 24 = .ok (.iload 4, 2) := by decide +kernel
theorem dX5_missingVerdicts_26 : decode cX5_missingVerdicts 26 = .ok (.bipush 110, 2) := by decide +kernel
theorem dX5_missingVerdicts_28 : decode cX5_missingVerdicts 28 = .ok (.if_icmp .eq 10, 3) := by decide +kernel
theorem dX5_missingVerdicts_31 : decode cX5_missingVerdicts 31 = .ok (.iload 4, 2) := by decide +kernel
theorem dX5_missingVerdicts_33 : decode cX5_missingVerdicts 33 = .ok (.bipush 115, 2) := by decide +kernel
theorem dX5_missingVerdicts_35 : decode cX5_missingVerdicts 35 = .ok (.if_icmp .ne 6, 3) := by decide +kernel
theorem dX5_missingVerdicts_38 : decode cX5_missingVerdicts 38 = .ok (.iinc 2 1, 3) := by decide +kernel
theorem dX5_missingVerdicts_41 : decode cX5_missingVerdicts 41 = .ok (.iinc 3 1, 3) := by decide +kernel
theorem dX5_missingVerdicts_44 : decode cX5_missingVerdicts 44 = .ok (.goto (-40), 3) := by decide +kernel
theorem dX5_missingVerdicts_47 : decode cX5_missingVerdicts 47 = .ok (.iload_n 2, 1) := by decide +kernel
theorem dX5_missingVerdicts_48 : decode cX5_missingVerdicts 48 = .ok (.ireturn, 1) := by decide +kernel
theorem dX5_reopen_0 : decode cX5_reopen 0 = .ok (.aload_n 0, 1) := by decide +kernel
theorem dX5_reopen_1 : decode cX5_reopen 1 = .ok (.getfield 32, 3) := by decide +kernel
theorem dX5_reopen_4 : decode cX5_reopen 4 = .ok (.iload_n 1, 1) := by decide +kernel
theorem dX5_reopen_5 : decode cX5_reopen 5 = .ok (.invokevirtual 290, 3) := by decide +kernel
theorem dX5_reopen_8 : decode cX5_reopen 8 = .ok (.aload_n 0, 1) := by decide +kernel
theorem dX5_reopen_9 : decode cX5_reopen 9 = .ok (.getfield 25, 3) := by decide +kernel
theorem dX5_reopen_12 : decode cX5_reopen 12 = .ok (.iload_n 1, 1) := by decide +kernel
theorem dX5_reopen_13 : decode cX5_reopen 13 = .ok (.aaload, 1) := by decide +kernel
theorem dX5_reopen_14 : decode cX5_reopen 14 = .ok (.bipush 111, 2) := by decide +kernel
theorem dX5_reopen_16 : decode cX5_reopen 16 = .ok (.putfield 113, 3) := by decide +kernel
theorem dX5_reopen_19 : decode cX5_reopen 19 = .ok (.return_, 1) := by decide +kernel
theorem dX5_touchesFrozen_0 : decode cX5_touchesFrozen 0 = .ok (.iconst 0, 1) := by decide +kernel
theorem dX5_touchesFrozen_1 : decode cX5_touchesFrozen 1 = .ok (.istore_n 2, 1) := by decide +kernel
theorem dX5_touchesFrozen_2 : decode cX5_touchesFrozen 2 = .ok (.iload_n 2, 1) := by decide +kernel
theorem dX5_touchesFrozen_3 : decode cX5_touchesFrozen 3 = .ok (.iconst 4, 1) := by decide +kernel
theorem dX5_touchesFrozen_4 : decode cX5_touchesFrozen 4 = .ok (.if_icmp .ge 28, 3) := by decide +kernel
theorem dX5_touchesFrozen_7 : decode cX5_touchesFrozen 7 = .ok (.aload_n 0, 1) := by decide +kernel
theorem dX5_touchesFrozen_8 : decode cX5_touchesFrozen 8 = .ok (.getfield 16, 3) := by decide +kernel
theorem dX5_touchesFrozen_11 : decode cX5_touchesFrozen 11 = .ok (.iload_n 2, 1) := by decide +kernel
theorem dX5_touchesFrozen_12 : decode cX5_touchesFrozen 12 = .ok (.baload, 1) := by decide +kernel
theorem dX5_touchesFrozen_13 : decode cX5_touchesFrozen 13 = .ok (.ifCond .eq 13, 3) := by decide +kernel
theorem dX5_touchesFrozen_16 : decode cX5_touchesFrozen 16 = .ok (.aload_n 1, 1) := by decide +kernel
theorem dX5_touchesFrozen_17 : decode cX5_touchesFrozen 17 = .ok (.iload_n 2, 1) := by decide +kernel
theorem dX5_touchesFrozen_18 : decode cX5_touchesFrozen 18 = .ok (.invokevirtual 283, 3) := by decide +kernel
theorem dX5_touchesFrozen_21 : decode cX5_touchesFrozen 21 = .ok (.ifCond .eq 5, 3) := by decide +kernel
theorem dX5_touchesFrozen_24 : decode cX5_touchesFrozen 24 = .ok (.iconst 1, 1) := by decide +kernel
theorem dX5_touchesFrozen_25 : decode cX5_touchesFrozen 25 = .ok (.ireturn, 1) := by decide +kernel
theorem dX5_touchesFrozen_26 : decode cX5_touchesFrozen 26 = .ok (.iinc 2 1, 3) := by decide +kernel
theorem dX5_touchesFrozen_29 : decode cX5_touchesFrozen 29 = .ok (.goto (-27), 3) := by decide +kernel
theorem dX5_touchesFrozen_32 : decode cX5_touchesFrozen 32 = .ok (.iconst 0, 1) := by decide +kernel
theorem dX5_touchesFrozen_33 : decode cX5_touchesFrozen 33 = .ok (.ireturn, 1) := by decide +kernel
theorem dX5_pickBatch_0 : decode cX5_pickBatch 0 = .ok (.iconst 0, 1) := by decide +kernel
theorem dX5_pickBatch_1 : decode cX5_pickBatch 1 = .ok (.istore_n 1, 1) := by decide +kernel
theorem dX5_pickBatch_2 : decode cX5_pickBatch 2 = .ok (.lconst 0, 1) := by decide +kernel
theorem dX5_pickBatch_3 : decode cX5_pickBatch 3 = .ok (.lstore_n 2, 1) := by decide +kernel
theorem dX5_pickBatch_4 : decode cX5_pickBatch 4 = .ok (.iconst 0, 1) := by decide +kernel
theorem dX5_pickBatch_5 : decode cX5_pickBatch 5 = .ok (.istore 4, 2) := by decide +kernel
theorem dX5_pickBatch_7 : decode cX5_pickBatch 7 = .ok (.iload 4, 2) := by decide +kernel
theorem dX5_pickBatch_9 : decode cX5_pickBatch 9 = .ok (.aload_n 0, 1) := by decide +kernel
theorem dX5_pickBatch_10 : decode cX5_pickBatch 10 = .ok (.getfield 32, 3) := by decide +kernel
theorem dX5_pickBatch_13 : decode cX5_pickBatch 13 = .ok (.getfield 159, 3) := by decide +kernel
theorem dX5_pickBatch_16 : decode cX5_pickBatch 16 = .ok (.if_icmp .ge 74, 3) := by decide +kernel
theorem dX5_pickBatch_19 : decode cX5_pickBatch 19 = .ok (.iload_n 1, 1) := by decide +kernel
theorem dX5_pickBatch_20 : decode cX5_pickBatch 20 = .ok (.iconst 4, 1) := by decide +kernel
theorem dX5_pickBatch_21 : decode cX5_pickBatch 21 = .ok (.if_icmp .ge 69, 3) := by decide +kernel
theorem dX5_pickBatch_24 : decode cX5_pickBatch 24 = .ok (.aload_n 0, 1) := by decide +kernel
theorem dX5_pickBatch_25 : decode cX5_pickBatch 25 = .ok (.getfield 32, 3) := by decide +kernel
theorem dX5_pickBatch_28 : decode cX5_pickBatch 28 = .ok (.iload 4, 2) := by decide +kernel
theorem dX5_pickBatch_30 : decode cX5_pickBatch 30 = .ok (.invokevirtual 171, 3) := by decide +kernel
theorem dX5_pickBatch_33 : decode cX5_pickBatch 33 = .ok (.istore 5, 2) := by decide +kernel
theorem dX5_pickBatch_35 : decode cX5_pickBatch 35 = .ok (.aload_n 0, 1) := by decide +kernel
theorem dX5_pickBatch_36 : decode cX5_pickBatch 36 = .ok (.getfield 25, 3) := by decide +kernel
theorem dX5_pickBatch_39 : decode cX5_pickBatch 39 = .ok (.iload 5, 2) := by decide +kernel
theorem dX5_pickBatch_41 : decode cX5_pickBatch 41 = .ok (.aaload, 1) := by decide +kernel
theorem dX5_pickBatch_42 : decode cX5_pickBatch 42 = .ok (.astore 6, 2) := by decide +kernel
theorem dX5_pickBatch_44 : decode cX5_pickBatch 44 = .ok (.aload_n 0, 1) := by decide +kernel
theorem dX5_pickBatch_45 : decode cX5_pickBatch 45 = .ok (.aload 6, 2) := by decide +kernel
theorem dX5_pickBatch_47 : decode cX5_pickBatch 47 = .ok (.invokevirtual 292, 3) := by decide +kernel
theorem dX5_pickBatch_50 : decode cX5_pickBatch 50 = .ok (.ifCond .ne 34, 3) := by decide +kernel
theorem dX5_pickBatch_53 : decode cX5_pickBatch 53 = .ok (.aload 6, 2) := by decide +kernel
theorem dX5_pickBatch_55 : decode cX5_pickBatch 55 = .ok (.getfield 142, 3) := by decide +kernel
theorem dX5_pickBatch_58 : decode cX5_pickBatch 58 = .ok (.lload_n 2, 1) := by decide +kernel
theorem dX5_pickBatch_59 : decode cX5_pickBatch 59 = .ok (.land, 1) := by decide +kernel
theorem dX5_pickBatch_60 : decode cX5_pickBatch 60 = .ok (.lconst 0, 1) := by decide +kernel
theorem dX5_pickBatch_61 : decode cX5_pickBatch 61 = .ok (.lcmp, 1) := by decide +kernel
theorem dX5_pickBatch_62 : decode cX5_pickBatch 62 = .ok (.ifCond .ne 22, 3) := by decide +kernel
theorem dX5_pickBatch_65 : decode cX5_pickBatch 65 = .ok (.aload_n 0, 1) := by decide +kernel
theorem dX5_pickBatch_66 : decode cX5_pickBatch 66 = .ok (.getfield 39, 3) := by decide +kernel
theorem dX5_pickBatch_69 : decode cX5_pickBatch 69 = .ok (.iload_n 1, 1) := by decide +kernel
theorem dX5_pickBatch_70 : decode cX5_pickBatch 70 = .ok (.iload 5, 2) := by decide +kernel
theorem dX5_pickBatch_72 : decode cX5_pickBatch 72 = .ok (.iastore, 1) := by decide +kernel
theorem dX5_pickBatch_73 : decode cX5_pickBatch 73 = .ok (.iinc 1 1, 3) := by decide +kernel
theorem dX5_pickBatch_76 : decode cX5_pickBatch 76 = .ok (.lload_n 2, 1) := by decide +kernel
theorem dX5_pickBatch_77 : decode cX5_pickBatch 77 = .ok (.aload 6, 2) := by decide +kernel
theorem dX5_pickBatch_79 : decode cX5_pickBatch 79 = .ok (.getfield 142, 3) := by decide +kernel
theorem dX5_pickBatch_82 : decode cX5_pickBatch 82 = .ok (.lor, 1) := by decide +kernel
theorem dX5_pickBatch_83 : decode cX5_pickBatch 83 = .ok (.lstore_n 2, 1) := by decide +kernel
theorem dX5_pickBatch_84 : decode cX5_pickBatch 84 = .ok (.iinc 4 1, 3) := by decide +kernel
theorem dX5_pickBatch_87 : decode cX5_pickBatch 87 = .ok (.goto (-80), 3) := by decide +kernel
theorem dX5_pickBatch_90 : decode cX5_pickBatch 90 = .ok (.iload_n 1, 1) := by decide +kernel
theorem dX5_pickBatch_91 : decode cX5_pickBatch 91 = .ok (.ireturn, 1) := by decide +kernel
theorem dX5_tryTogether_0 : decode cX5_tryTogether 0 = .ok (.aload_n 0, 1) := by decide +kernel
theorem dX5_tryTogether_1 : decode cX5_tryTogether 1 = .ok (.iload_n 1, 1) := by decide +kernel
theorem dX5_tryTogether_2 : decode cX5_tryTogether 2 = .ok (.iload_n 2, 1) := by decide +kernel
theorem dX5_tryTogether_3 : decode cX5_tryTogether 3 = .ok (.invokevirtual 296, 3) := by decide +kernel
theorem dX5_tryTogether_6 : decode cX5_tryTogether 6 = .ok (.ifCond .eq 33, 3) := by decide +kernel
theorem dX5_tryTogether_9 : decode cX5_tryTogether 9 = .ok (.iload_n 1, 1) := by decide +kernel
theorem dX5_tryTogether_10 : decode cX5_tryTogether 10 = .ok (.istore 4, 2) := by decide +kernel
theorem dX5_tryTogether_12 : decode cX5_tryTogether 12 = .ok (.iload 4, 2) := by decide +kernel
theorem dX5_tryTogether_14 : decode cX5_tryTogether 14 = .ok (.iload_n 2, 1) := by decide +kernel
theorem dX5_tryTogether_15 : decode cX5_tryTogether 15 = .ok (.if_icmp .ge 20, 3) := by decide +kernel
theorem dX5_tryTogether_18 : decode cX5_tryTogether 18 = .ok (.aload_n 0, 1) := by decide +kernel
theorem dX5_tryTogether_19 : decode cX5_tryTogether 19 = .ok (.aload_n 0, 1) := by decide +kernel
theorem dX5_tryTogether_20 : decode cX5_tryTogether 20 = .ok (.getfield 39, 3) := by decide +kernel
theorem dX5_tryTogether_23 : decode cX5_tryTogether 23 = .ok (.iload 4, 2) := by decide +kernel
theorem dX5_tryTogether_25 : decode cX5_tryTogether 25 = .ok (.iaload, 1) := by decide +kernel
theorem dX5_tryTogether_26 : decode cX5_tryTogether 26 = .ok (.invokevirtual 300, 3) := by decide +kernel
theorem dX5_tryTogether_29 : decode cX5_tryTogether 29 = .ok (.iinc 4 1, 3) := by decide +kernel
theorem dX5_tryTogether_32 : decode cX5_tryTogether 32 = .ok (.goto (-20), 3) := by decide +kernel
theorem dX5_tryTogether_35 : decode cX5_tryTogether 35 = .ok (.iload_n 2, 1) := by decide +kernel
theorem dX5_tryTogether_36 : decode cX5_tryTogether 36 = .ok (.iload_n 1, 1) := by decide +kernel
theorem dX5_tryTogether_37 : decode cX5_tryTogether 37 = .ok (.isub, 1) := by decide +kernel
theorem dX5_tryTogether_38 : decode cX5_tryTogether 38 = .ok (.ireturn, 1) := by decide +kernel
theorem dX5_tryTogether_39 : decode cX5_tryTogether 39 = .ok (.iload_n 2, 1) := by decide +kernel
theorem dX5_tryTogether_40 : decode cX5_tryTogether 40 = .ok (.iload_n 1, 1) := by decide +kernel
theorem dX5_tryTogether_41 : decode cX5_tryTogether 41 = .ok (.isub, 1) := by decide +kernel
theorem dX5_tryTogether_42 : decode cX5_tryTogether 42 = .ok (.iconst 1, 1) := by decide +kernel
theorem dX5_tryTogether_43 : decode cX5_tryTogether 43 = .ok (.if_icmp .le 13, 3) := by decide +kernel
theorem dX5_tryTogether_46 : decode cX5_tryTogether 46 = .ok (.aload_n 0, 1) := by decide +kernel
theorem dX5_tryTogether_47 : decode cX5_tryTogether 47 = .ok (.iload_n 1, 1) := by decide +kernel
theorem dX5_tryTogether_48 : decode cX5_tryTogether 48 = .ok (.iload_n 2, 1) := by decide +kernel
theorem dX5_tryTogether_49 : decode cX5_tryTogether 49 = .ok (.iload_n 3, 1) := by decide +kernel
theorem dX5_tryTogether_50 : decode cX5_tryTogether 50 = .ok (.iconst 1, 1) := by decide +kernel
theorem dX5_tryTogether_51 : decode cX5_tryTogether 51 = .ok (.iadd, 1) := by decide +kernel
theorem dX5_tryTogether_52 : decode cX5_tryTogether 52 = .ok (.invokevirtual 303, 3) := by decide +kernel
theorem dX5_tryTogether_55 : decode cX5_tryTogether 55 = .ok (.ireturn, 1) := by decide +kernel
theorem dX5_tryTogether_56 : decode cX5_tryTogether 56 = .ok (.aload_n 0, 1) := by decide +kernel
theorem dX5_tryTogether_57 : decode cX5_tryTogether 57 = .ok (.aload_n 0, 1) := by decide +kernel
theorem dX5_tryTogether_58 : decode cX5_tryTogether 58 = .ok (.getfield 39, 3) := by decide +kernel
theorem dX5_tryTogether_61 : decode cX5_tryTogether 61 = .ok (.iload_n 1, 1) := by decide +kernel
theorem dX5_tryTogether_62 : decode cX5_tryTogether 62 = .ok (.iaload, 1) := by decide +kernel
theorem dX5_tryTogether_63 : decode cX5_tryTogether 63 = .ok (.invokevirtual 164, 3) := by decide +kernel
theorem dX5_tryTogether_66 : decode cX5_tryTogether 66 = .ok (.aload_n 0, 1) := by decide +kernel
theorem dX5_tryTogether_67 : decode cX5_tryTogether 67 = .ok (.getfield 25, 3) := by decide +kernel
theorem dX5_tryTogether_70 : decode cX5_tryTogether 70 = .ok (.aload_n 0, 1) := by decide +kernel
theorem dX5_tryTogether_71 : decode cX5_tryTogether 71 = .ok (.getfield 39, 3) := by decide +kernel
theorem dX5_tryTogether_74 : decode cX5_tryTogether 74 = .ok (.iload_n 1, 1) := by decide +kernel
theorem dX5_tryTogether_75 : decode cX5_tryTogether 75 = .ok (.iaload, 1) := by decide +kernel
theorem dX5_tryTogether_76 : decode cX5_tryTogether 76 = .ok (.aaload, 1) := by decide +kernel
theorem dX5_tryTogether_77 : decode cX5_tryTogether 77 = .ok (.iconst 1, 1) := by decide +kernel
theorem dX5_tryTogether_78 : decode cX5_tryTogether 78 = .ok (.putfield 184, 3) := by decide +kernel
theorem dX5_tryTogether_81 : decode cX5_tryTogether 81 = .ok (.iconst 0, 1) := by decide +kernel
theorem dX5_tryTogether_82 : decode cX5_tryTogether 82 = .ok (.ireturn, 1) := by decide +kernel
theorem dX5_tryHalves_0 : decode cX5_tryHalves 0 = .ok (.iload_n 3, 1) := by decide +kernel
theorem dX5_tryHalves_1 : decode cX5_tryHalves 1 = .ok (.iconst 2, 1) := by decide +kernel
theorem dX5_tryHalves_2 : decode cX5_tryHalves 2 = .ok (.if_icmp .le 5, 3) := by decide +kernel
theorem dX5_tryHalves_5 : decode cX5_tryHalves 5 = .ok (.iconst 0, 1) := by decide +kernel
theorem dX5_tryHalves_6 : decode cX5_tryHalves 6 = .ok (.ireturn, 1) := by decide +kernel
theorem dX5_tryHalves_7 : decode cX5_tryHalves 7 = .ok (.iload_n 1, 1) := by decide +kernel
theorem dX5_tryHalves_8 : decode cX5_tryHalves 8 = .ok (.iload_n 2, 1) := by decide +kernel
theorem dX5_tryHalves_9 : decode cX5_tryHalves 9 = .ok (.iload_n 1, 1) := by decide +kernel
theorem dX5_tryHalves_10 : decode cX5_tryHalves 10 = .ok (.isub, 1) := by decide +kernel
theorem dX5_tryHalves_11 : decode cX5_tryHalves 11 = .ok (.iconst 2, 1) := by decide +kernel
theorem dX5_tryHalves_12 : decode cX5_tryHalves 12 = .ok (.idiv, 1) := by decide +kernel
theorem dX5_tryHalves_13 : decode cX5_tryHalves 13 = .ok (.iadd, 1) := by decide +kernel
theorem dX5_tryHalves_14 : decode cX5_tryHalves 14 = .ok (.istore 4, 2) := by decide +kernel
theorem dX5_tryHalves_16 : decode cX5_tryHalves 16 = .ok (.aload_n 0, 1) := by decide +kernel
theorem dX5_tryHalves_17 : decode cX5_tryHalves 17 = .ok (.iload_n 1, 1) := by decide +kernel
theorem dX5_tryHalves_18 : decode cX5_tryHalves 18 = .ok (.iload 4, 2) := by decide +kernel
theorem dX5_tryHalves_20 : decode cX5_tryHalves 20 = .ok (.iload_n 3, 1) := by decide +kernel
theorem dX5_tryHalves_21 : decode cX5_tryHalves 21 = .ok (.invokevirtual 180, 3) := by decide +kernel
theorem dX5_tryHalves_24 : decode cX5_tryHalves 24 = .ok (.istore 5, 2) := by decide +kernel
theorem dX5_tryHalves_26 : decode cX5_tryHalves 26 = .ok (.iload 5, 2) := by decide +kernel
theorem dX5_tryHalves_28 : decode cX5_tryHalves 28 = .ok (.aload_n 0, 1) := by decide +kernel
theorem dX5_tryHalves_29 : decode cX5_tryHalves 29 = .ok (.iload 4, 2) := by decide +kernel
theorem dX5_tryHalves_31 : decode cX5_tryHalves 31 = .ok (.iload_n 2, 1) := by decide +kernel
theorem dX5_tryHalves_32 : decode cX5_tryHalves 32 = .ok (.iload_n 3, 1) := by decide +kernel
theorem dX5_tryHalves_33 : decode cX5_tryHalves 33 = .ok (.invokevirtual 180, 3) := by decide +kernel
theorem dX5_tryHalves_36 : decode cX5_tryHalves 36 = .ok (.iadd, 1) := by decide +kernel
theorem dX5_tryHalves_37 : decode cX5_tryHalves 37 = .ok (.ireturn, 1) := by decide +kernel
theorem dX5_isGoodWithBatch_0 : decode cX5_isGoodWithBatch 0 = .ok (.aload_n 0, 1) := by decide +kernel
theorem dX5_isGoodWithBatch_1 : decode cX5_isGoodWithBatch 1 = .ok (.getfield 42, 3) := by decide +kernel
theorem dX5_isGoodWithBatch_4 : decode cX5_isGoodWithBatch 4 = .ok (.iconst 0, 1) := by decide +kernel
theorem dX5_isGoodWithBatch_5 : decode cX5_isGoodWithBatch 5 = .ok (.aload_n 0, 1) := by decide +kernel
theorem dX5_isGoodWithBatch_6 : decode cX5_isGoodWithBatch 6 = .ok (.getfield 45, 3) := by decide +kernel
theorem dX5_isGoodWithBatch_9 : decode cX5_isGoodWithBatch 9 = .ok (.iconst 0, 1) := by decide +kernel
theorem dX5_isGoodWithBatch_10 : decode cX5_isGoodWithBatch 10 = .ok (.bipush 64, 2) := by decide +kernel
theorem dX5_isGoodWithBatch_12 : decode cX5_isGoodWithBatch 12 = .ok (.invokestatic 242, 3) := by decide +kernel
theorem dX5_isGoodWithBatch_15 : decode cX5_isGoodWithBatch 15 = .ok (.iload_n 1, 1) := by decide +kernel
theorem dX5_isGoodWithBatch_16 : decode cX5_isGoodWithBatch 16 = .ok (.istore_n 3, 1) := by decide +kernel
theorem dX5_isGoodWithBatch_17 : decode cX5_isGoodWithBatch 17 = .ok (.iload_n 3, 1) := by decide +kernel
theorem dX5_isGoodWithBatch_18 : decode cX5_isGoodWithBatch 18 = .ok (.iload_n 2, 1) := by decide +kernel
theorem dX5_isGoodWithBatch_19 : decode cX5_isGoodWithBatch 19 = .ok (.if_icmp .ge 27, 3) := by decide +kernel
theorem dX5_isGoodWithBatch_22 : decode cX5_isGoodWithBatch 22 = .ok (.aload_n 0, 1) := by decide +kernel
theorem dX5_isGoodWithBatch_23 : decode cX5_isGoodWithBatch 23 = .ok (.getfield 25, 3) := by decide +kernel
theorem dX5_isGoodWithBatch_26 : decode cX5_isGoodWithBatch 26 = .ok (.aload_n 0, 1) := by decide +kernel
theorem dX5_isGoodWithBatch_27 : decode cX5_isGoodWithBatch 27 = .ok (.getfield 39, 3) := by decide +kernel
theorem dX5_isGoodWithBatch_30 : decode cX5_isGoodWithBatch 30 = .ok (.iload_n 3, 1) := by decide +kernel
theorem dX5_isGoodWithBatch_31 : decode cX5_isGoodWithBatch 31 = .ok (.iaload, 1) := by decide +kernel
theorem dX5_isGoodWithBatch_32 : decode cX5_isGoodWithBatch 32 = .ok (.aaload, 1) := by decide +kernel
theorem dX5_isGoodWithBatch_33 : decode cX5_isGoodWithBatch 33 = .ok (.aload_n 0, 1) := by decide +kernel
theorem dX5_isGoodWithBatch_34 : decode cX5_isGoodWithBatch 34 = .ok (.getfield 45, 3) := by decide +kernel
theorem dX5_isGoodWithBatch_37 : decode cX5_isGoodWithBatch 37 = .ok (.invokevirtual 306, 3) := by decide +kernel
theorem dX5_isGoodWithBatch_40 : decode cX5_isGoodWithBatch 40 = .ok (.iinc 3 1, 3) := by decide +kernel
theorem dX5_isGoodWithBatch_43 : decode cX5_isGoodWithBatch 43 = .ok (.goto (-26), 3) := by decide +kernel
theorem dX5_isGoodWithBatch_46 : decode cX5_isGoodWithBatch 46 = .ok (.aload_n 0, 1) := by decide +kernel
theorem dX5_isGoodWithBatch_47 : decode cX5_isGoodWithBatch 47 = .ok (.getfield 51, 3) := by decide +kernel
theorem dX5_isGoodWithBatch_50 : decode cX5_isGoodWithBatch 50 = .ok (.aload_n 0, 1) := by decide +kernel
theorem dX5_isGoodWithBatch_51 : decode cX5_isGoodWithBatch 51 = .ok (.getfield 45, 3) := by decide +kernel
theorem dX5_isGoodWithBatch_54 : decode cX5_isGoodWithBatch 54 = .ok (.invokevirtual 310, 3) := by decide +kernel
theorem dX5_isGoodWithBatch_57 : decode cX5_isGoodWithBatch 57 = .ok (.ireturn, 1) := by decide +kernel
theorem dX5_merge_0 : decode cX5_merge 0 = .ok (.aload_n 0, 1) := by decide +kernel
theorem dX5_merge_1 : decode cX5_merge 1 = .ok (.getfield 25, 3) := by decide +kernel
theorem dX5_merge_4 : decode cX5_merge 4 = .ok (.iload_n 1, 1) := by decide +kernel
theorem dX5_merge_5 : decode cX5_merge 5 = .ok (.aaload, 1) := by decide +kernel
theorem dX5_merge_6 : decode cX5_merge 6 = .ok (.astore_n 2, 1) := by decide +kernel
theorem dX5_merge_7 : decode cX5_merge 7 = .ok (.aload_n 0, 1) := by decide +kernel
theorem dX5_merge_8 : decode cX5_merge 8 = .ok (.getfield 32, 3) := by decide +kernel
theorem dX5_merge_11 : decode cX5_merge 11 = .ok (.iload_n 1, 1) := by decide +kernel
theorem dX5_merge_12 : decode cX5_merge 12 = .ok (.invokevirtual 290, 3) := by decide +kernel
theorem dX5_merge_15 : decode cX5_merge 15 = .ok (.aload_n 0, 1) := by decide +kernel
theorem dX5_merge_16 : decode cX5_merge 16 = .ok (.getfield 36, 3) := by decide +kernel
theorem dX5_merge_19 : decode cX5_merge 19 = .ok (.iload_n 1, 1) := by decide +kernel
theorem dX5_merge_20 : decode cX5_merge 20 = .ok (.invokevirtual 156, 3) := by decide +kernel
theorem dX5_merge_23 : decode cX5_merge 23 = .ok (.aload_n 2, 1) := by decide +kernel
theorem dX5_merge_24 : decode cX5_merge 24 = .ok (.bipush 109, 2) := by decide +kernel
theorem dX5_merge_26 : decode cX5_merge 26 = .ok (.putfield 113, 3) := by decide +kernel
theorem dX5_merge_29 : decode cX5_merge 29 = .ok (.aload_n 2, 1) := by decide +kernel
theorem dX5_merge_30 : decode cX5_merge 30 = .ok (.iconst 0, 1) := by decide +kernel
theorem dX5_merge_31 : decode cX5_merge 31 = .ok (.putfield 184, 3) := by decide +kernel
theorem dX5_merge_34 : decode cX5_merge 34 = .ok (.aload_n 2, 1) := by decide +kernel
theorem dX5_merge_35 : decode cX5_merge 35 = .ok (.aload_n 0, 1) := by decide +kernel
theorem dX5_merge_36 : decode cX5_merge 36 = .ok (.getfield 42, 3) := by decide +kernel
theorem dX5_merge_39 : decode cX5_merge 39 = .ok (.invokevirtual 306, 3) := by decide +kernel
theorem dX5_merge_42 : decode cX5_merge 42 = .ok (.iconst 0, 1) := by decide +kernel
theorem dX5_merge_43 : decode cX5_merge 43 = .ok (.istore_n 3, 1) := by decide +kernel
theorem dX5_merge_44 : decode cX5_merge 44 = .ok (.iload_n 3, 1) := by decide +kernel
theorem dX5_merge_45 : decode cX5_merge 45 = .ok (.aload_n 0, 1) := by decide +kernel
theorem dX5_merge_46 : decode cX5_merge 46 = .ok (.getfield 70, 3) := by decide +kernel
theorem dX5_merge_49 : decode cX5_merge 49 = .ok (.if_icmp .ge 23, 3) := by decide +kernel
theorem dX5_merge_52 : decode cX5_merge 52 = .ok (.iload_n 3, 1) := by decide +kernel
theorem dX5_merge_53 : decode cX5_merge 53 = .ok (.iload_n 1, 1) := by decide +kernel
theorem dX5_merge_54 : decode cX5_merge 54 = .ok (.if_icmp .eq 12, 3) := by decide +kernel
theorem dX5_merge_57 : decode cX5_merge 57 = .ok (.aload_n 0, 1) := by decide +kernel
theorem dX5_merge_58 : decode cX5_merge 58 = .ok (.iload_n 3, 1) := by decide +kernel
theorem dX5_merge_59 : decode cX5_merge 59 = .ok (.aload_n 2, 1) := by decide +kernel
theorem dX5_merge_60 : decode cX5_merge 60 = .ok (.getfield 142, 3) := by decide +kernel
theorem dX5_merge_63 : decode cX5_merge 63 = .ok (.invokevirtual 314, 3) := by decide +kernel
theorem dX5_merge_66 : decode cX5_merge 66 = .ok (.iinc 3 1, 3) := by decide +kernel
theorem dX5_merge_69 : decode cX5_merge 69 = .ok (.goto (-25), 3) := by decide +kernel
theorem dX5_merge_72 : decode cX5_merge 72 = .ok (.return_, 1) := by decide +kernel
theorem dX5_clashIfShared_0 : decode cX5_clashIfShared 0 = .ok (.aload_n 0, 1) := by decide +kernel
theorem dX5_clashIfShared_1 : decode cX5_clashIfShared 1 = .ok (.getfield 25, 3) := by decide +kernel
theorem dX5_clashIfShared_4 : decode cX5_clashIfShared 4 = .ok (.iload_n 1, 1) := by decide +kernel
theorem dX5_clashIfShared_5 : decode cX5_clashIfShared 5 = .ok (.aaload, 1) := by decide +kernel
theorem dX5_clashIfShared_6 : decode cX5_clashIfShared 6 = .ok (.astore 4, 2) := by decide +kernel
theorem dX5_clashIfShared_8 : decode cX5_clashIfShared 8 = .ok (.aload 4, 2) := by decide +kernel
theorem dX5_clashIfShared_10 : decode cX5_clashIfShared 10 = .ok (.getfield 142, 3) := by decide +kernel
theorem dX5_clashIfShared_13 : decode cX5_clashIfShared 13 = .ok (.lload_n 2, 1) := by decide +kernel
theorem dX5_clashIfShared_14 : decode cX5_clashIfShared 14 = .ok (.land, 1) := by decide +kernel
theorem dX5_clashIfShared_15 : decode cX5_clashIfShared 15 = .ok (.lstore 5, 2) := by decide +kernel
theorem dX5_clashIfShared_17 : decode cX5_clashIfShared 17 = .ok (.lload 5, 2) := by decide +kernel
theorem dX5_clashIfShared_19 : decode cX5_clashIfShared 19 = .ok (.lconst 0, 1) := by decide +kernel
theorem dX5_clashIfShared_20 : decode cX5_clashIfShared 20 = .ok (.lcmp, 1) := by decide +kernel
theorem dX5_clashIfShared_21 : decode cX5_clashIfShared 21 = .ok (.ifCond .eq 23, 3) := by decide +kernel
theorem dX5_clashIfShared_24 : decode cX5_clashIfShared 24 = .ok (.aload 4, 2) := by decide +kernel
theorem dX5_clashIfShared_26 : decode cX5_clashIfShared 26 = .ok (.getfield 113, 3) := by decide +kernel
theorem dX5_clashIfShared_29 : decode cX5_clashIfShared 29 = .ok (.bipush 111, 2) := by decide +kernel
theorem dX5_clashIfShared_31 : decode cX5_clashIfShared 31 = .ok (.if_icmp .eq 14, 3) := by decide +kernel
theorem dX5_clashIfShared_34 : decode cX5_clashIfShared 34 = .ok (.aload 4, 2) := by decide +kernel
theorem dX5_clashIfShared_36 : decode cX5_clashIfShared 36 = .ok (.getfield 113, 3) := by decide +kernel
theorem dX5_clashIfShared_39 : decode cX5_clashIfShared 39 = .ok (.bipush 113, 2) := by decide +kernel
theorem dX5_clashIfShared_41 : decode cX5_clashIfShared 41 = .ok (.if_icmp .eq 4, 3) := by decide +kernel
theorem dX5_clashIfShared_44 : decode cX5_clashIfShared 44 = .ok (.return_, 1) := by decide +kernel
theorem dX5_clashIfShared_45 : decode cX5_clashIfShared 45 = .ok (.aload 4, 2) := by decide +kernel
theorem dX5_clashIfShared_47 : decode cX5_clashIfShared 47 = .ok (.dup, 1) := by decide +kernel
theorem dX5_clashIfShared_48 : decode cX5_clashIfShared 48 = .ok (.getfield 146, 3) := by decide +kernel
theorem dX5_clashIfShared_51 : decode cX5_clashIfShared 51 = .ok (.lload 5, 2) := by decide +kernel
theorem dX5_clashIfShared_53 : decode cX5_clashIfShared 53 = .ok (.lor, 1) := by decide +kernel
theorem dX5_clashIfShared_54 : decode cX5_clashIfShared 54 = .ok (.putfield 146, 3) := by decide +kernel
theorem dX5_clashIfShared_57 : decode cX5_clashIfShared 57 = .ok (.aload 4, 2) := by decide +kernel
theorem dX5_clashIfShared_59 : decode cX5_clashIfShared 59 = .ok (.getfield 113, 3) := by decide +kernel
theorem dX5_clashIfShared_62 : decode cX5_clashIfShared 62 = .ok (.bipush 113, 2) := by decide +kernel
theorem dX5_clashIfShared_64 : decode cX5_clashIfShared 64 = .ok (.if_icmp .ne 8, 3) := by decide +kernel
theorem dX5_clashIfShared_67 : decode cX5_clashIfShared 67 = .ok (.aload_n 0, 1) := by decide +kernel
theorem dX5_clashIfShared_68 : decode cX5_clashIfShared 68 = .ok (.iload_n 1, 1) := by decide +kernel
theorem dX5_clashIfShared_69 : decode cX5_clashIfShared 69 = .ok (.invokevirtual 164, 3) := by decide +kernel
theorem dX5_clashIfShared_72 : decode cX5_clashIfShared 72 = .ok (.return_, 1) := by decide +kernel
theorem dX5_replayedValue_0 : decode cX5_replayedValue 0 = .ok (.iconst 0, 1) := by decide +kernel
theorem dX5_replayedValue_1 : decode cX5_replayedValue 1 = .ok (.istore_n 2, 1) := by decide +kernel
theorem dX5_replayedValue_2 : decode cX5_replayedValue 2 = .ok (.iconst 0, 1) := by decide +kernel
theorem dX5_replayedValue_3 : decode cX5_replayedValue 3 = .ok (.istore_n 3, 1) := by decide +kernel
theorem dX5_replayedValue_4 : decode cX5_replayedValue 4 = .ok (.iload_n 3, 1) := by decide +kernel
theorem dX5_replayedValue_5 : decode cX5_replayedValue 5 = .ok (.aload_n 0, 1) := by decide +kernel
theorem dX5_replayedValue_6 : decode cX5_replayedValue 6 = .ok (.getfield 36, 3) := by decide +kernel
theorem dX5_replayedValue_9 : decode cX5_replayedValue 9 = .ok (.getfield 159, 3) := by decide +kernel
theorem dX5_replayedValue_12 : decode cX5_replayedValue 12 = .ok (.if_icmp .ge 41, 3) := by decide +kernel
theorem dX5_replayedValue_15 : decode cX5_replayedValue 15 = .ok (.aload_n 0, 1) := by decide +kernel
theorem dX5_replayedValue_16 : decode cX5_replayedValue 16 = .ok (.getfield 25, 3) := by decide +kernel
theorem dX5_replayedValue_19 : decode cX5_replayedValue 19 = .ok (.aload_n 0, 1) := by decide +kernel
theorem dX5_replayedValue_20 : decode cX5_replayedValue 20 = .ok (.getfield 36, 3) := by decide +kernel
theorem dX5_replayedValue_23 : decode cX5_replayedValue 23 = .ok (.iload_n 3, 1) := by decide +kernel
theorem dX5_replayedValue_24 : decode cX5_replayedValue 24 = .ok (.invokevirtual 171, 3) := by decide +kernel
theorem dX5_replayedValue_27 : decode cX5_replayedValue 27 = .ok (.aaload, 1) := by decide +kernel
theorem dX5_replayedValue_28 : decode cX5_replayedValue 28 = .ok (.astore 4, 2) := by decide +kernel
theorem dX5_replayedValue_30 : decode cX5_replayedValue 30 = .ok (.aload 4, 2) := by decide +kernel
theorem dX5_replayedValue_32 : decode cX5_replayedValue 32 = .ok (.iload_n 1, 1) := by decide +kernel
theorem dX5_replayedValue_33 : decode cX5_replayedValue 33 = .ok (.invokevirtual 104, 3) := by decide +kernel
theorem dX5_replayedValue_36 : decode cX5_replayedValue 36 = .ok (.ifCond .eq 11, 3) := by decide +kernel
theorem dX5_replayedValue_39 : decode cX5_replayedValue 39 = .ok (.aload 4, 2) := by decide +kernel
theorem dX5_replayedValue_41 : decode cX5_replayedValue 41 = .ok (.getfield 223, 3) := by decide +kernel
theorem dX5_replayedValue_44 : decode cX5_replayedValue 44 = .ok (.iload_n 1, 1) := by decide +kernel
theorem dX5_replayedValue_45 : decode cX5_replayedValue 45 = .ok (.iaload, 1) := by decide +kernel
theorem dX5_replayedValue_46 : decode cX5_replayedValue 46 = .ok (.istore_n 2, 1) := by decide +kernel
theorem dX5_replayedValue_47 : decode cX5_replayedValue 47 = .ok (.iinc 3 1, 3) := by decide +kernel
theorem dX5_replayedValue_50 : decode cX5_replayedValue 50 = .ok (.goto (-46), 3) := by decide +kernel
theorem dX5_replayedValue_53 : decode cX5_replayedValue 53 = .ok (.iload_n 2, 1) := by decide +kernel
theorem dX5_replayedValue_54 : decode cX5_replayedValue 54 = .ok (.ireturn, 1) := by decide +kernel
theorem dX5_goingAlong_0 : decode cX5_goingAlong 0 = .ok (.iconst 0, 1) := by decide +kernel
theorem dX5_goingAlong_1 : decode cX5_goingAlong 1 = .ok (.istore_n 2, 1) := by decide +kernel
theorem dX5_goingAlong_2 : decode cX5_goingAlong 2 = .ok (.lconst 0, 1) := by decide +kernel
theorem dX5_goingAlong_3 : decode cX5_goingAlong 3 = .ok (.lstore_n 3, 1) := by decide +kernel
theorem dX5_goingAlong_4 : decode cX5_goingAlong 4 = .ok (.iconst 0, 1) := by decide +kernel
theorem dX5_goingAlong_5 : decode cX5_goingAlong 5 = .ok (.istore 5, 2) := by decide +kernel
theorem dX5_goingAlong_7 : decode cX5_goingAlong 7 = .ok (.iload 5, 2) := by decide +kernel
theorem dX5_goingAlong_9 : decode cX5_goingAlong 9 = .ok (.aload_n 0, 1) := by decide +kernel
theorem dX5_goingAlong_10 : decode cX5_goingAlong 10 = .ok (.getfield 36, 3) := by decide +kernel
theorem dX5_goingAlong_13 : decode cX5_goingAlong 13 = .ok (.getfield 159, 3) := by decide +kernel
theorem dX5_goingAlong_16 : decode cX5_goingAlong 16 = .ok (.if_icmp .ge 62, 3) := by decide +kernel
theorem dX5_goingAlong_19 : decode cX5_goingAlong 19 = .ok (.aload_n 0, 1) := by decide +kernel
theorem dX5_goingAlong_20 : decode cX5_goingAlong 20 = .ok (.getfield 36, 3) := by decide +kernel
theorem dX5_goingAlong_23 : decode cX5_goingAlong 23 = .ok (.iload 5, 2) := by decide +kernel
theorem dX5_goingAlong_25 : decode cX5_goingAlong 25 = .ok (.invokevirtual 171, 3) := by decide +kernel
theorem dX5_goingAlong_28 : decode cX5_goingAlong 28 = .ok (.istore 6, 2) := by decide +kernel
theorem dX5_goingAlong_30 : decode cX5_goingAlong 30 = .ok (.aload_n 0, 1) := by decide +kernel
theorem dX5_goingAlong_31 : decode cX5_goingAlong 31 = .ok (.getfield 25, 3) := by decide +kernel
theorem dX5_goingAlong_34 : decode cX5_goingAlong 34 = .ok (.iload 6, 2) := by decide +kernel
theorem dX5_goingAlong_36 : decode cX5_goingAlong 36 = .ok (.aaload, 1) := by decide +kernel
theorem dX5_goingAlong_37 : decode cX5_goingAlong 37 = .ok (.astore 7, 2) := by decide +kernel
theorem dX5_goingAlong_39 : decode cX5_goingAlong 39 = .ok (.iload 6, 2) := by decide +kernel
theorem dX5_goingAlong_41 : decode cX5_goingAlong 41 = .ok (.iload_n 1, 1) := by decide +kernel
theorem dX5_goingAlong_42 : decode cX5_goingAlong 42 = .ok (.if_icmp .eq 15, 3) := by decide +kernel
theorem dX5_goingAlong_45 : decode cX5_goingAlong 45 = .ok (.aload 7, 2) := by decide +kernel
theorem dX5_goingAlong_47 : decode cX5_goingAlong 47 = .ok (.getfield 142, 3) := by decide +kernel
theorem dX5_goingAlong_50 : decode cX5_goingAlong 50 = .ok (.lload_n 3, 1) := by decide +kernel
theorem dX5_goingAlong_51 : decode cX5_goingAlong 51 = .ok (.land, 1) := by decide +kernel
theorem dX5_goingAlong_52 : decode cX5_goingAlong 52 = .ok (.lconst 0, 1) := by decide +kernel
theorem dX5_goingAlong_53 : decode cX5_goingAlong 53 = .ok (.lcmp, 1) := by decide +kernel
theorem dX5_goingAlong_54 : decode cX5_goingAlong 54 = .ok (.ifCond .eq 18, 3) := by decide +kernel
theorem dX5_goingAlong_57 : decode cX5_goingAlong 57 = .ok (.iload_n 2, 1) := by decide +kernel
theorem dX5_goingAlong_58 : decode cX5_goingAlong 58 = .ok (.iconst 1, 1) := by decide +kernel
theorem dX5_goingAlong_59 : decode cX5_goingAlong 59 = .ok (.iload 6, 2) := by decide +kernel
theorem dX5_goingAlong_61 : decode cX5_goingAlong 61 = .ok (.ishl, 1) := by decide +kernel
theorem dX5_goingAlong_62 : decode cX5_goingAlong 62 = .ok (.ior, 1) := by decide +kernel
theorem dX5_goingAlong_63 : decode cX5_goingAlong 63 = .ok (.istore_n 2, 1) := by decide +kernel
theorem dX5_goingAlong_64 : decode cX5_goingAlong 64 = .ok (.lload_n 3, 1) := by decide +kernel
theorem dX5_goingAlong_65 : decode cX5_goingAlong 65 = .ok (.aload 7, 2) := by decide +kernel
theorem dX5_goingAlong_67 : decode cX5_goingAlong 67 = .ok (.getfield 142, 3) := by decide +kernel
theorem dX5_goingAlong_70 : decode cX5_goingAlong 70 = .ok (.lor, 1) := by decide +kernel
theorem dX5_goingAlong_71 : decode cX5_goingAlong 71 = .ok (.lstore_n 3, 1) := by decide +kernel
theorem dX5_goingAlong_72 : decode cX5_goingAlong 72 = .ok (.iinc 5 1, 3) := by decide +kernel
theorem dX5_goingAlong_75 : decode cX5_goingAlong 75 = .ok (.goto (-68), 3) := by decide +kernel
theorem dX5_goingAlong_78 : decode cX5_goingAlong 78 = .ok (.iload_n 2, 1) := by decide +kernel
theorem dX5_goingAlong_79 : decode cX5_goingAlong 79 = .ok (.ireturn, 1) := by decide +kernel
theorem dX5_isGoodWithout_0 : decode cX5_isGoodWithout 0 = .ok (.aload_n 0, 1) := by decide +kernel
theorem dX5_isGoodWithout_1 : decode cX5_isGoodWithout 1 = .ok (.getfield 45, 3) := by decide +kernel
theorem dX5_isGoodWithout_4 : decode cX5_isGoodWithout 4 = .ok (.iconst 0, 1) := by decide +kernel
theorem dX5_isGoodWithout_5 : decode cX5_isGoodWithout 5 = .ok (.invokestatic 318, 3) := by decide +kernel
theorem dX5_isGoodWithout_8 : decode cX5_isGoodWithout 8 = .ok (.iconst 0, 1) := by decide +kernel
theorem dX5_isGoodWithout_9 : decode cX5_isGoodWithout 9 = .ok (.istore_n 2, 1) := by decide +kernel
theorem dX5_isGoodWithout_10 : decode cX5_isGoodWithout 10 = .ok (.iload_n 2, 1) := by decide +kernel
theorem dX5_isGoodWithout_11 : decode cX5_isGoodWithout 11 = .ok (.aload_n 0, 1) := by decide +kernel
theorem dX5_isGoodWithout_12 : decode cX5_isGoodWithout 12 = .ok (.getfield 36, 3) := by decide +kernel
theorem dX5_isGoodWithout_15 : decode cX5_isGoodWithout 15 = .ok (.getfield 159, 3) := by decide +kernel
theorem dX5_isGoodWithout_18 : decode cX5_isGoodWithout 18 = .ok (.if_icmp .ge 39, 3) := by decide +kernel
theorem dX5_isGoodWithout_21 : decode cX5_isGoodWithout 21 = .ok (.aload_n 0, 1) := by decide +kernel
theorem dX5_isGoodWithout_22 : decode cX5_isGoodWithout 22 = .ok (.getfield 36, 3) := by decide +kernel
theorem dX5_isGoodWithout_25 : decode cX5_isGoodWithout 25 = .ok (.iload_n 2, 1) := by decide +kernel
theorem dX5_isGoodWithout_26 : decode cX5_isGoodWithout 26 = .ok (.invokevirtual 171, 3) := by decide +kernel
theorem dX5_isGoodWithout_29 : decode cX5_isGoodWithout 29 = .ok (.istore_n 3, 1) := by decide +kernel
theorem dX5_isGoodWithout_30 : decode cX5_isGoodWithout 30 = .ok (.iload_n 1, 1) := by decide +kernel
theorem dX5_isGoodWithout_31 : decode cX5_isGoodWithout 31 = .ok (.iconst 1, 1) := by decide +kernel
theorem dX5_isGoodWithout_32 : decode cX5_isGoodWithout 32 = .ok (.iload_n 3, 1) := by decide +kernel
theorem dX5_isGoodWithout_33 : decode cX5_isGoodWithout 33 = .ok (.ishl, 1) := by decide +kernel
theorem dX5_isGoodWithout_34 : decode cX5_isGoodWithout 34 = .ok (.iand, 1) := by decide +kernel
theorem dX5_isGoodWithout_35 : decode cX5_isGoodWithout 35 = .ok (.ifCond .ne 16, 3) := by decide +kernel
theorem dX5_isGoodWithout_38 : decode cX5_isGoodWithout 38 = .ok (.aload_n 0, 1) := by decide +kernel
theorem dX5_isGoodWithout_39 : decode cX5_isGoodWithout 39 = .ok (.getfield 25, 3) := by decide +kernel
theorem dX5_isGoodWithout_42 : decode cX5_isGoodWithout 42 = .ok (.iload_n 3, 1) := by decide +kernel
theorem dX5_isGoodWithout_43 : decode cX5_isGoodWithout 43 = .ok (.aaload, 1) := by decide +kernel
theorem dX5_isGoodWithout_44 : decode cX5_isGoodWithout 44 = .ok (.aload_n 0, 1) := by decide +kernel
theorem dX5_isGoodWithout_45 : decode cX5_isGoodWithout 45 = .ok (.getfield 45, 3) := by decide +kernel
theorem dX5_isGoodWithout_48 : decode cX5_isGoodWithout 48 = .ok (.invokevirtual 306, 3) := by decide +kernel
theorem dX5_isGoodWithout_51 : decode cX5_isGoodWithout 51 = .ok (.iinc 2 1, 3) := by decide +kernel
theorem dX5_isGoodWithout_54 : decode cX5_isGoodWithout 54 = .ok (.goto (-44), 3) := by decide +kernel
theorem dX5_isGoodWithout_57 : decode cX5_isGoodWithout 57 = .ok (.aload_n 0, 1) := by decide +kernel
theorem dX5_isGoodWithout_58 : decode cX5_isGoodWithout 58 = .ok (.getfield 51, 3) := by decide +kernel
theorem dX5_isGoodWithout_61 : decode cX5_isGoodWithout 61 = .ok (.aload_n 0, 1) := by decide +kernel
theorem dX5_isGoodWithout_62 : decode cX5_isGoodWithout 62 = .ok (.getfield 45, 3) := by decide +kernel
theorem dX5_isGoodWithout_65 : decode cX5_isGoodWithout 65 = .ok (.invokevirtual 310, 3) := by decide +kernel
theorem dX5_isGoodWithout_68 : decode cX5_isGoodWithout 68 = .ok (.ireturn, 1) := by decide +kernel
theorem dX5_takeBack_0 : decode cX5_takeBack 0 = .ok (.iconst 0, 1) := by decide +kernel
theorem dX5_takeBack_1 : decode cX5_takeBack 1 = .ok (.istore_n 2, 1) := by decide +kernel
theorem dX5_takeBack_2 : decode cX5_takeBack 2 = .ok (.iload_n 2, 1) := by decide +kernel
theorem dX5_takeBack_3 : decode cX5_takeBack 3 = .ok (.aload_n 0, 1) := by decide +kernel
theorem dX5_takeBack_4 : decode cX5_takeBack 4 = .ok (.getfield 70, 3) := by decide +kernel
theorem dX5_takeBack_7 : decode cX5_takeBack 7 = .ok (.if_icmp .ge 36, 3) := by decide +kernel
theorem dX5_takeBack_10 : decode cX5_takeBack 10 = .ok (.iload_n 1, 1) := by decide +kernel
theorem dX5_takeBack_11 : decode cX5_takeBack 11 = .ok (.iconst 1, 1) := by decide +kernel
theorem dX5_takeBack_12 : decode cX5_takeBack 12 = .ok (.iload_n 2, 1) := by decide +kernel
theorem dX5_takeBack_13 : decode cX5_takeBack 13 = .ok (.ishl, 1) := by decide +kernel
theorem dX5_takeBack_14 : decode cX5_takeBack 14 = .ok (.iand, 1) := by decide +kernel
theorem dX5_takeBack_15 : decode cX5_takeBack 15 = .ok (.ifCond .eq 22, 3) := by decide +kernel
theorem dX5_takeBack_18 : decode cX5_takeBack 18 = .ok (.aload_n 0, 1) := by decide +kernel
theorem dX5_takeBack_19 : decode cX5_takeBack 19 = .ok (.getfield 36, 3) := by decide +kernel
theorem dX5_takeBack_22 : decode cX5_takeBack 22 = .ok (.iload_n 2, 1) := by decide +kernel
theorem dX5_takeBack_23 : decode cX5_takeBack 23 = .ok (.invokevirtual 290, 3) := by decide +kernel
theorem dX5_takeBack_26 : decode cX5_takeBack 26 = .ok (.aload_n 0, 1) := by decide +kernel
theorem dX5_takeBack_27 : decode cX5_takeBack 27 = .ok (.getfield 25, 3) := by decide +kernel
theorem dX5_takeBack_30 : decode cX5_takeBack 30 = .ok (.iload_n 2, 1) := by decide +kernel
theorem dX5_takeBack_31 : decode cX5_takeBack 31 = .ok (.aaload, 1) := by decide +kernel
theorem dX5_takeBack_32 : decode cX5_takeBack 32 = .ok (.bipush 118, 2) := by decide +kernel
theorem dX5_takeBack_34 : decode cX5_takeBack 34 = .ok (.putfield 113, 3) := by decide +kernel
theorem dX5_takeBack_37 : decode cX5_takeBack 37 = .ok (.iinc 2 1, 3) := by decide +kernel
theorem dX5_takeBack_40 : decode cX5_takeBack 40 = .ok (.goto (-38), 3) := by decide +kernel
theorem dX5_takeBack_43 : decode cX5_takeBack 43 = .ok (.return_, 1) := by decide +kernel
end
section
theorem dX6_thrown_0 : decode cX6_thrown 0 = .ok (.aload_n 0, 1) := by decide +kernel
theorem dX6_thrown_1 : decode cX6_thrown 1 = .ok (.getfield 1, 3) := by decide +kernel
theorem dX6_thrown_4 : decode cX6_thrown 4 = .ok (.ireturn, 1) := by decide +kernel
theorem dX6_fails_0 : decode cX6_fails 0 = .ok (.aload_n 0, 1) := by decide +kernel
theorem dX6_fails_1 : decode cX6_fails 1 = .ok (.iload_n 1, 1) := by decide +kernel
theorem dX6_fails_2 : decode cX6_fails 2 = .ok (.putfield 1, 3) := by decide +kernel
theorem dX6_fails_5 : decode cX6_fails 5 = .ok (.iconst 0, 1) := by decide +kernel
theorem dX6_fails_6 : decode cX6_fails 6 = .ok (.ireturn, 1) := by decide +kernel
theorem dX6_isWrong_0 : decode cX6_isWrong 0 = .ok (.aload_n 0, 1) := by decide +kernel
theorem dX6_isWrong_1 : decode cX6_isWrong 1 = .ok (.iload_n 1, 1) := by decide +kernel
theorem dX6_isWrong_2 : decode cX6_isWrong 2 = .ok (.putfield 1, 3) := by decide +kernel
theorem dX6_isWrong_5 : decode cX6_isWrong 5 = .ok (.iconst 0, 1) := by decide +kernel
theorem dX6_isWrong_6 : decode cX6_isWrong 6 = .ok (.ireturn, 1) := by decide +kernel
theorem dX6_isBetween_0 : decode cX6_isBetween 0 = .ok (.iload_n 1, 1) := by decide +kernel
theorem dX6_isBetween_1 : decode cX6_isBetween 1 = .ok (.iload_n 0, 1) := by decide +kernel
theorem dX6_isBetween_2 : decode cX6_isBetween 2 = .ok (.if_icmp .gt 12, 3) := by decide +kernel
theorem dX6_isBetween_5 : decode cX6_isBetween 5 = .ok (.iload_n 0, 1) := by decide +kernel
theorem dX6_isBetween_6 : decode cX6_isBetween 6 = .ok (.iload_n 2, 1) := by decide +kernel
theorem dX6_isBetween_7 : decode cX6_isBetween 7 = .ok (.if_icmp .gt 7, 3) := by decide +kernel
theorem dX6_isBetween_10 : decode cX6_isBetween 10 = .ok (.iconst 1, 1) := by decide +kernel
theorem dX6_isBetween_11 : decode cX6_isBetween 11 = .ok (.goto 4, 3) := by decide +kernel
theorem dX6_isBetween_14 : decode cX6_isBetween 14 = .ok (.iconst 0, 1) := by decide +kernel
theorem dX6_isBetween_15 : decode cX6_isBetween 15 = .ok (.ireturn, 1) := by decide +kernel
theorem dX6_isPerson_0 : decode cX6_isPerson 0 = .ok (.iload_n 0, 1) := by decide +kernel
theorem dX6_isPerson_1 : decode cX6_isPerson 1 = .ok (.iconst 0, 1) := by decide +kernel
theorem dX6_isPerson_2 : decode cX6_isPerson 2 = .ok (.iconst 5, 1) := by decide +kernel
theorem dX6_isPerson_3 : decode cX6_isPerson 3 = .ok (.invokestatic 7, 3) := by decide +kernel
theorem dX6_isPerson_6 : decode cX6_isPerson 6 = .ok (.ireturn, 1) := by decide +kernel
theorem dX6_isDirectory_0 : decode cX6_isDirectory 0 = .ok (.iload_n 0, 1) := by decide +kernel
theorem dX6_isDirectory_1 : decode cX6_isDirectory 1 = .ok (.iconst 0, 1) := by decide +kernel
theorem dX6_isDirectory_2 : decode cX6_isDirectory 2 = .ok (.iconst 3, 1) := by decide +kernel
theorem dX6_isDirectory_3 : decode cX6_isDirectory 3 = .ok (.invokestatic 7, 3) := by decide +kernel
theorem dX6_isDirectory_6 : decode cX6_isDirectory 6 = .ok (.ireturn, 1) := by decide +kernel
theorem dX6_isSpan_0 : decode cX6_isSpan 0 = .ok (.iload_n 0, 1) := by decide +kernel
theorem dX6_isSpan_1 : decode cX6_isSpan 1 = .ok (.iconst 0, 1) := by decide +kernel
theorem dX6_isSpan_2 : decode cX6_isSpan 2 = .ok (.bipush 15, 2) := by decide +kernel
theorem dX6_isSpan_4 : decode cX6_isSpan 4 = .ok (.invokestatic 7, 3) := by decide +kernel
theorem dX6_isSpan_7 : decode cX6_isSpan 7 = .ok (.ifCond .eq 16, 3) := by decide +kernel
theorem dX6_isSpan_10 : decode cX6_isSpan 10 = .ok (.iload_n 1, 1) := by decide +kernel
theorem dX6_isSpan_11 : decode cX6_isSpan 11 = .ok (.iconst 0, 1) := by decide +kernel
theorem dX6_isSpan_12 : decode cX6_isSpan 12 = .ok (.iconst 3, 1) := by decide +kernel
theorem dX6_isSpan_13 : decode cX6_isSpan 13 = .ok (.invokestatic 7, 3) := by decide +kernel
theorem dX6_isSpan_16 : decode cX6_isSpan 16 = .ok (.ifCond .eq 7, 3) := by decide +kernel
theorem dX6_isSpan_19 : decode cX6_isSpan 19 = .ok (.iconst 1, 1) := by decide +kernel
theorem dX6_isSpan_20 : decode cX6_isSpan 20 = .ok (.goto 4, 3) := by decide +kernel
theorem dX6_isSpan_23 : decode cX6_isSpan 23 = .ok (.iconst 0, 1) := by decide +kernel
theorem dX6_isSpan_24 : decode cX6_isSpan 24 = .ok (.ireturn, 1) := by decide +kernel
theorem dX6_init_0 : decode cX6_init 0 = .ok (.aload_n 0, 1) := by decide +kernel
theorem dX6_init_1 : decode cX6_init 1 = .ok (.invokespecial 11, 3) := by decide +kernel
theorem dX6_init_4 : decode cX6_init 4 = .ok (.aload_n 0, 1) := by decide +kernel
theorem dX6_init_5 : decode cX6_init 5 = .ok (.bipush 64, 2) := by decide +kernel
theorem dX6_init_7 : decode cX6_init 7 = .ok (.newarray .int, 2) := by decide +kernel
theorem dX6_init_9 : decode cX6_init 9 = .ok (.putfield 17, 3) := by decide +kernel
theorem dX6_init_12 : decode cX6_init 12 = .ok (.aload_n 0, 1) := by decide +kernel
theorem dX6_init_13 : decode cX6_init 13 = .ok (.bipush 12, 2) := by decide +kernel
theorem dX6_init_15 : decode cX6_init 15 = .ok (.newarray .int, 2) := by decide +kernel
theorem dX6_init_17 : decode cX6_init 17 = .ok (.putfield 21, 3) := by decide +kernel
theorem dX6_init_20 : decode cX6_init 20 = .ok (.aload_n 0, 1) := by decide +kernel
theorem dX6_init_21 : decode cX6_init 21 = .ok (.bipush 12, 2) := by decide +kernel
theorem dX6_init_23 : decode cX6_init 23 = .ok (.newarray .int, 2) := by decide +kernel
theorem dX6_init_25 : decode cX6_init 25 = .ok (.putfield 24, 3) := by decide +kernel
theorem dX6_init_28 : decode cX6_init 28 = .ok (.aload_n 0, 1) := by decide +kernel
theorem dX6_init_29 : decode cX6_init 29 = .ok (.bipush 12, 2) := by decide +kernel
theorem dX6_init_31 : decode cX6_init 31 = .ok (.newarray .int, 2) := by decide +kernel
theorem dX6_init_33 : decode cX6_init 33 = .ok (.putfield 27, 3) := by decide +kernel
theorem dX6_init_36 : decode cX6_init 36 = .ok (.aload_n 0, 1) := by decide +kernel
theorem dX6_init_37 : decode cX6_init 37 = .ok (.bipush 12, 2) := by decide +kernel
theorem dX6_init_39 : decode cX6_init 39 = .ok (.newarray .boolean, 2) := by decide +kernel
theorem dX6_init_41 : decode cX6_init 41 = .ok (.putfield 30, 3) := by decide +kernel
theorem dX6_init_44 : decode cX6_init 44 = .ok (.aload_n 0, 1) := by decide +kernel
theorem dX6_init_45 : decode cX6_init 45 = .ok (.iconst 4, 1) := by decide +kernel
theorem dX6_init_46 : decode cX6_init 46 = .ok (.newarray .int, 2) := by decide +kernel
theorem dX6_init_48 : decode cX6_init 48 = .ok (.putfield 34, 3) := by decide +kernel
theorem dX6_init_51 : decode cX6_init 51 = .ok (.aload_n 0, 1) := by decide +kernel
theorem dX6_init_52 : decode cX6_init 52 = .ok (.iconst 4, 1) := by decide +kernel
theorem dX6_init_53 : decode cX6_init 53 = .ok (.newarray .int, 2) := by decide +kernel
theorem dX6_init_55 : decode cX6_init 55 = .ok (.putfield 37, 3) := by decide +kernel
theorem dX6_init_58 : decode cX6_init 58 = .ok (.aload_n 0, 1) := by decide +kernel
theorem dX6_init_59 : decode cX6_init 59 = .ok (.iconst 4, 1) := by decide +kernel
theorem dX6_init_60 : decode cX6_init 60 = .ok (.newarray .boolean, 2) := by decide +kernel
theorem dX6_init_62 : decode cX6_init 62 = .ok (.putfield 40, 3) := by decide +kernel
theorem dX6_init_65 : decode cX6_init 65 = .ok (.aload_n 0, 1) := by decide +kernel
theorem dX6_init_66 : decode cX6_init 66 = .ok (.bipush 6, 2) := by decide +kernel
theorem dX6_init_68 : decode cX6_init 68 = .ok (.newarray .boolean, 2) := by decide +kernel
theorem dX6_init_70 : decode cX6_init 70 = .ok (.putfield 43, 3) := by decide +kernel
theorem dX6_init_73 : decode cX6_init 73 = .ok (.aload_n 0, 1) := by decide +kernel
theorem dX6_init_74 : decode cX6_init 74 = .ok (.bipush 16, 2) := by decide +kernel
theorem dX6_init_76 : decode cX6_init 76 = .ok (.bipush 64, 2) := by decide +kernel
theorem dX6_init_78 : decode cX6_init 78 = .ok (.multianewarray 46 2, 4) := by decide +kernel
theorem dX6_init_82 : decode cX6_init 82 = .ok (.putfield 48, 3) := by decide +kernel
theorem dX6_init_85 : decode cX6_init 85 = .ok (.aload_n 0, 1) := by decide +kernel
theorem dX6_init_86 : decode cX6_init 86 = .ok (.bipush 16, 2) := by decide +kernel
theorem dX6_init_88 : decode cX6_init 88 = .ok (.bipush 64, 2) := by decide +kernel
theorem dX6_init_90 : decode cX6_init 90 = .ok (.multianewarray 51 2, 4) := by decide +kernel
theorem dX6_init_94 : decode cX6_init 94 = .ok (.putfield 53, 3) := by decide +kernel
theorem dX6_init_97 : decode cX6_init 97 = .ok (.aload_n 0, 1) := by decide +kernel
theorem dX6_init_98 : decode cX6_init 98 = .ok (.bipush 16, 2) := by decide +kernel
theorem dX6_init_100 : decode cX6_init 100 = .ok (.bipush 6, 2) := by decide +kernel
theorem dX6_init_102 : decode cX6_init 102 = .ok (.multianewarray 56 2, 4) := by decide +kernel
theorem dX6_init_106 : decode cX6_init 106 = .ok (.putfield 58, 3) := by decide +kernel
theorem dX6_init_109 : decode cX6_init 109 = .ok (.aload_n 0, 1) := by decide +kernel
theorem dX6_init_110 : decode cX6_init 110 = .ok (.bipush 16, 2) := by decide +kernel
theorem dX6_init_112 : decode cX6_init 112 = .ok (.bipush 6, 2) := by decide +kernel
theorem dX6_init_114 : decode cX6_init 114 = .ok (.bipush 64, 2) := by decide +kernel
theorem dX6_init_116 : decode cX6_init 116 = .ok (.multianewarray 61 3, 4) := by decide +kernel
theorem dX6_init_120 : decode cX6_init 120 = .ok (.putfield 63, 3) := by decide +kernel
theorem dX6_init_123 : decode cX6_init 123 = .ok (.aload_n 0, 1) := by decide +kernel
theorem dX6_init_124 : decode cX6_init 124 = .ok (.bipush 16, 2) := by decide +kernel
theorem dX6_init_126 : decode cX6_init 126 = .ok (.newarray .int, 2) := by decide +kernel
theorem dX6_init_128 : decode cX6_init 128 = .ok (.putfield 66, 3) := by decide +kernel
theorem dX6_init_131 : decode cX6_init 131 = .ok (.aload_n 0, 1) := by decide +kernel
theorem dX6_init_132 : decode cX6_init 132 = .ok (.bipush 16, 2) := by decide +kernel
theorem dX6_init_134 : decode cX6_init 134 = .ok (.newarray .int, 2) := by decide +kernel
theorem dX6_init_136 : decode cX6_init 136 = .ok (.putfield 69, 3) := by decide +kernel
theorem dX6_init_139 : decode cX6_init 139 = .ok (.aload_n 0, 1) := by decide +kernel
theorem dX6_init_140 : decode cX6_init 140 = .ok (.bipush 16, 2) := by decide +kernel
theorem dX6_init_142 : decode cX6_init 142 = .ok (.newarray .int, 2) := by decide +kernel
theorem dX6_init_144 : decode cX6_init 144 = .ok (.putfield 72, 3) := by decide +kernel
theorem dX6_init_147 : decode cX6_init 147 = .ok (.aload_n 0, 1) := by decide +kernel
theorem dX6_init_148 : decode cX6_init 148 = .ok (.bipush 16, 2) := by decide +kernel
theorem dX6_init_150 : decode cX6_init 150 = .ok (.newarray .char, 2) := by decide +kernel
theorem dX6_init_152 : decode cX6_init 152 = .ok (.putfield 75, 3) := by decide +kernel
theorem dX6_init_155 : decode cX6_init 155 = .ok (.aload_n 0, 1) := by decide +kernel
theorem dX6_init_156 : decode cX6_init 156 = .ok (.bipush 16, 2) := by decide +kernel
theorem dX6_init_158 : decode cX6_init 158 = .ok (.newarray .boolean, 2) := by decide +kernel
theorem dX6_init_160 : decode cX6_init 160 = .ok (.putfield 79, 3) := by decide +kernel
theorem dX6_init_163 : decode cX6_init 163 = .ok (.aload_n 0, 1) := by decide +kernel
theorem dX6_init_164 : decode cX6_init 164 = .ok (.new 82, 3) := by decide +kernel
theorem dX6_init_167 : decode cX6_init 167 = .ok (.dup, 1) := by decide +kernel
theorem dX6_init_168 : decode cX6_init 168 = .ok (.invokespecial 84, 3) := by decide +kernel
theorem dX6_init_171 : decode cX6_init 171 = .ok (.putfield 85, 3) := by decide +kernel
theorem dX6_init_174 : decode cX6_init 174 = .ok (.iconst 0, 1) := by decide +kernel
theorem dX6_init_175 : decode cX6_init 175 = .ok (.istore_n 1, 1) := by decide +kernel
theorem dX6_init_176 : decode cX6_init 176 = .ok (.iload_n 1, 1) := by decide +kernel
theorem dX6_init_177 : decode cX6_init 177 = .ok (.iconst 4, 1) := by decide +kernel
theorem dX6_init_178 : decode cX6_init 178 = .ok (.if_icmp .ge 16, 3) := by decide +kernel
theorem dX6_init_181 : decode cX6_init 181 = .ok (.aload_n 0, 1) := by decide +kernel
theorem dX6_init_182 : decode cX6_init 182 = .ok (.getfield 37, 3) := by decide +kernel
theorem dX6_init_185 : decode cX6_init 185 = .ok (.iload_n 1, 1) := by decide +kernel
theorem dX6_init_186 : decode cX6_init 186 = .ok (.iconst 1, 1) := by decide +kernel
theorem dX6_init_187 : decode cX6_init 187 = .ok (.iastore, 1) := by decide +kernel
theorem dX6_init_188 : decode cX6_init 188 = .ok (.iinc 1 1, 3) := by decide +kernel
theorem dX6_init_191 : decode cX6_init 191 = .ok (.goto (-15), 3) := by decide +kernel
theorem dX6_init_194 : decode cX6_init 194 = .ok (.return_, 1) := by decide +kernel
theorem dX6_isChange_0 : decode cX6_isChange 0 = .ok (.iload_n 1, 1) := by decide +kernel
theorem dX6_isChange_1 : decode cX6_isChange 1 = .ok (.iconst 0, 1) := by decide +kernel
theorem dX6_isChange_2 : decode cX6_isChange 2 = .ok (.aload_n 0, 1) := by decide +kernel
theorem dX6_isChange_3 : decode cX6_isChange 3 = .ok (.getfield 89, 3) := by decide +kernel
theorem dX6_isChange_6 : decode cX6_isChange 6 = .ok (.iconst 1, 1) := by decide +kernel
theorem dX6_isChange_7 : decode cX6_isChange 7 = .ok (.isub, 1) := by decide +kernel
theorem dX6_isChange_8 : decode cX6_isChange 8 = .ok (.invokestatic 7, 3) := by decide +kernel
theorem dX6_isChange_11 : decode cX6_isChange 11 = .ok (.ireturn, 1) := by decide +kernel
theorem dX6_directoryOf_0 : decode cX6_directoryOf 0 = .ok (.iload_n 0, 1) := by decide +kernel
theorem dX6_directoryOf_1 : decode cX6_directoryOf 1 = .ok (.bipush 16, 2) := by decide +kernel
theorem dX6_directoryOf_3 : decode cX6_directoryOf 3 = .ok (.idiv, 1) := by decide +kernel
theorem dX6_directoryOf_4 : decode cX6_directoryOf 4 = .ok (.ireturn, 1) := by decide +kernel
theorem dX6_setOwner_0 : decode cX6_setOwner 0 = .ok (.aload_n 0, 1) := by decide +kernel
theorem dX6_setOwner_1 : decode cX6_setOwner 1 = .ok (.iconst 0, 1) := by decide +kernel
theorem dX6_setOwner_2 : decode cX6_setOwner 2 = .ok (.putfield 1, 3) := by decide +kernel
theorem dX6_setOwner_5 : decode cX6_setOwner 5 = .ok (.iload_n 1, 1) := by decide +kernel
theorem dX6_setOwner_6 : decode cX6_setOwner 6 = .ok (.invokestatic 92, 3) := by decide +kernel
theorem dX6_setOwner_9 : decode cX6_setOwner 9 = .ok (.ifCond .ne 9, 3) := by decide +kernel
theorem dX6_setOwner_12 : decode cX6_setOwner 12 = .ok (.aload_n 0, 1) := by decide +kernel
theorem dX6_setOwner_13 : decode cX6_setOwner 13 = .ok (.iconst 1, 1) := by decide +kernel
theorem dX6_setOwner_14 : decode cX6_setOwner 14 = .ok (.invokevirtual 96, 3) := by decide +kernel
theorem dX6_setOwner_17 : decode cX6_setOwner 17 = .ok (.ireturn, 1) := by decide +kernel
theorem dX6_setOwner_18 : decode cX6_setOwner 18 = .ok (.iload_n 2, 1) := by decide +kernel
theorem dX6_setOwner_19 : decode cX6_setOwner 19 = .ok (.invokestatic 100, 3) := by decide +kernel
theorem dX6_setOwner_22 : decode cX6_setOwner 22 = .ok (.ifCond .eq 15, 3) := by decide +kernel
theorem dX6_setOwner_25 : decode cX6_setOwner 25 = .ok (.iload_n 3, 1) := by decide +kernel
theorem dX6_setOwner_26 : decode cX6_setOwner 26 = .ok (.invokestatic 100, 3) := by decide +kernel
theorem dX6_setOwner_29 : decode cX6_setOwner 29 = .ok (.ifCond .eq 8, 3) := by decide +kernel
theorem dX6_setOwner_32 : decode cX6_setOwner 32 = .ok (.iload_n 2, 1) := by decide +kernel
theorem dX6_setOwner_33 : decode cX6_setOwner 33 = .ok (.iload_n 3, 1) := by decide +kernel
theorem dX6_setOwner_34 : decode cX6_setOwner 34 = .ok (.if_icmp .ne 9, 3) := by decide +kernel
theorem dX6_setOwner_37 : decode cX6_setOwner 37 = .ok (.aload_n 0, 1) := by decide +kernel
theorem dX6_setOwner_38 : decode cX6_setOwner 38 = .ok (.iconst 2, 1) := by decide +kernel
theorem dX6_setOwner_39 : decode cX6_setOwner 39 = .ok (.invokevirtual 96, 3) := by decide +kernel
theorem dX6_setOwner_42 : decode cX6_setOwner 42 = .ok (.ireturn, 1) := by decide +kernel
theorem dX6_setOwner_43 : decode cX6_setOwner 43 = .ok (.aload_n 0, 1) := by decide +kernel
theorem dX6_setOwner_44 : decode cX6_setOwner 44 = .ok (.getfield 34, 3) := by decide +kernel
theorem dX6_setOwner_47 : decode cX6_setOwner 47 = .ok (.iload_n 1, 1) := by decide +kernel
theorem dX6_setOwner_48 : decode cX6_setOwner 48 = .ok (.iaload, 1) := by decide +kernel
theorem dX6_setOwner_49 : decode cX6_setOwner 49 = .ok (.istore 4, 2) := by decide +kernel
theorem dX6_setOwner_51 : decode cX6_setOwner 51 = .ok (.aload_n 0, 1) := by decide +kernel
theorem dX6_setOwner_52 : decode cX6_setOwner 52 = .ok (.getfield 34, 3) := by decide +kernel
theorem dX6_setOwner_55 : decode cX6_setOwner 55 = .ok (.iload_n 1, 1) := by decide +kernel
theorem dX6_setOwner_56 : decode cX6_setOwner 56 = .ok (.iload_n 2, 1) := by decide +kernel
theorem dX6_setOwner_57 : decode cX6_setOwner 57 = .ok (.iastore, 1) := by decide +kernel
theorem dX6_setOwner_58 : decode cX6_setOwner 58 = .ok (.aload_n 0, 1) := by decide +kernel
theorem dX6_setOwner_59 : decode cX6_setOwner 59 = .ok (.getfield 37, 3) := by decide +kernel
theorem dX6_setOwner_62 : decode cX6_setOwner 62 = .ok (.iload_n 1, 1) := by decide +kernel
theorem dX6_setOwner_63 : decode cX6_setOwner 63 = .ok (.iload_n 3, 1) := by decide +kernel
theorem dX6_setOwner_64 : decode cX6_setOwner 64 = .ok (.iastore, 1) := by decide +kernel
theorem dX6_setOwner_65 : decode cX6_setOwner 65 = .ok (.iload 4, 2) := by decide +kernel
theorem dX6_setOwner_67 : decode cX6_setOwner 67 = .ok (.ireturn, 1) := by decide +kernel
theorem dX6_setAway_0 : decode cX6_setAway 0 = .ok (.aload_n 0, 1) := by decide +kernel
theorem dX6_setAway_1 : decode cX6_setAway 1 = .ok (.iconst 0, 1) := by decide +kernel
theorem dX6_setAway_2 : decode cX6_setAway 2 = .ok (.putfield 1, 3) := by decide +kernel
theorem dX6_setAway_5 : decode cX6_setAway 5 = .ok (.iload_n 1, 1) := by decide +kernel
theorem dX6_setAway_6 : decode cX6_setAway 6 = .ok (.invokestatic 100, 3) := by decide +kernel
theorem dX6_setAway_9 : decode cX6_setAway 9 = .ok (.ifCond .ne 9, 3) := by decide +kernel
theorem dX6_setAway_12 : decode cX6_setAway 12 = .ok (.aload_n 0, 1) := by decide +kernel
theorem dX6_setAway_13 : decode cX6_setAway 13 = .ok (.iconst 1, 1) := by decide +kernel
theorem dX6_setAway_14 : decode cX6_setAway 14 = .ok (.invokevirtual 103, 3) := by decide +kernel
theorem dX6_setAway_17 : decode cX6_setAway 17 = .ok (.ireturn, 1) := by decide +kernel
theorem dX6_setAway_18 : decode cX6_setAway 18 = .ok (.aload_n 0, 1) := by decide +kernel
theorem dX6_setAway_19 : decode cX6_setAway 19 = .ok (.getfield 43, 3) := by decide +kernel
theorem dX6_setAway_22 : decode cX6_setAway 22 = .ok (.iload_n 1, 1) := by decide +kernel
theorem dX6_setAway_23 : decode cX6_setAway 23 = .ok (.baload, 1) := by decide +kernel
theorem dX6_setAway_24 : decode cX6_setAway 24 = .ok (.istore_n 3, 1) := by decide +kernel
theorem dX6_setAway_25 : decode cX6_setAway 25 = .ok (.aload_n 0, 1) := by decide +kernel
theorem dX6_setAway_26 : decode cX6_setAway 26 = .ok (.getfield 43, 3) := by decide +kernel
theorem dX6_setAway_29 : decode cX6_setAway 29 = .ok (.iload_n 1, 1) := by decide +kernel
theorem dX6_setAway_30 : decode cX6_setAway 30 = .ok (.iload_n 2, 1) := by decide +kernel
theorem dX6_setAway_31 : decode cX6_setAway 31 = .ok (.bastore, 1) := by decide +kernel
theorem dX6_setAway_32 : decode cX6_setAway 32 = .ok (.iload_n 3, 1) := by decide +kernel
theorem dX6_setAway_33 : decode cX6_setAway 33 = .ok (.ireturn, 1) := by decide +kernel
theorem dX6_open_0 : decode cX6_open 0 = .ok (.aload_n 0, 1) := by decide +kernel
theorem dX6_open_1 : decode cX6_open 1 = .ok (.iconst 0, 1) := by decide +kernel
theorem dX6_open_2 : decode cX6_open 2 = .ok (.putfield 1, 3) := by decide +kernel
theorem dX6_open_5 : decode cX6_open 5 = .ok (.iload_n 1, 1) := by decide +kernel
theorem dX6_open_6 : decode cX6_open 6 = .ok (.invokestatic 100, 3) := by decide +kernel
theorem dX6_open_9 : decode cX6_open 9 = .ok (.ifCond .ne 9, 3) := by decide +kernel
theorem dX6_open_12 : decode cX6_open 12 = .ok (.aload_n 0, 1) := by decide +kernel
theorem dX6_open_13 : decode cX6_open 13 = .ok (.iconst 1, 1) := by decide +kernel
theorem dX6_open_14 : decode cX6_open 14 = .ok (.invokevirtual 96, 3) := by decide +kernel
theorem dX6_open_17 : decode cX6_open 17 = .ok (.ireturn, 1) := by decide +kernel
theorem dX6_open_18 : decode cX6_open 18 = .ok (.aload_n 0, 1) := by decide +kernel
theorem dX6_open_19 : decode cX6_open 19 = .ok (.getfield 89, 3) := by decide +kernel
theorem dX6_open_22 : decode cX6_open 22 = .ok (.bipush 16, 2) := by decide +kernel
theorem dX6_open_24 : decode cX6_open 24 = .ok (.if_icmp .ne 9, 3) := by decide +kernel
theorem dX6_open_27 : decode cX6_open 27 = .ok (.aload_n 0, 1) := by decide +kernel
theorem dX6_open_28 : decode cX6_open 28 = .ok (.iconst 2, 1) := by decide +kernel
theorem dX6_open_29 : decode cX6_open 29 = .ok (.invokevirtual 96, 3) := by decide +kernel
theorem dX6_open_32 : decode cX6_open 32 = .ok (.ireturn, 1) := by decide +kernel
theorem dX6_open_33 : decode cX6_open 33 = .ok (.aload_n 0, 1) := by decide +kernel
theorem dX6_open_34 : decode cX6_open 34 = .ok (.getfield 66, 3) := by decide +kernel
theorem dX6_open_37 : decode cX6_open 37 = .ok (.aload_n 0, 1) := by decide +kernel
theorem dX6_open_38 : decode cX6_open 38 = .ok (.getfield 89, 3) := by decide +kernel
theorem dX6_open_41 : decode cX6_open 41 = .ok (.iload_n 1, 1) := by decide +kernel
theorem dX6_open_42 : decode cX6_open 42 = .ok (.iastore, 1) := by decide +kernel
theorem dX6_open_43 : decode cX6_open 43 = .ok (.aload_n 0, 1) := by decide +kernel
theorem dX6_open_44 : decode cX6_open 44 = .ok (.getfield 75, 3) := by decide +kernel
theorem dX6_open_47 : decode cX6_open 47 = .ok (.aload_n 0, 1) := by decide +kernel
theorem dX6_open_48 : decode cX6_open 48 = .ok (.getfield 89, 3) := by decide +kernel
theorem dX6_open_51 : decode cX6_open 51 = .ok (.bipush 111, 2) := by decide +kernel
theorem dX6_open_53 : decode cX6_open 53 = .ok (.castore, 1) := by decide +kernel
theorem dX6_open_54 : decode cX6_open 54 = .ok (.iconst 0, 1) := by decide +kernel
theorem dX6_open_55 : decode cX6_open 55 = .ok (.istore_n 2, 1) := by decide +kernel
theorem dX6_open_56 : decode cX6_open 56 = .ok (.iload_n 2, 1) := by decide +kernel
theorem dX6_open_57 : decode cX6_open 57 = .ok (.bipush 64, 2) := by decide +kernel
theorem dX6_open_59 : decode cX6_open 59 = .ok (.if_icmp .ge 21, 3) := by decide +kernel
theorem dX6_open_62 : decode cX6_open 62 = .ok (.aload_n 0, 1) := by decide +kernel
theorem dX6_open_63 : decode cX6_open 63 = .ok (.getfield 48, 3) := by decide +kernel
theorem dX6_open_66 : decode cX6_open 66 = .ok (.aload_n 0, 1) := by decide +kernel
theorem dX6_open_67 : decode cX6_open 67 = .ok (.getfield 89, 3) := by decide +kernel
theorem dX6_open_70 : decode cX6_open 70 = .ok (.aaload, 1) := by decide +kernel
theorem dX6_open_71 : decode cX6_open 71 = .ok (.iload_n 2, 1) := by decide +kernel
theorem dX6_open_72 : decode cX6_open 72 = .ok (.iconst (-1), 1) := by decide +kernel
theorem dX6_open_73 : decode cX6_open 73 = .ok (.iastore, 1) := by decide +kernel
theorem dX6_open_74 : decode cX6_open 74 = .ok (.iinc 2 1, 3) := by decide +kernel
theorem dX6_open_77 : decode cX6_open 77 = .ok (.goto (-21), 3) := by decide +kernel
theorem dX6_open_80 : decode cX6_open 80 = .ok (.iconst 0, 1) := by decide +kernel
theorem dX6_open_81 : decode cX6_open 81 = .ok (.istore_n 2, 1) := by decide +kernel
theorem dX6_open_82 : decode cX6_open 82 = .ok (.iload_n 2, 1) := by decide +kernel
theorem dX6_open_83 : decode cX6_open 83 = .ok (.bipush 6, 2) := by decide +kernel
theorem dX6_open_85 : decode cX6_open 85 = .ok (.if_icmp .ge 22, 3) := by decide +kernel
theorem dX6_open_88 : decode cX6_open 88 = .ok (.aload_n 0, 1) := by decide +kernel
theorem dX6_open_89 : decode cX6_open 89 = .ok (.getfield 58, 3) := by decide +kernel
theorem dX6_open_92 : decode cX6_open 92 = .ok (.aload_n 0, 1) := by decide +kernel
theorem dX6_open_93 : decode cX6_open 93 = .ok (.getfield 89, 3) := by decide +kernel
theorem dX6_open_96 : decode cX6_open 96 = .ok (.aaload, 1) := by decide +kernel
theorem dX6_open_97 : decode cX6_open 97 = .ok (.iload_n 2, 1) := by decide +kernel
theorem dX6_open_98 : decode cX6_open 98 = .ok (.bipush 45, 2) := by decide +kernel
theorem dX6_open_100 : decode cX6_open 100 = .ok (.castore, 1) := by decide +kernel
theorem dX6_open_101 : decode cX6_open 101 = .ok (.iinc 2 1, 3) := by decide +kernel
theorem dX6_open_104 : decode cX6_open 104 = .ok (.goto (-22), 3) := by decide +kernel
theorem dX6_open_107 : decode cX6_open 107 = .ok (.aload_n 0, 1) := by decide +kernel
theorem dX6_open_108 : decode cX6_open 108 = .ok (.dup, 1) := by decide +kernel
theorem dX6_open_109 : decode cX6_open 109 = .ok (.getfield 89, 3) := by decide +kernel
theorem dX6_open_112 : decode cX6_open 112 = .ok (.iconst 1, 1) := by decide +kernel
theorem dX6_open_113 : decode cX6_open 113 = .ok (.iadd, 1) := by decide +kernel
theorem dX6_open_114 : decode cX6_open 114 = .ok (.putfield 89, 3) := by decide +kernel
theorem dX6_open_117 : decode cX6_open 117 = .ok (.aload_n 0, 1) := by decide +kernel
theorem dX6_open_118 : decode cX6_open 118 = .ok (.getfield 89, 3) := by decide +kernel
theorem dX6_open_121 : decode cX6_open 121 = .ok (.iconst 1, 1) := by decide +kernel
theorem dX6_open_122 : decode cX6_open 122 = .ok (.isub, 1) := by decide +kernel
theorem dX6_open_123 : decode cX6_open 123 = .ok (.ireturn, 1) := by decide +kernel
theorem dX6_editMany_0 : decode cX6_editMany 0 = .ok (.iconst 0, 1) := by decide +kernel
theorem dX6_editMany_1 : decode cX6_editMany 1 = .ok (.istore_n 2, 1) := by decide +kernel
theorem dX6_editMany_2 : decode cX6_editMany 2 = .ok (.iconst 0, 1) := by decide +kernel
theorem dX6_editMany_3 : decode cX6_editMany 3 = .ok (.istore_n 3, 1) := by decide +kernel
theorem dX6_editMany_4 : decode cX6_editMany 4 = .ok (.iload_n 3, 1) := by decide +kernel
theorem dX6_editMany_5 : decode cX6_editMany 5 = .ok (.bipush 64, 2) := by decide +kernel
theorem dX6_editMany_7 : decode cX6_editMany 7 = .ok (.if_icmp .ge 28, 3) := by decide +kernel
theorem dX6_editMany_10 : decode cX6_editMany 10 = .ok (.iload_n 2, 1) := by decide +kernel
theorem dX6_editMany_11 : decode cX6_editMany 11 = .ok (.aload_n 0, 1) := by decide +kernel
theorem dX6_editMany_12 : decode cX6_editMany 12 = .ok (.getfield 48, 3) := by decide +kernel
theorem dX6_editMany_15 : decode cX6_editMany 15 = .ok (.iload_n 1, 1) := by decide +kernel
theorem dX6_editMany_16 : decode cX6_editMany 16 = .ok (.aaload, 1) := by decide +kernel
theorem dX6_editMany_17 : decode cX6_editMany 17 = .ok (.iload_n 3, 1) := by decide +kernel
theorem dX6_editMany_18 : decode cX6_editMany 18 = .ok (.iaload, 1) := by decide +kernel
theorem dX6_editMany_19 : decode cX6_editMany 19 = .ok (.ifCond .ge 7, 3) := by decide +kernel
theorem dX6_editMany_22 : decode cX6_editMany 22 = .ok (.iconst 0, 1) := by decide +kernel
theorem dX6_editMany_23 : decode cX6_editMany 23 = .ok (.goto 4, 3) := by decide +kernel
theorem dX6_editMany_26 : decode cX6_editMany 26 = .ok (.iconst 1, 1) := by decide +kernel
theorem dX6_editMany_27 : decode cX6_editMany 27 = .ok (.iadd, 1) := by decide +kernel
theorem dX6_editMany_28 : decode cX6_editMany 28 = .ok (.istore_n 2, 1) := by decide +kernel
theorem dX6_editMany_29 : decode cX6_editMany 29 = .ok (.iinc 3 1, 3) := by decide +kernel
theorem dX6_editMany_32 : decode cX6_editMany 32 = .ok (.goto (-28), 3) := by decide +kernel
theorem dX6_editMany_35 : decode cX6_editMany 35 = .ok (.iload_n 2, 1) := by decide +kernel
theorem dX6_editMany_36 : decode cX6_editMany 36 = .ok (.ireturn, 1) := by decide +kernel
theorem dX6_edit_0 : decode cX6_edit 0 = .ok (.aload_n 0, 1) := by decide +kernel
theorem dX6_edit_1 : decode cX6_edit 1 = .ok (.iconst 0, 1) := by decide +kernel
theorem dX6_edit_2 : decode cX6_edit 2 = .ok (.putfield 1, 3) := by decide +kernel
theorem dX6_edit_5 : decode cX6_edit 5 = .ok (.aload_n 0, 1) := by decide +kernel
theorem dX6_edit_6 : decode cX6_edit 6 = .ok (.iload_n 1, 1) := by decide +kernel
theorem dX6_edit_7 : decode cX6_edit 7 = .ok (.invokevirtual 106, 3) := by decide +kernel
theorem dX6_edit_10 : decode cX6_edit 10 = .ok (.ifCond .ne 9, 3) := by decide +kernel
theorem dX6_edit_13 : decode cX6_edit 13 = .ok (.aload_n 0, 1) := by decide +kernel
theorem dX6_edit_14 : decode cX6_edit 14 = .ok (.iconst 1, 1) := by decide +kernel
theorem dX6_edit_15 : decode cX6_edit 15 = .ok (.invokevirtual 96, 3) := by decide +kernel
theorem dX6_edit_18 : decode cX6_edit 18 = .ok (.ireturn, 1) := by decide +kernel
theorem dX6_edit_19 : decode cX6_edit 19 = .ok (.iload_n 2, 1) := by decide +kernel
theorem dX6_edit_20 : decode cX6_edit 20 = .ok (.iload_n 3, 1) := by decide +kernel
theorem dX6_edit_21 : decode cX6_edit 21 = .ok (.invokestatic 109, 3) := by decide +kernel
theorem dX6_edit_24 : decode cX6_edit 24 = .ok (.ifCond .ne 9, 3) := by decide +kernel
theorem dX6_edit_27 : decode cX6_edit 27 = .ok (.aload_n 0, 1) := by decide +kernel
theorem dX6_edit_28 : decode cX6_edit 28 = .ok (.iconst 2, 1) := by decide +kernel
theorem dX6_edit_29 : decode cX6_edit 29 = .ok (.invokevirtual 96, 3) := by decide +kernel
theorem dX6_edit_32 : decode cX6_edit 32 = .ok (.ireturn, 1) := by decide +kernel
theorem dX6_edit_33 : decode cX6_edit 33 = .ok (.iload 4, 2) := by decide +kernel
theorem dX6_edit_35 : decode cX6_edit 35 = .ok (.iconst 0, 1) := by decide +kernel
theorem dX6_edit_36 : decode cX6_edit 36 = .ok (.bipush 99, 2) := by decide +kernel
theorem dX6_edit_38 : decode cX6_edit 38 = .ok (.invokestatic 7, 3) := by decide +kernel
theorem dX6_edit_41 : decode cX6_edit 41 = .ok (.ifCond .ne 9, 3) := by decide +kernel
theorem dX6_edit_44 : decode cX6_edit 44 = .ok (.aload_n 0, 1) := by decide +kernel
theorem dX6_edit_45 : decode cX6_edit 45 = .ok (.iconst 3, 1) := by decide +kernel
theorem dX6_edit_46 : decode cX6_edit 46 = .ok (.invokevirtual 96, 3) := by decide +kernel
theorem dX6_edit_49 : decode cX6_edit 49 = .ok (.ireturn, 1) := by decide +kernel
theorem dX6_edit_50 : decode cX6_edit 50 = .ok (.aload_n 0, 1) := by decide +kernel
theorem dX6_edit_51 : decode cX6_edit 51 = .ok (.getfield 75, 3) := by decide +kernel
theorem dX6_edit_54 : decode cX6_edit 54 = .ok (.iload_n 1, 1) := by decide +kernel
theorem dX6_edit_55 : decode cX6_edit 55 = .ok (.caload, 1) := by decide +kernel
theorem dX6_edit_56 : decode cX6_edit 56 = .ok (.bipush 111, 2) := by decide +kernel
theorem dX6_edit_58 : decode cX6_edit 58 = .ok (.if_icmp .eq 9, 3) := by decide +kernel
theorem dX6_edit_61 : decode cX6_edit 61 = .ok (.aload_n 0, 1) := by decide +kernel
theorem dX6_edit_62 : decode cX6_edit 62 = .ok (.iconst 4, 1) := by decide +kernel
theorem dX6_edit_63 : decode cX6_edit 63 = .ok (.invokevirtual 96, 3) := by decide +kernel
theorem dX6_edit_66 : decode cX6_edit 66 = .ok (.ireturn, 1) := by decide +kernel
theorem dX6_edit_67 : decode cX6_edit 67 = .ok (.aload_n 0, 1) := by decide +kernel
theorem dX6_edit_68 : decode cX6_edit 68 = .ok (.getfield 48, 3) := by decide +kernel
theorem dX6_edit_71 : decode cX6_edit 71 = .ok (.iload_n 1, 1) := by decide +kernel
theorem dX6_edit_72 : decode cX6_edit 72 = .ok (.aaload, 1) := by decide +kernel
theorem dX6_edit_73 : decode cX6_edit 73 = .ok (.iconst 4, 1) := by decide +kernel
theorem dX6_edit_74 : decode cX6_edit 74 = .ok (.iload_n 2, 1) := by decide +kernel
theorem dX6_edit_75 : decode cX6_edit 75 = .ok (.imul, 1) := by decide +kernel
theorem dX6_edit_76 : decode cX6_edit 76 = .ok (.iload_n 3, 1) := by decide +kernel
theorem dX6_edit_77 : decode cX6_edit 77 = .ok (.iadd, 1) := by decide +kernel
theorem dX6_edit_78 : decode cX6_edit 78 = .ok (.iload 4, 2) := by decide +kernel
theorem dX6_edit_80 : decode cX6_edit 80 = .ok (.iastore, 1) := by decide +kernel
theorem dX6_edit_81 : decode cX6_edit 81 = .ok (.aload_n 0, 1) := by decide +kernel
theorem dX6_edit_82 : decode cX6_edit 82 = .ok (.iload_n 1, 1) := by decide +kernel
theorem dX6_edit_83 : decode cX6_edit 83 = .ok (.invokevirtual 113, 3) := by decide +kernel
theorem dX6_edit_86 : decode cX6_edit 86 = .ok (.ireturn, 1) := by decide +kernel
theorem dX6_take_0 : decode cX6_take 0 = .ok (.aload_n 0, 1) := by decide +kernel
theorem dX6_take_1 : decode cX6_take 1 = .ok (.iconst 0, 1) := by decide +kernel
theorem dX6_take_2 : decode cX6_take 2 = .ok (.putfield 1, 3) := by decide +kernel
theorem dX6_take_5 : decode cX6_take 5 = .ok (.aload_n 0, 1) := by decide +kernel
theorem dX6_take_6 : decode cX6_take 6 = .ok (.iload_n 1, 1) := by decide +kernel
theorem dX6_take_7 : decode cX6_take 7 = .ok (.invokevirtual 106, 3) := by decide +kernel
theorem dX6_take_10 : decode cX6_take 10 = .ok (.ifCond .ne 9, 3) := by decide +kernel
theorem dX6_take_13 : decode cX6_take 13 = .ok (.aload_n 0, 1) := by decide +kernel
theorem dX6_take_14 : decode cX6_take 14 = .ok (.iconst 1, 1) := by decide +kernel
theorem dX6_take_15 : decode cX6_take 15 = .ok (.invokevirtual 96, 3) := by decide +kernel
theorem dX6_take_18 : decode cX6_take 18 = .ok (.ireturn, 1) := by decide +kernel
theorem dX6_take_19 : decode cX6_take 19 = .ok (.iload_n 2, 1) := by decide +kernel
theorem dX6_take_20 : decode cX6_take 20 = .ok (.iload_n 3, 1) := by decide +kernel
theorem dX6_take_21 : decode cX6_take 21 = .ok (.invokestatic 109, 3) := by decide +kernel
theorem dX6_take_24 : decode cX6_take 24 = .ok (.ifCond .ne 9, 3) := by decide +kernel
theorem dX6_take_27 : decode cX6_take 27 = .ok (.aload_n 0, 1) := by decide +kernel
theorem dX6_take_28 : decode cX6_take 28 = .ok (.iconst 2, 1) := by decide +kernel
theorem dX6_take_29 : decode cX6_take 29 = .ok (.invokevirtual 96, 3) := by decide +kernel
theorem dX6_take_32 : decode cX6_take 32 = .ok (.ireturn, 1) := by decide +kernel
theorem dX6_take_33 : decode cX6_take 33 = .ok (.aload_n 0, 1) := by decide +kernel
theorem dX6_take_34 : decode cX6_take 34 = .ok (.getfield 75, 3) := by decide +kernel
theorem dX6_take_37 : decode cX6_take 37 = .ok (.iload_n 1, 1) := by decide +kernel
theorem dX6_take_38 : decode cX6_take 38 = .ok (.caload, 1) := by decide +kernel
theorem dX6_take_39 : decode cX6_take 39 = .ok (.bipush 111, 2) := by decide +kernel
theorem dX6_take_41 : decode cX6_take 41 = .ok (.if_icmp .ne 18, 3) := by decide +kernel
theorem dX6_take_44 : decode cX6_take 44 = .ok (.aload_n 0, 1) := by decide +kernel
theorem dX6_take_45 : decode cX6_take 45 = .ok (.getfield 48, 3) := by decide +kernel
theorem dX6_take_48 : decode cX6_take 48 = .ok (.iload_n 1, 1) := by decide +kernel
theorem dX6_take_49 : decode cX6_take 49 = .ok (.aaload, 1) := by decide +kernel
theorem dX6_take_50 : decode cX6_take 50 = .ok (.iconst 4, 1) := by decide +kernel
theorem dX6_take_51 : decode cX6_take 51 = .ok (.iload_n 2, 1) := by decide +kernel
theorem dX6_take_52 : decode cX6_take 52 = .ok (.imul, 1) := by decide +kernel
theorem dX6_take_53 : decode cX6_take 53 = .ok (.iload_n 3, 1) := by decide +kernel
theorem dX6_take_54 : decode cX6_take 54 = .ok (.iadd, 1) := by decide +kernel
theorem dX6_take_55 : decode cX6_take 55 = .ok (.iaload, 1) := by decide +kernel
theorem dX6_take_56 : decode cX6_take 56 = .ok (.ifCond .ge 9, 3) := by decide +kernel
theorem dX6_take_59 : decode cX6_take 59 = .ok (.aload_n 0, 1) := by decide +kernel
theorem dX6_take_60 : decode cX6_take 60 = .ok (.iconst 3, 1) := by decide +kernel
theorem dX6_take_61 : decode cX6_take 61 = .ok (.invokevirtual 96, 3) := by decide +kernel
theorem dX6_take_64 : decode cX6_take 64 = .ok (.ireturn, 1) := by decide +kernel
theorem dX6_take_65 : decode cX6_take 65 = .ok (.aload_n 0, 1) := by decide +kernel
theorem dX6_take_66 : decode cX6_take 66 = .ok (.getfield 48, 3) := by decide +kernel
theorem dX6_take_69 : decode cX6_take 69 = .ok (.iload_n 1, 1) := by decide +kernel
theorem dX6_take_70 : decode cX6_take 70 = .ok (.aaload, 1) := by decide +kernel
theorem dX6_take_71 : decode cX6_take 71 = .ok (.iconst 4, 1) := by decide +kernel
theorem dX6_take_72 : decode cX6_take 72 = .ok (.iload_n 2, 1) := by decide +kernel
theorem dX6_take_73 : decode cX6_take 73 = .ok (.imul, 1) := by decide +kernel
theorem dX6_take_74 : decode cX6_take 74 = .ok (.iload_n 3, 1) := by decide +kernel
theorem dX6_take_75 : decode cX6_take 75 = .ok (.iadd, 1) := by decide +kernel
theorem dX6_take_76 : decode cX6_take 76 = .ok (.iconst (-1), 1) := by decide +kernel
theorem dX6_take_77 : decode cX6_take 77 = .ok (.iastore, 1) := by decide +kernel
theorem dX6_take_78 : decode cX6_take 78 = .ok (.aload_n 0, 1) := by decide +kernel
theorem dX6_take_79 : decode cX6_take 79 = .ok (.getfield 53, 3) := by decide +kernel
theorem dX6_take_82 : decode cX6_take 82 = .ok (.iload_n 1, 1) := by decide +kernel
theorem dX6_take_83 : decode cX6_take 83 = .ok (.aaload, 1) := by decide +kernel
theorem dX6_take_84 : decode cX6_take 84 = .ok (.iconst 4, 1) := by decide +kernel
theorem dX6_take_85 : decode cX6_take 85 = .ok (.iload_n 2, 1) := by decide +kernel
theorem dX6_take_86 : decode cX6_take 86 = .ok (.imul, 1) := by decide +kernel
theorem dX6_take_87 : decode cX6_take 87 = .ok (.iload_n 3, 1) := by decide +kernel
theorem dX6_take_88 : decode cX6_take 88 = .ok (.iadd, 1) := by decide +kernel
theorem dX6_take_89 : decode cX6_take 89 = .ok (.iconst 0, 1) := by decide +kernel
theorem dX6_take_90 : decode cX6_take 90 = .ok (.bastore, 1) := by decide +kernel
theorem dX6_take_91 : decode cX6_take 91 = .ok (.aload_n 0, 1) := by decide +kernel
theorem dX6_take_92 : decode cX6_take 92 = .ok (.iload_n 1, 1) := by decide +kernel
theorem dX6_take_93 : decode cX6_take 93 = .ok (.invokevirtual 113, 3) := by decide +kernel
theorem dX6_take_96 : decode cX6_take 96 = .ok (.ireturn, 1) := by decide +kernel
theorem dX6_isUnlike_0 : decode cX6_isUnlike 0 = .ok (.aload_n 0, 1) := by decide +kernel
theorem dX6_isUnlike_1 : decode cX6_isUnlike 1 = .ok (.aload_n 0, 1) := by decide +kernel
theorem dX6_isUnlike_2 : decode cX6_isUnlike 2 = .ok (.iload_n 1, 1) := by decide +kernel
theorem dX6_isUnlike_3 : decode cX6_isUnlike 3 = .ok (.invokevirtual 106, 3) := by decide +kernel
theorem dX6_isUnlike_6 : decode cX6_isUnlike 6 = .ok (.ifCond .ne 7, 3) := by decide +kernel
theorem dX6_isUnlike_9 : decode cX6_isUnlike 9 = .ok (.iconst 1, 1) := by decide +kernel
theorem dX6_isUnlike_10 : decode cX6_isUnlike 10 = .ok (.goto 18, 3) := by decide +kernel
theorem dX6_isUnlike_13 : decode cX6_isUnlike 13 = .ok (.aload_n 0, 1) := by decide +kernel
theorem dX6_isUnlike_14 : decode cX6_isUnlike 14 = .ok (.getfield 75, 3) := by decide +kernel
theorem dX6_isUnlike_17 : decode cX6_isUnlike 17 = .ok (.iload_n 1, 1) := by decide +kernel
theorem dX6_isUnlike_18 : decode cX6_isUnlike 18 = .ok (.caload, 1) := by decide +kernel
theorem dX6_isUnlike_19 : decode cX6_isUnlike 19 = .ok (.iload_n 2, 1) := by decide +kernel
theorem dX6_isUnlike_20 : decode cX6_isUnlike 20 = .ok (.if_icmp .ne 7, 3) := by decide +kernel
theorem dX6_isUnlike_23 : decode cX6_isUnlike 23 = .ok (.iconst 0, 1) := by decide +kernel
theorem dX6_isUnlike_24 : decode cX6_isUnlike 24 = .ok (.goto 4, 3) := by decide +kernel
theorem dX6_isUnlike_27 : decode cX6_isUnlike 27 = .ok (.iconst 2, 1) := by decide +kernel
theorem dX6_isUnlike_28 : decode cX6_isUnlike 28 = .ok (.putfield 1, 3) := by decide +kernel
theorem dX6_isUnlike_31 : decode cX6_isUnlike 31 = .ok (.aload_n 0, 1) := by decide +kernel
theorem dX6_isUnlike_32 : decode cX6_isUnlike 32 = .ok (.getfield 1, 3) := by decide +kernel
theorem dX6_isUnlike_35 : decode cX6_isUnlike 35 = .ok (.ifCond .le 7, 3) := by decide +kernel
theorem dX6_isUnlike_38 : decode cX6_isUnlike 38 = .ok (.iconst 1, 1) := by decide +kernel
theorem dX6_isUnlike_39 : decode cX6_isUnlike 39 = .ok (.goto 4, 3) := by decide +kernel
theorem dX6_isUnlike_42 : decode cX6_isUnlike 42 = .ok (.iconst 0, 1) := by decide +kernel
theorem dX6_isUnlike_43 : decode cX6_isUnlike 43 = .ok (.ireturn, 1) := by decide +kernel
theorem dX6_close_0 : decode cX6_close 0 = .ok (.aload_n 0, 1) := by decide +kernel
theorem dX6_close_1 : decode cX6_close 1 = .ok (.iload_n 1, 1) := by decide +kernel
theorem dX6_close_2 : decode cX6_close 2 = .ok (.bipush 111, 2) := by decide +kernel
theorem dX6_close_4 : decode cX6_close 4 = .ok (.invokevirtual 116, 3) := by decide +kernel
theorem dX6_close_7 : decode cX6_close 7 = .ok (.ifCond .eq 5, 3) := by decide +kernel
theorem dX6_close_10 : decode cX6_close 10 = .ok (.iconst 0, 1) := by decide +kernel
theorem dX6_close_11 : decode cX6_close 11 = .ok (.ireturn, 1) := by decide +kernel
theorem dX6_close_12 : decode cX6_close 12 = .ok (.aload_n 0, 1) := by decide +kernel
theorem dX6_close_13 : decode cX6_close 13 = .ok (.getfield 75, 3) := by decide +kernel
theorem dX6_close_16 : decode cX6_close 16 = .ok (.iload_n 1, 1) := by decide +kernel
theorem dX6_close_17 : decode cX6_close 17 = .ok (.bipush 120, 2) := by decide +kernel
theorem dX6_close_19 : decode cX6_close 19 = .ok (.castore, 1) := by decide +kernel
theorem dX6_close_20 : decode cX6_close 20 = .ok (.aload_n 0, 1) := by decide +kernel
theorem dX6_close_21 : decode cX6_close 21 = .ok (.iload_n 1, 1) := by decide +kernel
theorem dX6_close_22 : decode cX6_close 22 = .ok (.invokevirtual 113, 3) := by decide +kernel
theorem dX6_close_25 : decode cX6_close 25 = .ok (.ireturn, 1) := by decide +kernel
theorem dX6_vote_0 : decode cX6_vote 0 = .ok (.aload_n 0, 1) := by decide +kernel
theorem dX6_vote_1 : decode cX6_vote 1 = .ok (.iconst 0, 1) := by decide +kernel
theorem dX6_vote_2 : decode cX6_vote 2 = .ok (.putfield 1, 3) := by decide +kernel
theorem dX6_vote_5 : decode cX6_vote 5 = .ok (.aload_n 0, 1) := by decide +kernel
theorem dX6_vote_6 : decode cX6_vote 6 = .ok (.iload_n 1, 1) := by decide +kernel
theorem dX6_vote_7 : decode cX6_vote 7 = .ok (.invokevirtual 106, 3) := by decide +kernel
theorem dX6_vote_10 : decode cX6_vote 10 = .ok (.ifCond .ne 9, 3) := by decide +kernel
theorem dX6_vote_13 : decode cX6_vote 13 = .ok (.aload_n 0, 1) := by decide +kernel
theorem dX6_vote_14 : decode cX6_vote 14 = .ok (.iconst 1, 1) := by decide +kernel
theorem dX6_vote_15 : decode cX6_vote 15 = .ok (.invokevirtual 96, 3) := by decide +kernel
theorem dX6_vote_18 : decode cX6_vote 18 = .ok (.ireturn, 1) := by decide +kernel
theorem dX6_vote_19 : decode cX6_vote 19 = .ok (.iload_n 2, 1) := by decide +kernel
theorem dX6_vote_20 : decode cX6_vote 20 = .ok (.invokestatic 100, 3) := by decide +kernel
theorem dX6_vote_23 : decode cX6_vote 23 = .ok (.ifCond .eq 13, 3) := by decide +kernel
theorem dX6_vote_26 : decode cX6_vote 26 = .ok (.iload_n 2, 1) := by decide +kernel
theorem dX6_vote_27 : decode cX6_vote 27 = .ok (.aload_n 0, 1) := by decide +kernel
theorem dX6_vote_28 : decode cX6_vote 28 = .ok (.getfield 66, 3) := by decide +kernel
theorem dX6_vote_31 : decode cX6_vote 31 = .ok (.iload_n 1, 1) := by decide +kernel
theorem dX6_vote_32 : decode cX6_vote 32 = .ok (.iaload, 1) := by decide +kernel
theorem dX6_vote_33 : decode cX6_vote 33 = .ok (.if_icmp .ne 9, 3) := by decide +kernel
theorem dX6_vote_36 : decode cX6_vote 36 = .ok (.aload_n 0, 1) := by decide +kernel
theorem dX6_vote_37 : decode cX6_vote 37 = .ok (.iconst 2, 1) := by decide +kernel
theorem dX6_vote_38 : decode cX6_vote 38 = .ok (.invokevirtual 96, 3) := by decide +kernel
theorem dX6_vote_41 : decode cX6_vote 41 = .ok (.ireturn, 1) := by decide +kernel
theorem dX6_vote_42 : decode cX6_vote 42 = .ok (.aload_n 0, 1) := by decide +kernel
theorem dX6_vote_43 : decode cX6_vote 43 = .ok (.getfield 75, 3) := by decide +kernel
theorem dX6_vote_46 : decode cX6_vote 46 = .ok (.iload_n 1, 1) := by decide +kernel
theorem dX6_vote_47 : decode cX6_vote 47 = .ok (.caload, 1) := by decide +kernel
theorem dX6_vote_48 : decode cX6_vote 48 = .ok (.bipush 111, 2) := by decide +kernel
theorem dX6_vote_50 : decode cX6_vote 50 = .ok (.if_icmp .eq 9, 3) := by decide +kernel
theorem dX6_vote_53 : decode cX6_vote 53 = .ok (.aload_n 0, 1) := by decide +kernel
theorem dX6_vote_54 : decode cX6_vote 54 = .ok (.iconst 3, 1) := by decide +kernel
theorem dX6_vote_55 : decode cX6_vote 55 = .ok (.invokevirtual 96, 3) := by decide +kernel
theorem dX6_vote_58 : decode cX6_vote 58 = .ok (.ireturn, 1) := by decide +kernel
theorem dX6_vote_59 : decode cX6_vote 59 = .ok (.aload_n 0, 1) := by decide +kernel
theorem dX6_vote_60 : decode cX6_vote 60 = .ok (.getfield 58, 3) := by decide +kernel
theorem dX6_vote_63 : decode cX6_vote 63 = .ok (.iload_n 1, 1) := by decide +kernel
theorem dX6_vote_64 : decode cX6_vote 64 = .ok (.aaload, 1) := by decide +kernel
theorem dX6_vote_65 : decode cX6_vote 65 = .ok (.iload_n 2, 1) := by decide +kernel
theorem dX6_vote_66 : decode cX6_vote 66 = .ok (.iload_n 3, 1) := by decide +kernel
theorem dX6_vote_67 : decode cX6_vote 67 = .ok (.ifCond .eq 8, 3) := by decide +kernel
theorem dX6_vote_70 : decode cX6_vote 70 = .ok (.bipush 97, 2) := by decide +kernel
theorem dX6_vote_72 : decode cX6_vote 72 = .ok (.goto 5, 3) := by decide +kernel
theorem dX6_vote_75 : decode cX6_vote 75 = .ok (.bipush 98, 2) := by decide +kernel
theorem dX6_vote_77 : decode cX6_vote 77 = .ok (.castore, 1) := by decide +kernel
theorem dX6_vote_78 : decode cX6_vote 78 = .ok (.iconst 0, 1) := by decide +kernel
theorem dX6_vote_79 : decode cX6_vote 79 = .ok (.istore 4, 2) := by decide +kernel
theorem dX6_vote_81 : decode cX6_vote 81 = .ok (.iload 4, 2) := by decide +kernel
theorem dX6_vote_83 : decode cX6_vote 83 = .ok (.bipush 64, 2) := by decide +kernel
theorem dX6_vote_85 : decode cX6_vote 85 = .ok (.if_icmp .ge 37, 3) := by decide +kernel
theorem dX6_vote_88 : decode cX6_vote 88 = .ok (.aload_n 0, 1) := by decide +kernel
theorem dX6_vote_89 : decode cX6_vote 89 = .ok (.getfield 63, 3) := by decide +kernel
theorem dX6_vote_92 : decode cX6_vote 92 = .ok (.iload_n 1, 1) := by decide +kernel
theorem dX6_vote_93 : decode cX6_vote 93 = .ok (.aaload, 1) := by decide +kernel
theorem dX6_vote_94 : decode cX6_vote 94 = .ok (.iload_n 2, 1) := by decide +kernel
theorem dX6_vote_95 : decode cX6_vote 95 = .ok (.aaload, 1) := by decide +kernel
theorem dX6_vote_96 : decode cX6_vote 96 = .ok (.iload 4, 2) := by decide +kernel
theorem dX6_vote_98 : decode cX6_vote 98 = .ok (.iload_n 3, 1) := by decide +kernel
theorem dX6_vote_99 : decode cX6_vote 99 = .ok (.ifCond .eq 15, 3) := by decide +kernel
theorem dX6_vote_102 : decode cX6_vote 102 = .ok (.aload_n 0, 1) := by decide +kernel
theorem dX6_vote_103 : decode cX6_vote 103 = .ok (.getfield 48, 3) := by decide +kernel
theorem dX6_vote_106 : decode cX6_vote 106 = .ok (.iload_n 1, 1) := by decide +kernel
theorem dX6_vote_107 : decode cX6_vote 107 = .ok (.aaload, 1) := by decide +kernel
theorem dX6_vote_108 : decode cX6_vote 108 = .ok (.iload 4, 2) := by decide +kernel
theorem dX6_vote_110 : decode cX6_vote 110 = .ok (.iaload, 1) := by decide +kernel
theorem dX6_vote_111 : decode cX6_vote 111 = .ok (.goto 4, 3) := by decide +kernel
theorem dX6_vote_114 : decode cX6_vote 114 = .ok (.iconst (-1), 1) := by decide +kernel
theorem dX6_vote_115 : decode cX6_vote 115 = .ok (.iastore, 1) := by decide +kernel
theorem dX6_vote_116 : decode cX6_vote 116 = .ok (.iinc 4 1, 3) := by decide +kernel
theorem dX6_vote_119 : decode cX6_vote 119 = .ok (.goto (-38), 3) := by decide +kernel
theorem dX6_vote_122 : decode cX6_vote 122 = .ok (.iload_n 3, 1) := by decide +kernel
theorem dX6_vote_123 : decode cX6_vote 123 = .ok (.ifCond .eq 11, 3) := by decide +kernel
theorem dX6_vote_126 : decode cX6_vote 126 = .ok (.aload_n 0, 1) := by decide +kernel
theorem dX6_vote_127 : decode cX6_vote 127 = .ok (.iload_n 1, 1) := by decide +kernel
theorem dX6_vote_128 : decode cX6_vote 128 = .ok (.invokevirtual 113, 3) := by decide +kernel
theorem dX6_vote_131 : decode cX6_vote 131 = .ok (.goto 4, 3) := by decide +kernel
theorem dX6_vote_134 : decode cX6_vote 134 = .ok (.iconst 0, 1) := by decide +kernel
theorem dX6_vote_135 : decode cX6_vote 135 = .ok (.ireturn, 1) := by decide +kernel
theorem dX6_ask_0 : decode cX6_ask 0 = .ok (.aload_n 0, 1) := by decide +kernel
theorem dX6_ask_1 : decode cX6_ask 1 = .ok (.getfield 34, 3) := by decide +kernel
theorem dX6_ask_4 : decode cX6_ask 4 = .ok (.iload_n 2, 1) := by decide +kernel
theorem dX6_ask_5 : decode cX6_ask 5 = .ok (.iaload, 1) := by decide +kernel
theorem dX6_ask_6 : decode cX6_ask 6 = .ok (.istore_n 3, 1) := by decide +kernel
theorem dX6_ask_7 : decode cX6_ask 7 = .ok (.aload_n 0, 1) := by decide +kernel
theorem dX6_ask_8 : decode cX6_ask 8 = .ok (.getfield 43, 3) := by decide +kernel
theorem dX6_ask_11 : decode cX6_ask 11 = .ok (.iload_n 3, 1) := by decide +kernel
theorem dX6_ask_12 : decode cX6_ask 12 = .ok (.baload, 1) := by decide +kernel
theorem dX6_ask_13 : decode cX6_ask 13 = .ok (.ifCond .ne 15, 3) := by decide +kernel
theorem dX6_ask_16 : decode cX6_ask 16 = .ok (.iload_n 3, 1) := by decide +kernel
theorem dX6_ask_17 : decode cX6_ask 17 = .ok (.aload_n 0, 1) := by decide +kernel
theorem dX6_ask_18 : decode cX6_ask 18 = .ok (.getfield 66, 3) := by decide +kernel
theorem dX6_ask_21 : decode cX6_ask 21 = .ok (.iload_n 1, 1) := by decide +kernel
theorem dX6_ask_22 : decode cX6_ask 22 = .ok (.iaload, 1) := by decide +kernel
theorem dX6_ask_23 : decode cX6_ask 23 = .ok (.if_icmp .eq 5, 3) := by decide +kernel
theorem dX6_ask_26 : decode cX6_ask 26 = .ok (.iload_n 3, 1) := by decide +kernel
theorem dX6_ask_27 : decode cX6_ask 27 = .ok (.ireturn, 1) := by decide +kernel
theorem dX6_ask_28 : decode cX6_ask 28 = .ok (.aload_n 0, 1) := by decide +kernel
theorem dX6_ask_29 : decode cX6_ask 29 = .ok (.getfield 37, 3) := by decide +kernel
theorem dX6_ask_32 : decode cX6_ask 32 = .ok (.iload_n 2, 1) := by decide +kernel
theorem dX6_ask_33 : decode cX6_ask 33 = .ok (.iaload, 1) := by decide +kernel
theorem dX6_ask_34 : decode cX6_ask 34 = .ok (.aload_n 0, 1) := by decide +kernel
theorem dX6_ask_35 : decode cX6_ask 35 = .ok (.getfield 66, 3) := by decide +kernel
theorem dX6_ask_38 : decode cX6_ask 38 = .ok (.iload_n 1, 1) := by decide +kernel
theorem dX6_ask_39 : decode cX6_ask 39 = .ok (.iaload, 1) := by decide +kernel
theorem dX6_ask_40 : decode cX6_ask 40 = .ok (.if_icmp .ne 7, 3) := by decide +kernel
theorem dX6_ask_43 : decode cX6_ask 43 = .ok (.iconst (-1), 1) := by decide +kernel
theorem dX6_ask_44 : decode cX6_ask 44 = .ok (.goto 9, 3) := by decide +kernel
theorem dX6_ask_47 : decode cX6_ask 47 = .ok (.aload_n 0, 1) := by decide +kernel
theorem dX6_ask_48 : decode cX6_ask 48 = .ok (.getfield 37, 3) := by decide +kernel
theorem dX6_ask_51 : decode cX6_ask 51 = .ok (.iload_n 2, 1) := by decide +kernel
theorem dX6_ask_52 : decode cX6_ask 52 = .ok (.iaload, 1) := by decide +kernel
theorem dX6_ask_53 : decode cX6_ask 53 = .ok (.ireturn, 1) := by decide +kernel
theorem dX6_touches_0 : decode cX6_touches 0 = .ok (.iconst 0, 1) := by decide +kernel
theorem dX6_touches_1 : decode cX6_touches 1 = .ok (.istore_n 3, 1) := by decide +kernel
theorem dX6_touches_2 : decode cX6_touches 2 = .ok (.iload_n 3, 1) := by decide +kernel
theorem dX6_touches_3 : decode cX6_touches 3 = .ok (.bipush 64, 2) := by decide +kernel
theorem dX6_touches_5 : decode cX6_touches 5 = .ok (.if_icmp .ge 30, 3) := by decide +kernel
theorem dX6_touches_8 : decode cX6_touches 8 = .ok (.aload_n 0, 1) := by decide +kernel
theorem dX6_touches_9 : decode cX6_touches 9 = .ok (.getfield 48, 3) := by decide +kernel
theorem dX6_touches_12 : decode cX6_touches 12 = .ok (.iload_n 1, 1) := by decide +kernel
theorem dX6_touches_13 : decode cX6_touches 13 = .ok (.aaload, 1) := by decide +kernel
theorem dX6_touches_14 : decode cX6_touches 14 = .ok (.iload_n 3, 1) := by decide +kernel
theorem dX6_touches_15 : decode cX6_touches 15 = .ok (.iaload, 1) := by decide +kernel
theorem dX6_touches_16 : decode cX6_touches 16 = .ok (.ifCond .lt 13, 3) := by decide +kernel
theorem dX6_touches_19 : decode cX6_touches 19 = .ok (.iload_n 3, 1) := by decide +kernel
theorem dX6_touches_20 : decode cX6_touches 20 = .ok (.invokestatic 120, 3) := by decide +kernel
theorem dX6_touches_23 : decode cX6_touches 23 = .ok (.iload_n 2, 1) := by decide +kernel
theorem dX6_touches_24 : decode cX6_touches 24 = .ok (.if_icmp .ne 5, 3) := by decide +kernel
theorem dX6_touches_27 : decode cX6_touches 27 = .ok (.iconst 1, 1) := by decide +kernel
theorem dX6_touches_28 : decode cX6_touches 28 = .ok (.ireturn, 1) := by decide +kernel
theorem dX6_touches_29 : decode cX6_touches 29 = .ok (.iinc 3 1, 3) := by decide +kernel
theorem dX6_touches_32 : decode cX6_touches 32 = .ok (.goto (-30), 3) := by decide +kernel
theorem dX6_touches_35 : decode cX6_touches 35 = .ok (.iconst 0, 1) := by decide +kernel
theorem dX6_touches_36 : decode cX6_touches 36 = .ok (.ireturn, 1) := by decide +kernel
theorem dX6_isCovered_0 : decode cX6_isCovered 0 = .ok (.iconst 0, 1) := by decide +kernel
theorem dX6_isCovered_1 : decode cX6_isCovered 1 = .ok (.istore 4, 2) := by decide +kernel
theorem dX6_isCovered_3 : decode cX6_isCovered 3 = .ok (.iload 4, 2) := by decide +kernel
theorem dX6_isCovered_5 : decode cX6_isCovered 5 = .ok (.bipush 64, 2) := by decide +kernel
theorem dX6_isCovered_7 : decode cX6_isCovered 7 = .ok (.if_icmp .ge 55, 3) := by decide +kernel
theorem dX6_isCovered_10 : decode cX6_isCovered 10 = .ok (.iload 4, 2) := by decide +kernel
theorem dX6_isCovered_12 : decode cX6_isCovered 12 = .ok (.invokestatic 120, 3) := by decide +kernel
theorem dX6_isCovered_15 : decode cX6_isCovered 15 = .ok (.iload_n 2, 1) := by decide +kernel
theorem dX6_isCovered_16 : decode cX6_isCovered 16 = .ok (.if_icmp .ne 40, 3) := by decide +kernel
theorem dX6_isCovered_19 : decode cX6_isCovered 19 = .ok (.aload_n 0, 1) := by decide +kernel
theorem dX6_isCovered_20 : decode cX6_isCovered 20 = .ok (.getfield 48, 3) := by decide +kernel
theorem dX6_isCovered_23 : decode cX6_isCovered 23 = .ok (.iload_n 1, 1) := by decide +kernel
theorem dX6_isCovered_24 : decode cX6_isCovered 24 = .ok (.aaload, 1) := by decide +kernel
theorem dX6_isCovered_25 : decode cX6_isCovered 25 = .ok (.iload 4, 2) := by decide +kernel
theorem dX6_isCovered_27 : decode cX6_isCovered 27 = .ok (.iaload, 1) := by decide +kernel
theorem dX6_isCovered_28 : decode cX6_isCovered 28 = .ok (.ifCond .lt 28, 3) := by decide +kernel
theorem dX6_isCovered_31 : decode cX6_isCovered 31 = .ok (.aload_n 0, 1) := by decide +kernel
theorem dX6_isCovered_32 : decode cX6_isCovered 32 = .ok (.getfield 63, 3) := by decide +kernel
theorem dX6_isCovered_35 : decode cX6_isCovered 35 = .ok (.iload_n 1, 1) := by decide +kernel
theorem dX6_isCovered_36 : decode cX6_isCovered 36 = .ok (.aaload, 1) := by decide +kernel
theorem dX6_isCovered_37 : decode cX6_isCovered 37 = .ok (.iload_n 3, 1) := by decide +kernel
theorem dX6_isCovered_38 : decode cX6_isCovered 38 = .ok (.aaload, 1) := by decide +kernel
theorem dX6_isCovered_39 : decode cX6_isCovered 39 = .ok (.iload 4, 2) := by decide +kernel
theorem dX6_isCovered_41 : decode cX6_isCovered 41 = .ok (.iaload, 1) := by decide +kernel
theorem dX6_isCovered_42 : decode cX6_isCovered 42 = .ok (.aload_n 0, 1) := by decide +kernel
theorem dX6_isCovered_43 : decode cX6_isCovered 43 = .ok (.getfield 48, 3) := by decide +kernel
theorem dX6_isCovered_46 : decode cX6_isCovered 46 = .ok (.iload_n 1, 1) := by decide +kernel
theorem dX6_isCovered_47 : decode cX6_isCovered 47 = .ok (.aaload, 1) := by decide +kernel
theorem dX6_isCovered_48 : decode cX6_isCovered 48 = .ok (.iload 4, 2) := by decide +kernel
theorem dX6_isCovered_50 : decode cX6_isCovered 50 = .ok (.iaload, 1) := by decide +kernel
theorem dX6_isCovered_51 : decode cX6_isCovered 51 = .ok (.if_icmp .eq 5, 3) := by decide +kernel
theorem dX6_isCovered_54 : decode cX6_isCovered 54 = .ok (.iconst 0, 1) := by decide +kernel
theorem dX6_isCovered_55 : decode cX6_isCovered 55 = .ok (.ireturn, 1) := by decide +kernel
theorem dX6_isCovered_56 : decode cX6_isCovered 56 = .ok (.iinc 4 1, 3) := by decide +kernel
theorem dX6_isCovered_59 : decode cX6_isCovered 59 = .ok (.goto (-56), 3) := by decide +kernel
theorem dX6_isCovered_62 : decode cX6_isCovered 62 = .ok (.iconst 1, 1) := by decide +kernel
theorem dX6_isCovered_63 : decode cX6_isCovered 63 = .ok (.ireturn, 1) := by decide +kernel
theorem dX6_verdictOf_0 : decode cX6_verdictOf 0 = .ok (.aload_n 0, 1) := by decide +kernel
theorem dX6_verdictOf_1 : decode cX6_verdictOf 1 = .ok (.iload_n 1, 1) := by decide +kernel
theorem dX6_verdictOf_2 : decode cX6_verdictOf 2 = .ok (.iload_n 2, 1) := by decide +kernel
theorem dX6_verdictOf_3 : decode cX6_verdictOf 3 = .ok (.invokevirtual 123, 3) := by decide +kernel
theorem dX6_verdictOf_6 : decode cX6_verdictOf 6 = .ok (.ifCond .ne 6, 3) := by decide +kernel
theorem dX6_verdictOf_9 : decode cX6_verdictOf 9 = .ok (.bipush 45, 2) := by decide +kernel
theorem dX6_verdictOf_11 : decode cX6_verdictOf 11 = .ok (.ireturn, 1) := by decide +kernel
theorem dX6_verdictOf_12 : decode cX6_verdictOf 12 = .ok (.aload_n 0, 1) := by decide +kernel
theorem dX6_verdictOf_13 : decode cX6_verdictOf 13 = .ok (.iload_n 1, 1) := by decide +kernel
theorem dX6_verdictOf_14 : decode cX6_verdictOf 14 = .ok (.iload_n 2, 1) := by decide +kernel
theorem dX6_verdictOf_15 : decode cX6_verdictOf 15 = .ok (.invokevirtual 126, 3) := by decide +kernel
theorem dX6_verdictOf_18 : decode cX6_verdictOf 18 = .ok (.istore_n 3, 1) := by decide +kernel
theorem dX6_verdictOf_19 : decode cX6_verdictOf 19 = .ok (.iload_n 3, 1) := by decide +kernel
theorem dX6_verdictOf_20 : decode cX6_verdictOf 20 = .ok (.ifCond .ge 6, 3) := by decide +kernel
theorem dX6_verdictOf_23 : decode cX6_verdictOf 23 = .ok (.bipush 102, 2) := by decide +kernel
theorem dX6_verdictOf_25 : decode cX6_verdictOf 25 = .ok (.ireturn, 1) := by decide +kernel
theorem dX6_verdictOf_26 : decode cX6_verdictOf 26 = .ok (.aload_n 0, 1) := by decide +kernel
theorem dX6_verdictOf_27 : decode cX6_verdictOf 27 = .ok (.getfield 58, 3) := by decide +kernel
theorem dX6_verdictOf_30 : decode cX6_verdictOf 30 = .ok (.iload_n 1, 1) := by decide +kernel
theorem dX6_verdictOf_31 : decode cX6_verdictOf 31 = .ok (.aaload, 1) := by decide +kernel
theorem dX6_verdictOf_32 : decode cX6_verdictOf 32 = .ok (.iload_n 3, 1) := by decide +kernel
theorem dX6_verdictOf_33 : decode cX6_verdictOf 33 = .ok (.caload, 1) := by decide +kernel
theorem dX6_verdictOf_34 : decode cX6_verdictOf 34 = .ok (.bipush 45, 2) := by decide +kernel
theorem dX6_verdictOf_36 : decode cX6_verdictOf 36 = .ok (.if_icmp .ne 6, 3) := by decide +kernel
theorem dX6_verdictOf_39 : decode cX6_verdictOf 39 = .ok (.bipush 63, 2) := by decide +kernel
theorem dX6_verdictOf_41 : decode cX6_verdictOf 41 = .ok (.ireturn, 1) := by decide +kernel
theorem dX6_verdictOf_42 : decode cX6_verdictOf 42 = .ok (.aload_n 0, 1) := by decide +kernel
theorem dX6_verdictOf_43 : decode cX6_verdictOf 43 = .ok (.getfield 58, 3) := by decide +kernel
theorem dX6_verdictOf_46 : decode cX6_verdictOf 46 = .ok (.iload_n 1, 1) := by decide +kernel
theorem dX6_verdictOf_47 : decode cX6_verdictOf 47 = .ok (.aaload, 1) := by decide +kernel
theorem dX6_verdictOf_48 : decode cX6_verdictOf 48 = .ok (.iload_n 3, 1) := by decide +kernel
theorem dX6_verdictOf_49 : decode cX6_verdictOf 49 = .ok (.caload, 1) := by decide +kernel
theorem dX6_verdictOf_50 : decode cX6_verdictOf 50 = .ok (.bipush 98, 2) := by decide +kernel
theorem dX6_verdictOf_52 : decode cX6_verdictOf 52 = .ok (.if_icmp .ne 6, 3) := by decide +kernel
theorem dX6_verdictOf_55 : decode cX6_verdictOf 55 = .ok (.bipush 110, 2) := by decide +kernel
theorem dX6_verdictOf_57 : decode cX6_verdictOf 57 = .ok (.ireturn, 1) := by decide +kernel
theorem dX6_verdictOf_58 : decode cX6_verdictOf 58 = .ok (.aload_n 0, 1) := by decide +kernel
theorem dX6_verdictOf_59 : decode cX6_verdictOf 59 = .ok (.iload_n 1, 1) := by decide +kernel
theorem dX6_verdictOf_60 : decode cX6_verdictOf 60 = .ok (.iload_n 2, 1) := by decide +kernel
theorem dX6_verdictOf_61 : decode cX6_verdictOf 61 = .ok (.iload_n 3, 1) := by decide +kernel
theorem dX6_verdictOf_62 : decode cX6_verdictOf 62 = .ok (.invokevirtual 130, 3) := by decide +kernel
theorem dX6_verdictOf_65 : decode cX6_verdictOf 65 = .ok (.ifCond .eq 8, 3) := by decide +kernel
theorem dX6_verdictOf_68 : decode cX6_verdictOf 68 = .ok (.bipush 121, 2) := by decide +kernel
theorem dX6_verdictOf_70 : decode cX6_verdictOf 70 = .ok (.goto 5, 3) := by decide +kernel
theorem dX6_verdictOf_73 : decode cX6_verdictOf 73 = .ok (.bipush 115, 2) := by decide +kernel
theorem dX6_verdictOf_75 : decode cX6_verdictOf 75 = .ok (.ireturn, 1) := by decide +kernel
theorem dX6_verdict_0 : decode cX6_verdict 0 = .ok (.aload_n 0, 1) := by decide +kernel
theorem dX6_verdict_1 : decode cX6_verdict 1 = .ok (.aload_n 0, 1) := by decide +kernel
theorem dX6_verdict_2 : decode cX6_verdict 2 = .ok (.iload_n 1, 1) := by decide +kernel
theorem dX6_verdict_3 : decode cX6_verdict 3 = .ok (.invokevirtual 106, 3) := by decide +kernel
theorem dX6_verdict_6 : decode cX6_verdict 6 = .ok (.ifCond .ne 7, 3) := by decide +kernel
theorem dX6_verdict_9 : decode cX6_verdict 9 = .ok (.iconst 1, 1) := by decide +kernel
theorem dX6_verdict_10 : decode cX6_verdict 10 = .ok (.goto 15, 3) := by decide +kernel
theorem dX6_verdict_13 : decode cX6_verdict 13 = .ok (.iload_n 2, 1) := by decide +kernel
theorem dX6_verdict_14 : decode cX6_verdict 14 = .ok (.invokestatic 92, 3) := by decide +kernel
theorem dX6_verdict_17 : decode cX6_verdict 17 = .ok (.ifCond .eq 7, 3) := by decide +kernel
theorem dX6_verdict_20 : decode cX6_verdict 20 = .ok (.iconst 0, 1) := by decide +kernel
theorem dX6_verdict_21 : decode cX6_verdict 21 = .ok (.goto 4, 3) := by decide +kernel
theorem dX6_verdict_24 : decode cX6_verdict 24 = .ok (.iconst 2, 1) := by decide +kernel
theorem dX6_verdict_25 : decode cX6_verdict 25 = .ok (.putfield 1, 3) := by decide +kernel
theorem dX6_verdict_28 : decode cX6_verdict 28 = .ok (.aload_n 0, 1) := by decide +kernel
theorem dX6_verdict_29 : decode cX6_verdict 29 = .ok (.getfield 1, 3) := by decide +kernel
theorem dX6_verdict_32 : decode cX6_verdict 32 = .ok (.ifCond .le 7, 3) := by decide +kernel
theorem dX6_verdict_35 : decode cX6_verdict 35 = .ok (.iconst 0, 1) := by decide +kernel
theorem dX6_verdict_36 : decode cX6_verdict 36 = .ok (.goto 9, 3) := by decide +kernel
theorem dX6_verdict_39 : decode cX6_verdict 39 = .ok (.aload_n 0, 1) := by decide +kernel
theorem dX6_verdict_40 : decode cX6_verdict 40 = .ok (.iload_n 1, 1) := by decide +kernel
theorem dX6_verdict_41 : decode cX6_verdict 41 = .ok (.iload_n 2, 1) := by decide +kernel
theorem dX6_verdict_42 : decode cX6_verdict 42 = .ok (.invokevirtual 133, 3) := by decide +kernel
theorem dX6_verdict_45 : decode cX6_verdict 45 = .ok (.ireturn, 1) := by decide +kernel
theorem dX6_asked_0 : decode cX6_asked 0 = .ok (.aload_n 0, 1) := by decide +kernel
theorem dX6_asked_1 : decode cX6_asked 1 = .ok (.aload_n 0, 1) := by decide +kernel
theorem dX6_asked_2 : decode cX6_asked 2 = .ok (.iload_n 1, 1) := by decide +kernel
theorem dX6_asked_3 : decode cX6_asked 3 = .ok (.invokevirtual 106, 3) := by decide +kernel
theorem dX6_asked_6 : decode cX6_asked 6 = .ok (.ifCond .ne 7, 3) := by decide +kernel
theorem dX6_asked_9 : decode cX6_asked 9 = .ok (.iconst 1, 1) := by decide +kernel
theorem dX6_asked_10 : decode cX6_asked 10 = .ok (.goto 15, 3) := by decide +kernel
theorem dX6_asked_13 : decode cX6_asked 13 = .ok (.iload_n 2, 1) := by decide +kernel
theorem dX6_asked_14 : decode cX6_asked 14 = .ok (.invokestatic 92, 3) := by decide +kernel
theorem dX6_asked_17 : decode cX6_asked 17 = .ok (.ifCond .eq 7, 3) := by decide +kernel
theorem dX6_asked_20 : decode cX6_asked 20 = .ok (.iconst 0, 1) := by decide +kernel
theorem dX6_asked_21 : decode cX6_asked 21 = .ok (.goto 4, 3) := by decide +kernel
theorem dX6_asked_24 : decode cX6_asked 24 = .ok (.iconst 2, 1) := by decide +kernel
theorem dX6_asked_25 : decode cX6_asked 25 = .ok (.putfield 1, 3) := by decide +kernel
theorem dX6_asked_28 : decode cX6_asked 28 = .ok (.aload_n 0, 1) := by decide +kernel
theorem dX6_asked_29 : decode cX6_asked 29 = .ok (.getfield 1, 3) := by decide +kernel
theorem dX6_asked_32 : decode cX6_asked 32 = .ok (.ifCond .le 5, 3) := by decide +kernel
theorem dX6_asked_35 : decode cX6_asked 35 = .ok (.iconst 0, 1) := by decide +kernel
theorem dX6_asked_36 : decode cX6_asked 36 = .ok (.ireturn, 1) := by decide +kernel
theorem dX6_asked_37 : decode cX6_asked 37 = .ok (.aload_n 0, 1) := by decide +kernel
theorem dX6_asked_38 : decode cX6_asked 38 = .ok (.iload_n 1, 1) := by decide +kernel
theorem dX6_asked_39 : decode cX6_asked 39 = .ok (.iload_n 2, 1) := by decide +kernel
theorem dX6_asked_40 : decode cX6_asked 40 = .ok (.invokevirtual 126, 3) := by decide +kernel
theorem dX6_asked_43 : decode cX6_asked 43 = .ok (.ifCond .ge 11, 3) := by decide +kernel
theorem dX6_asked_46 : decode cX6_asked 46 = .ok (.aload_n 0, 1) := by decide +kernel
theorem dX6_asked_47 : decode cX6_asked 47 = .ok (.iconst 1, 1) := by decide +kernel
theorem dX6_asked_48 : decode cX6_asked 48 = .ok (.invokevirtual 96, 3) := by decide +kernel
theorem dX6_asked_51 : decode cX6_asked 51 = .ok (.goto 9, 3) := by decide +kernel
theorem dX6_asked_54 : decode cX6_asked 54 = .ok (.aload_n 0, 1) := by decide +kernel
theorem dX6_asked_55 : decode cX6_asked 55 = .ok (.iload_n 1, 1) := by decide +kernel
theorem dX6_asked_56 : decode cX6_asked 56 = .ok (.iload_n 2, 1) := by decide +kernel
theorem dX6_asked_57 : decode cX6_asked 57 = .ok (.invokevirtual 126, 3) := by decide +kernel
theorem dX6_asked_60 : decode cX6_asked 60 = .ok (.ireturn, 1) := by decide +kernel
theorem dX6_missingIn_0 : decode cX6_missingIn 0 = .ok (.iconst 0, 1) := by decide +kernel
theorem dX6_missingIn_1 : decode cX6_missingIn 1 = .ok (.istore_n 2, 1) := by decide +kernel
theorem dX6_missingIn_2 : decode cX6_missingIn 2 = .ok (.iconst 0, 1) := by decide +kernel
theorem dX6_missingIn_3 : decode cX6_missingIn 3 = .ok (.istore_n 3, 1) := by decide +kernel
theorem dX6_missingIn_4 : decode cX6_missingIn 4 = .ok (.iload_n 3, 1) := by decide +kernel
theorem dX6_missingIn_5 : decode cX6_missingIn 5 = .ok (.iconst 4, 1) := by decide +kernel
theorem dX6_missingIn_6 : decode cX6_missingIn 6 = .ok (.if_icmp .ge 46, 3) := by decide +kernel
theorem dX6_missingIn_9 : decode cX6_missingIn 9 = .ok (.aload_n 0, 1) := by decide +kernel
theorem dX6_missingIn_10 : decode cX6_missingIn 10 = .ok (.iload_n 1, 1) := by decide +kernel
theorem dX6_missingIn_11 : decode cX6_missingIn 11 = .ok (.iload_n 3, 1) := by decide +kernel
theorem dX6_missingIn_12 : decode cX6_missingIn 12 = .ok (.invokevirtual 133, 3) := by decide +kernel
theorem dX6_missingIn_15 : decode cX6_missingIn 15 = .ok (.istore 4, 2) := by decide +kernel
theorem dX6_missingIn_17 : decode cX6_missingIn 17 = .ok (.iload_n 2, 1) := by decide +kernel
theorem dX6_missingIn_18 : decode cX6_missingIn 18 = .ok (.iload 4, 2) := by decide +kernel
theorem dX6_missingIn_20 : decode cX6_missingIn 20 = .ok (.bipush 63, 2) := by decide +kernel
theorem dX6_missingIn_22 : decode cX6_missingIn 22 = .ok (.if_icmp .eq 17, 3) := by decide +kernel
theorem dX6_missingIn_25 : decode cX6_missingIn 25 = .ok (.iload 4, 2) := by decide +kernel
theorem dX6_missingIn_27 : decode cX6_missingIn 27 = .ok (.bipush 110, 2) := by decide +kernel
theorem dX6_missingIn_29 : decode cX6_missingIn 29 = .ok (.if_icmp .eq 10, 3) := by decide +kernel
theorem dX6_missingIn_32 : decode cX6_missingIn 32 = .ok (.iload 4, 2) := by decide +kernel
theorem dX6_missingIn_34 : decode cX6_missingIn 34 = .ok (.bipush 115, 2) := by decide +kernel
theorem dX6_missingIn_36 : decode cX6_missingIn 36 = .ok (.if_icmp .ne 7, 3) := by decide +kernel
theorem dX6_missingIn_39 : decode cX6_missingIn 39 = .ok (.iconst 1, 1) := by decide +kernel
theorem dX6_missingIn_40 : decode cX6_missingIn 40 = .ok (.goto 4, 3) := by decide +kernel
theorem dX6_missingIn_43 : decode cX6_missingIn 43 = .ok (.iconst 0, 1) := by decide +kernel
theorem dX6_missingIn_44 : decode cX6_missingIn 44 = .ok (.iadd, 1) := by decide +kernel
theorem dX6_missingIn_45 : decode cX6_missingIn 45 = .ok (.istore_n 2, 1) := by decide +kernel
theorem dX6_missingIn_46 : decode cX6_missingIn 46 = .ok (.iinc 3 1, 3) := by decide +kernel
theorem dX6_missingIn_49 : decode cX6_missingIn 49 = .ok (.goto (-45), 3) := by decide +kernel
theorem dX6_missingIn_52 : decode cX6_missingIn 52 = .ok (.iload_n 2, 1) := by decide +kernel
theorem dX6_missingIn_53 : decode cX6_missingIn 53 = .ok (.ireturn, 1) := by decide +kernel
theorem dX6_missing_0 : decode cX6_missing 0 = .ok (.aload_n 0, 1) := by decide +kernel
theorem dX6_missing_1 : decode cX6_missing 1 = .ok (.iconst 0, 1) := by decide +kernel
theorem dX6_missing_2 : decode cX6_missing 2 = .ok (.putfield 1, 3) := by decide +kernel
theorem dX6_missing_5 : decode cX6_missing 5 = .ok (.aload_n 0, 1) := by decide +kernel
theorem dX6_missing_6 : decode cX6_missing 6 = .ok (.iload_n 1, 1) := by decide +kernel
theorem dX6_missing_7 : decode cX6_missing 7 = .ok (.invokevirtual 106, 3) := by decide +kernel
theorem dX6_missing_10 : decode cX6_missing 10 = .ok (.ifCond .eq 11, 3) := by decide +kernel
theorem dX6_missing_13 : decode cX6_missing 13 = .ok (.aload_n 0, 1) := by decide +kernel
theorem dX6_missing_14 : decode cX6_missing 14 = .ok (.iload_n 1, 1) := by decide +kernel
theorem dX6_missing_15 : decode cX6_missing 15 = .ok (.invokevirtual 137, 3) := by decide +kernel
theorem dX6_missing_18 : decode cX6_missing 18 = .ok (.goto 8, 3) := by decide +kernel
theorem dX6_missing_21 : decode cX6_missing 21 = .ok (.aload_n 0, 1) := by decide +kernel
theorem dX6_missing_22 : decode cX6_missing 22 = .ok (.iconst 1, 1) := by decide +kernel
theorem dX6_missing_23 : decode cX6_missing 23 = .ok (.invokevirtual 96, 3) := by decide +kernel
theorem dX6_missing_26 : decode cX6_missing 26 = .ok (.ireturn, 1) := by decide +kernel
theorem dX6_clashMany_0 : decode cX6_clashMany 0 = .ok (.iconst 0, 1) := by decide +kernel
theorem dX6_clashMany_1 : decode cX6_clashMany 1 = .ok (.istore_n 2, 1) := by decide +kernel
theorem dX6_clashMany_2 : decode cX6_clashMany 2 = .ok (.iconst 0, 1) := by decide +kernel
theorem dX6_clashMany_3 : decode cX6_clashMany 3 = .ok (.istore_n 3, 1) := by decide +kernel
theorem dX6_clashMany_4 : decode cX6_clashMany 4 = .ok (.iload_n 3, 1) := by decide +kernel
theorem dX6_clashMany_5 : decode cX6_clashMany 5 = .ok (.bipush 64, 2) := by decide +kernel
theorem dX6_clashMany_7 : decode cX6_clashMany 7 = .ok (.if_icmp .ge 28, 3) := by decide +kernel
theorem dX6_clashMany_10 : decode cX6_clashMany 10 = .ok (.iload_n 2, 1) := by decide +kernel
theorem dX6_clashMany_11 : decode cX6_clashMany 11 = .ok (.aload_n 0, 1) := by decide +kernel
theorem dX6_clashMany_12 : decode cX6_clashMany 12 = .ok (.getfield 53, 3) := by decide +kernel
theorem dX6_clashMany_15 : decode cX6_clashMany 15 = .ok (.iload_n 1, 1) := by decide +kernel
theorem dX6_clashMany_16 : decode cX6_clashMany 16 = .ok (.aaload, 1) := by decide +kernel
theorem dX6_clashMany_17 : decode cX6_clashMany 17 = .ok (.iload_n 3, 1) := by decide +kernel
theorem dX6_clashMany_18 : decode cX6_clashMany 18 = .ok (.baload, 1) := by decide +kernel
theorem dX6_clashMany_19 : decode cX6_clashMany 19 = .ok (.ifCond .eq 7, 3) := by decide +kernel
theorem dX6_clashMany_22 : decode cX6_clashMany 22 = .ok (.iconst 1, 1) := by decide +kernel
theorem dX6_clashMany_23 : decode cX6_clashMany 23 = .ok (.goto 4, 3) := by decide +kernel
theorem dX6_clashMany_26 : decode cX6_clashMany 26 = .ok (.iconst 0, 1) := by decide +kernel
theorem dX6_clashMany_27 : decode cX6_clashMany 27 = .ok (.iadd, 1) := by decide +kernel
theorem dX6_clashMany_28 : decode cX6_clashMany 28 = .ok (.istore_n 2, 1) := by decide +kernel
theorem dX6_clashMany_29 : decode cX6_clashMany 29 = .ok (.iinc 3 1, 3) := by decide +kernel
theorem dX6_clashMany_32 : decode cX6_clashMany 32 = .ok (.goto (-28), 3) := by decide +kernel
theorem dX6_clashMany_35 : decode cX6_clashMany 35 = .ok (.iload_n 2, 1) := by decide +kernel
theorem dX6_clashMany_36 : decode cX6_clashMany 36 = .ok (.ireturn, 1) := by decide +kernel
theorem dX6_queue_0 : decode cX6_queue 0 = .ok (.aload_n 0, 1) := by decide +kernel
theorem dX6_queue_1 : decode cX6_queue 1 = .ok (.iload_n 1, 1) := by decide +kernel
theorem dX6_queue_2 : decode cX6_queue 2 = .ok (.bipush 111, 2) := by decide +kernel
theorem dX6_queue_4 : decode cX6_queue 4 = .ok (.invokevirtual 116, 3) := by decide +kernel
theorem dX6_queue_7 : decode cX6_queue 7 = .ok (.ifCond .eq 5, 3) := by decide +kernel
theorem dX6_queue_10 : decode cX6_queue 10 = .ok (.iconst 0, 1) := by decide +kernel
theorem dX6_queue_11 : decode cX6_queue 11 = .ok (.ireturn, 1) := by decide +kernel
theorem dX6_queue_12 : decode cX6_queue 12 = .ok (.aload_n 0, 1) := by decide +kernel
theorem dX6_queue_13 : decode cX6_queue 13 = .ok (.iload_n 1, 1) := by decide +kernel
theorem dX6_queue_14 : decode cX6_queue 14 = .ok (.invokevirtual 113, 3) := by decide +kernel
theorem dX6_queue_17 : decode cX6_queue 17 = .ok (.ifCond .eq 11, 3) := by decide +kernel
theorem dX6_queue_20 : decode cX6_queue 20 = .ok (.aload_n 0, 1) := by decide +kernel
theorem dX6_queue_21 : decode cX6_queue 21 = .ok (.iload_n 1, 1) := by decide +kernel
theorem dX6_queue_22 : decode cX6_queue 22 = .ok (.invokevirtual 140, 3) := by decide +kernel
theorem dX6_queue_25 : decode cX6_queue 25 = .ok (.ifCond .le 9, 3) := by decide +kernel
theorem dX6_queue_28 : decode cX6_queue 28 = .ok (.aload_n 0, 1) := by decide +kernel
theorem dX6_queue_29 : decode cX6_queue 29 = .ok (.iconst 2, 1) := by decide +kernel
theorem dX6_queue_30 : decode cX6_queue 30 = .ok (.invokevirtual 96, 3) := by decide +kernel
theorem dX6_queue_33 : decode cX6_queue 33 = .ok (.ireturn, 1) := by decide +kernel
theorem dX6_queue_34 : decode cX6_queue 34 = .ok (.aload_n 0, 1) := by decide +kernel
theorem dX6_queue_35 : decode cX6_queue 35 = .ok (.iload_n 1, 1) := by decide +kernel
theorem dX6_queue_36 : decode cX6_queue 36 = .ok (.invokevirtual 137, 3) := by decide +kernel
theorem dX6_queue_39 : decode cX6_queue 39 = .ok (.ifCond .le 9, 3) := by decide +kernel
theorem dX6_queue_42 : decode cX6_queue 42 = .ok (.aload_n 0, 1) := by decide +kernel
theorem dX6_queue_43 : decode cX6_queue 43 = .ok (.iconst 3, 1) := by decide +kernel
theorem dX6_queue_44 : decode cX6_queue 44 = .ok (.invokevirtual 96, 3) := by decide +kernel
theorem dX6_queue_47 : decode cX6_queue 47 = .ok (.ireturn, 1) := by decide +kernel
theorem dX6_queue_48 : decode cX6_queue 48 = .ok (.aload_n 0, 1) := by decide +kernel
theorem dX6_queue_49 : decode cX6_queue 49 = .ok (.getfield 75, 3) := by decide +kernel
theorem dX6_queue_52 : decode cX6_queue 52 = .ok (.iload_n 1, 1) := by decide +kernel
theorem dX6_queue_53 : decode cX6_queue 53 = .ok (.bipush 113, 2) := by decide +kernel
theorem dX6_queue_55 : decode cX6_queue 55 = .ok (.castore, 1) := by decide +kernel
theorem dX6_queue_56 : decode cX6_queue 56 = .ok (.aload_n 0, 1) := by decide +kernel
theorem dX6_queue_57 : decode cX6_queue 57 = .ok (.getfield 69, 3) := by decide +kernel
theorem dX6_queue_60 : decode cX6_queue 60 = .ok (.aload_n 0, 1) := by decide +kernel
theorem dX6_queue_61 : decode cX6_queue 61 = .ok (.getfield 143, 3) := by decide +kernel
theorem dX6_queue_64 : decode cX6_queue 64 = .ok (.iload_n 1, 1) := by decide +kernel
theorem dX6_queue_65 : decode cX6_queue 65 = .ok (.iastore, 1) := by decide +kernel
theorem dX6_queue_66 : decode cX6_queue 66 = .ok (.aload_n 0, 1) := by decide +kernel
theorem dX6_queue_67 : decode cX6_queue 67 = .ok (.dup, 1) := by decide +kernel
theorem dX6_queue_68 : decode cX6_queue 68 = .ok (.getfield 143, 3) := by decide +kernel
theorem dX6_queue_71 : decode cX6_queue 71 = .ok (.iconst 1, 1) := by decide +kernel
theorem dX6_queue_72 : decode cX6_queue 72 = .ok (.iadd, 1) := by decide +kernel
theorem dX6_queue_73 : decode cX6_queue 73 = .ok (.putfield 143, 3) := by decide +kernel
theorem dX6_queue_76 : decode cX6_queue 76 = .ok (.aload_n 0, 1) := by decide +kernel
theorem dX6_queue_77 : decode cX6_queue 77 = .ok (.getfield 143, 3) := by decide +kernel
theorem dX6_queue_80 : decode cX6_queue 80 = .ok (.ireturn, 1) := by decide +kernel
theorem dX6_leaves_0 : decode cX6_leaves 0 = .ok (.iconst 0, 1) := by decide +kernel
theorem dX6_leaves_1 : decode cX6_leaves 1 = .ok (.istore_n 2, 1) := by decide +kernel
theorem dX6_leaves_2 : decode cX6_leaves 2 = .ok (.aload_n 0, 1) := by decide +kernel
theorem dX6_leaves_3 : decode cX6_leaves 3 = .ok (.getfield 69, 3) := by decide +kernel
theorem dX6_leaves_6 : decode cX6_leaves 6 = .ok (.iload_n 2, 1) := by decide +kernel
theorem dX6_leaves_7 : decode cX6_leaves 7 = .ok (.iaload, 1) := by decide +kernel
theorem dX6_leaves_8 : decode cX6_leaves 8 = .ok (.iload_n 1, 1) := by decide +kernel
theorem dX6_leaves_9 : decode cX6_leaves 9 = .ok (.if_icmp .eq 9, 3) := by decide +kernel
theorem dX6_leaves_12 : decode cX6_leaves 12 = .ok (.iinc 2 1, 3) := by decide +kernel
theorem dX6_leaves_15 : decode cX6_leaves 15 = .ok (.goto (-13), 3) := by decide +kernel
theorem dX6_leaves_18 : decode cX6_leaves 18 = .ok (.aload_n 0, 1) := by decide +kernel
theorem dX6_leaves_19 : decode cX6_leaves 19 = .ok (.dup, 1) := by decide +kernel
theorem dX6_leaves_20 : decode cX6_leaves 20 = .ok (.getfield 143, 3) := by decide +kernel
theorem dX6_leaves_23 : decode cX6_leaves 23 = .ok (.iconst 1, 1) := by decide +kernel
theorem dX6_leaves_24 : decode cX6_leaves 24 = .ok (.isub, 1) := by decide +kernel
theorem dX6_leaves_25 : decode cX6_leaves 25 = .ok (.putfield 143, 3) := by decide +kernel
theorem dX6_leaves_28 : decode cX6_leaves 28 = .ok (.iload_n 2, 1) := by decide +kernel
theorem dX6_leaves_29 : decode cX6_leaves 29 = .ok (.aload_n 0, 1) := by decide +kernel
theorem dX6_leaves_30 : decode cX6_leaves 30 = .ok (.getfield 143, 3) := by decide +kernel
theorem dX6_leaves_33 : decode cX6_leaves 33 = .ok (.if_icmp .ge 23, 3) := by decide +kernel
theorem dX6_leaves_36 : decode cX6_leaves 36 = .ok (.aload_n 0, 1) := by decide +kernel
theorem dX6_leaves_37 : decode cX6_leaves 37 = .ok (.getfield 69, 3) := by decide +kernel
theorem dX6_leaves_40 : decode cX6_leaves 40 = .ok (.iload_n 2, 1) := by decide +kernel
theorem dX6_leaves_41 : decode cX6_leaves 41 = .ok (.aload_n 0, 1) := by decide +kernel
theorem dX6_leaves_42 : decode cX6_leaves 42 = .ok (.getfield 69, 3) := by decide +kernel
theorem dX6_leaves_45 : decode cX6_leaves 45 = .ok (.iload_n 2, 1) := by decide +kernel
theorem dX6_leaves_46 : decode cX6_leaves 46 = .ok (.iconst 1, 1) := by decide +kernel
theorem dX6_leaves_47 : decode cX6_leaves 47 = .ok (.iadd, 1) := by decide +kernel
theorem dX6_leaves_48 : decode cX6_leaves 48 = .ok (.iaload, 1) := by decide +kernel
theorem dX6_leaves_49 : decode cX6_leaves 49 = .ok (.iastore, 1) := by decide +kernel
theorem dX6_leaves_50 : decode cX6_leaves 50 = .ok (.iinc 2 1, 3) := by decide +kernel
theorem dX6_leaves_53 : decode cX6_leaves 53 = .ok (.goto (-25), 3) := by decide +kernel
theorem dX6_leaves_56 : decode cX6_leaves 56 = .ok (.return_, 1) := by decide +kernel
theorem dX6_unqueue_0 : decode cX6_unqueue 0 = .ok (.aload_n 0, 1) := by decide +kernel
theorem dX6_unqueue_1 : decode cX6_unqueue 1 = .ok (.iload_n 1, 1) := by decide +kernel
theorem dX6_unqueue_2 : decode cX6_unqueue 2 = .ok (.bipush 113, 2) := by decide +kernel
theorem dX6_unqueue_4 : decode cX6_unqueue 4 = .ok (.invokevirtual 116, 3) := by decide +kernel
theorem dX6_unqueue_7 : decode cX6_unqueue 7 = .ok (.ifCond .eq 5, 3) := by decide +kernel
theorem dX6_unqueue_10 : decode cX6_unqueue 10 = .ok (.iconst 0, 1) := by decide +kernel
theorem dX6_unqueue_11 : decode cX6_unqueue 11 = .ok (.ireturn, 1) := by decide +kernel
theorem dX6_unqueue_12 : decode cX6_unqueue 12 = .ok (.aload_n 0, 1) := by decide +kernel
theorem dX6_unqueue_13 : decode cX6_unqueue 13 = .ok (.iload_n 1, 1) := by decide +kernel
theorem dX6_unqueue_14 : decode cX6_unqueue 14 = .ok (.invokevirtual 146, 3) := by decide +kernel
theorem dX6_unqueue_17 : decode cX6_unqueue 17 = .ok (.aload_n 0, 1) := by decide +kernel
theorem dX6_unqueue_18 : decode cX6_unqueue 18 = .ok (.getfield 75, 3) := by decide +kernel
theorem dX6_unqueue_21 : decode cX6_unqueue 21 = .ok (.iload_n 1, 1) := by decide +kernel
theorem dX6_unqueue_22 : decode cX6_unqueue 22 = .ok (.bipush 111, 2) := by decide +kernel
theorem dX6_unqueue_24 : decode cX6_unqueue 24 = .ok (.castore, 1) := by decide +kernel
theorem dX6_unqueue_25 : decode cX6_unqueue 25 = .ok (.aload_n 0, 1) := by decide +kernel
theorem dX6_unqueue_26 : decode cX6_unqueue 26 = .ok (.getfield 143, 3) := by decide +kernel
theorem dX6_unqueue_29 : decode cX6_unqueue 29 = .ok (.ireturn, 1) := by decide +kernel
theorem dX6_queueAt_0 : decode cX6_queueAt 0 = .ok (.aload_n 0, 1) := by decide +kernel
theorem dX6_queueAt_1 : decode cX6_queueAt 1 = .ok (.iconst 0, 1) := by decide +kernel
theorem dX6_queueAt_2 : decode cX6_queueAt 2 = .ok (.putfield 1, 3) := by decide +kernel
theorem dX6_queueAt_5 : decode cX6_queueAt 5 = .ok (.iload_n 1, 1) := by decide +kernel
theorem dX6_queueAt_6 : decode cX6_queueAt 6 = .ok (.iconst 0, 1) := by decide +kernel
theorem dX6_queueAt_7 : decode cX6_queueAt 7 = .ok (.aload_n 0, 1) := by decide +kernel
theorem dX6_queueAt_8 : decode cX6_queueAt 8 = .ok (.getfield 143, 3) := by decide +kernel
theorem dX6_queueAt_11 : decode cX6_queueAt 11 = .ok (.iconst 1, 1) := by decide +kernel
theorem dX6_queueAt_12 : decode cX6_queueAt 12 = .ok (.isub, 1) := by decide +kernel
theorem dX6_queueAt_13 : decode cX6_queueAt 13 = .ok (.invokestatic 7, 3) := by decide +kernel
theorem dX6_queueAt_16 : decode cX6_queueAt 16 = .ok (.ifCond .eq 12, 3) := by decide +kernel
theorem dX6_queueAt_19 : decode cX6_queueAt 19 = .ok (.aload_n 0, 1) := by decide +kernel
theorem dX6_queueAt_20 : decode cX6_queueAt 20 = .ok (.getfield 69, 3) := by decide +kernel
theorem dX6_queueAt_23 : decode cX6_queueAt 23 = .ok (.iload_n 1, 1) := by decide +kernel
theorem dX6_queueAt_24 : decode cX6_queueAt 24 = .ok (.iaload, 1) := by decide +kernel
theorem dX6_queueAt_25 : decode cX6_queueAt 25 = .ok (.goto 8, 3) := by decide +kernel
theorem dX6_queueAt_28 : decode cX6_queueAt 28 = .ok (.aload_n 0, 1) := by decide +kernel
theorem dX6_queueAt_29 : decode cX6_queueAt 29 = .ok (.iconst 1, 1) := by decide +kernel
theorem dX6_queueAt_30 : decode cX6_queueAt 30 = .ok (.invokevirtual 96, 3) := by decide +kernel
theorem dX6_queueAt_33 : decode cX6_queueAt 33 = .ok (.ireturn, 1) := by decide +kernel
theorem dX6_counts_0 : decode cX6_counts 0 = .ok (.aload_n 0, 1) := by decide +kernel
theorem dX6_counts_1 : decode cX6_counts 1 = .ok (.getfield 30, 3) := by decide +kernel
theorem dX6_counts_4 : decode cX6_counts 4 = .ok (.iload_n 1, 1) := by decide +kernel
theorem dX6_counts_5 : decode cX6_counts 5 = .ok (.baload, 1) := by decide +kernel
theorem dX6_counts_6 : decode cX6_counts 6 = .ok (.ifCond .ne 20, 3) := by decide +kernel
theorem dX6_counts_9 : decode cX6_counts 9 = .ok (.aload_n 0, 1) := by decide +kernel
theorem dX6_counts_10 : decode cX6_counts 10 = .ok (.getfield 21, 3) := by decide +kernel
theorem dX6_counts_13 : decode cX6_counts 13 = .ok (.iload_n 1, 1) := by decide +kernel
theorem dX6_counts_14 : decode cX6_counts 14 = .ok (.iaload, 1) := by decide +kernel
theorem dX6_counts_15 : decode cX6_counts 15 = .ok (.invokestatic 120, 3) := by decide +kernel
theorem dX6_counts_18 : decode cX6_counts 18 = .ok (.iload_n 2, 1) := by decide +kernel
theorem dX6_counts_19 : decode cX6_counts 19 = .ok (.if_icmp .ne 7, 3) := by decide +kernel
theorem dX6_counts_22 : decode cX6_counts 22 = .ok (.iconst 1, 1) := by decide +kernel
theorem dX6_counts_23 : decode cX6_counts 23 = .ok (.goto 4, 3) := by decide +kernel
theorem dX6_counts_26 : decode cX6_counts 26 = .ok (.iconst 0, 1) := by decide +kernel
theorem dX6_counts_27 : decode cX6_counts 27 = .ok (.ireturn, 1) := by decide +kernel
theorem dX6_isGoodOn_0 : decode cX6_isGoodOn 0 = .ok (.iconst 0, 1) := by decide +kernel
theorem dX6_isGoodOn_1 : decode cX6_isGoodOn 1 = .ok (.istore_n 3, 1) := by decide +kernel
theorem dX6_isGoodOn_2 : decode cX6_isGoodOn 2 = .ok (.iload_n 3, 1) := by decide +kernel
theorem dX6_isGoodOn_3 : decode cX6_isGoodOn 3 = .ok (.aload_n 0, 1) := by decide +kernel
theorem dX6_isGoodOn_4 : decode cX6_isGoodOn 4 = .ok (.getfield 150, 3) := by decide +kernel
theorem dX6_isGoodOn_7 : decode cX6_isGoodOn 7 = .ok (.if_icmp .ge 46, 3) := by decide +kernel
theorem dX6_isGoodOn_10 : decode cX6_isGoodOn 10 = .ok (.aload_n 0, 1) := by decide +kernel
theorem dX6_isGoodOn_11 : decode cX6_isGoodOn 11 = .ok (.iload_n 3, 1) := by decide +kernel
theorem dX6_isGoodOn_12 : decode cX6_isGoodOn 12 = .ok (.iload_n 2, 1) := by decide +kernel
theorem dX6_isGoodOn_13 : decode cX6_isGoodOn 13 = .ok (.invokevirtual 153, 3) := by decide +kernel
theorem dX6_isGoodOn_16 : decode cX6_isGoodOn 16 = .ok (.ifCond .eq 31, 3) := by decide +kernel
theorem dX6_isGoodOn_19 : decode cX6_isGoodOn 19 = .ok (.aload_n 1, 1) := by decide +kernel
theorem dX6_isGoodOn_20 : decode cX6_isGoodOn 20 = .ok (.aload_n 0, 1) := by decide +kernel
theorem dX6_isGoodOn_21 : decode cX6_isGoodOn 21 = .ok (.getfield 21, 3) := by decide +kernel
theorem dX6_isGoodOn_24 : decode cX6_isGoodOn 24 = .ok (.iload_n 3, 1) := by decide +kernel
theorem dX6_isGoodOn_25 : decode cX6_isGoodOn 25 = .ok (.iaload, 1) := by decide +kernel
theorem dX6_isGoodOn_26 : decode cX6_isGoodOn 26 = .ok (.iaload, 1) := by decide +kernel
theorem dX6_isGoodOn_27 : decode cX6_isGoodOn 27 = .ok (.aload_n 1, 1) := by decide +kernel
theorem dX6_isGoodOn_28 : decode cX6_isGoodOn 28 = .ok (.aload_n 0, 1) := by decide +kernel
theorem dX6_isGoodOn_29 : decode cX6_isGoodOn 29 = .ok (.getfield 24, 3) := by decide +kernel
theorem dX6_isGoodOn_32 : decode cX6_isGoodOn 32 = .ok (.iload_n 3, 1) := by decide +kernel
theorem dX6_isGoodOn_33 : decode cX6_isGoodOn 33 = .ok (.iaload, 1) := by decide +kernel
theorem dX6_isGoodOn_34 : decode cX6_isGoodOn 34 = .ok (.iaload, 1) := by decide +kernel
theorem dX6_isGoodOn_35 : decode cX6_isGoodOn 35 = .ok (.iadd, 1) := by decide +kernel
theorem dX6_isGoodOn_36 : decode cX6_isGoodOn 36 = .ok (.aload_n 0, 1) := by decide +kernel
theorem dX6_isGoodOn_37 : decode cX6_isGoodOn 37 = .ok (.getfield 27, 3) := by decide +kernel
theorem dX6_isGoodOn_40 : decode cX6_isGoodOn 40 = .ok (.iload_n 3, 1) := by decide +kernel
theorem dX6_isGoodOn_41 : decode cX6_isGoodOn 41 = .ok (.iaload, 1) := by decide +kernel
theorem dX6_isGoodOn_42 : decode cX6_isGoodOn 42 = .ok (.if_icmp .le 5, 3) := by decide +kernel
theorem dX6_isGoodOn_45 : decode cX6_isGoodOn 45 = .ok (.iconst 0, 1) := by decide +kernel
theorem dX6_isGoodOn_46 : decode cX6_isGoodOn 46 = .ok (.ireturn, 1) := by decide +kernel
theorem dX6_isGoodOn_47 : decode cX6_isGoodOn 47 = .ok (.iinc 3 1, 3) := by decide +kernel
theorem dX6_isGoodOn_50 : decode cX6_isGoodOn 50 = .ok (.goto (-48), 3) := by decide +kernel
theorem dX6_isGoodOn_53 : decode cX6_isGoodOn 53 = .ok (.iconst 1, 1) := by decide +kernel
theorem dX6_isGoodOn_54 : decode cX6_isGoodOn 54 = .ok (.ireturn, 1) := by decide +kernel
theorem dX6_inputs_0 : decode cX6_inputs 0 = .ok (.iconst 0, 1) := by decide +kernel
theorem dX6_inputs_1 : decode cX6_inputs 1 = .ok (.istore_n 3, 1) := by decide +kernel
theorem dX6_inputs_2 : decode cX6_inputs 2 = .ok (.iconst 0, 1) := by decide +kernel
theorem dX6_inputs_3 : decode cX6_inputs 3 = .ok (.istore 4, 2) := by decide +kernel
theorem dX6_inputs_5 : decode cX6_inputs 5 = .ok (.iload 4, 2) := by decide +kernel
theorem dX6_inputs_7 : decode cX6_inputs 7 = .ok (.aload_n 0, 1) := by decide +kernel
theorem dX6_inputs_8 : decode cX6_inputs 8 = .ok (.getfield 150, 3) := by decide +kernel
theorem dX6_inputs_11 : decode cX6_inputs 11 = .ok (.if_icmp .ge 27, 3) := by decide +kernel
theorem dX6_inputs_14 : decode cX6_inputs 14 = .ok (.iload_n 3, 1) := by decide +kernel
theorem dX6_inputs_15 : decode cX6_inputs 15 = .ok (.aload_n 0, 1) := by decide +kernel
theorem dX6_inputs_16 : decode cX6_inputs 16 = .ok (.iload 4, 2) := by decide +kernel
theorem dX6_inputs_18 : decode cX6_inputs 18 = .ok (.iload_n 2, 1) := by decide +kernel
theorem dX6_inputs_19 : decode cX6_inputs 19 = .ok (.invokevirtual 153, 3) := by decide +kernel
theorem dX6_inputs_22 : decode cX6_inputs 22 = .ok (.ifCond .eq 7, 3) := by decide +kernel
theorem dX6_inputs_25 : decode cX6_inputs 25 = .ok (.iconst 1, 1) := by decide +kernel
theorem dX6_inputs_26 : decode cX6_inputs 26 = .ok (.goto 4, 3) := by decide +kernel
theorem dX6_inputs_29 : decode cX6_inputs 29 = .ok (.iconst 0, 1) := by decide +kernel
theorem dX6_inputs_30 : decode cX6_inputs 30 = .ok (.iadd, 1) := by decide +kernel
theorem dX6_inputs_31 : decode cX6_inputs 31 = .ok (.istore_n 3, 1) := by decide +kernel
theorem dX6_inputs_32 : decode cX6_inputs 32 = .ok (.iinc 4 1, 3) := by decide +kernel
theorem dX6_inputs_35 : decode cX6_inputs 35 = .ok (.goto (-30), 3) := by decide +kernel
theorem dX6_inputs_38 : decode cX6_inputs 38 = .ok (.iload_n 3, 1) := by decide +kernel
theorem dX6_inputs_39 : decode cX6_inputs 39 = .ok (.ifCond .ne 5, 3) := by decide +kernel
theorem dX6_inputs_42 : decode cX6_inputs 42 = .ok (.aconst_null, 1) := by decide +kernel
theorem dX6_inputs_43 : decode cX6_inputs 43 = .ok (.areturn, 1) := by decide +kernel
theorem dX6_inputs_44 : decode cX6_inputs 44 = .ok (.iconst 2, 1) := by decide +kernel
theorem dX6_inputs_45 : decode cX6_inputs 45 = .ok (.iconst 2, 1) := by decide +kernel
theorem dX6_inputs_46 : decode cX6_inputs 46 = .ok (.iload_n 3, 1) := by decide +kernel
theorem dX6_inputs_47 : decode cX6_inputs 47 = .ok (.imul, 1) := by decide +kernel
theorem dX6_inputs_48 : decode cX6_inputs 48 = .ok (.iadd, 1) := by decide +kernel
theorem dX6_inputs_49 : decode cX6_inputs 49 = .ok (.newarray .int, 2) := by decide +kernel
theorem dX6_inputs_51 : decode cX6_inputs 51 = .ok (.astore 4, 2) := by decide +kernel
theorem dX6_inputs_53 : decode cX6_inputs 53 = .ok (.aload 4, 2) := by decide +kernel
theorem dX6_inputs_55 : decode cX6_inputs 55 = .ok (.iconst 0, 1) := by decide +kernel
theorem dX6_inputs_56 : decode cX6_inputs 56 = .ok (.iload_n 2, 1) := by decide +kernel
theorem dX6_inputs_57 : decode cX6_inputs 57 = .ok (.iastore, 1) := by decide +kernel
theorem dX6_inputs_58 : decode cX6_inputs 58 = .ok (.aload 4, 2) := by decide +kernel
theorem dX6_inputs_60 : decode cX6_inputs 60 = .ok (.iconst 1, 1) := by decide +kernel
theorem dX6_inputs_61 : decode cX6_inputs 61 = .ok (.aload_n 0, 1) := by decide +kernel
theorem dX6_inputs_62 : decode cX6_inputs 62 = .ok (.aload_n 1, 1) := by decide +kernel
theorem dX6_inputs_63 : decode cX6_inputs 63 = .ok (.iload_n 2, 1) := by decide +kernel
theorem dX6_inputs_64 : decode cX6_inputs 64 = .ok (.invokevirtual 156, 3) := by decide +kernel
theorem dX6_inputs_67 : decode cX6_inputs 67 = .ok (.ifCond .eq 7, 3) := by decide +kernel
theorem dX6_inputs_70 : decode cX6_inputs 70 = .ok (.iconst 1, 1) := by decide +kernel
theorem dX6_inputs_71 : decode cX6_inputs 71 = .ok (.goto 4, 3) := by decide +kernel
theorem dX6_inputs_74 : decode cX6_inputs 74 = .ok (.iconst 0, 1) := by decide +kernel
theorem dX6_inputs_75 : decode cX6_inputs 75 = .ok (.iastore, 1) := by decide +kernel
theorem dX6_inputs_76 : decode cX6_inputs 76 = .ok (.iconst 2, 1) := by decide +kernel
theorem dX6_inputs_77 : decode cX6_inputs 77 = .ok (.istore 5, 2) := by decide +kernel
theorem dX6_inputs_79 : decode cX6_inputs 79 = .ok (.iconst 0, 1) := by decide +kernel
theorem dX6_inputs_80 : decode cX6_inputs 80 = .ok (.istore 6, 2) := by decide +kernel
theorem dX6_inputs_82 : decode cX6_inputs 82 = .ok (.iload 6, 2) := by decide +kernel
theorem dX6_inputs_84 : decode cX6_inputs 84 = .ok (.aload_n 0, 1) := by decide +kernel
theorem dX6_inputs_85 : decode cX6_inputs 85 = .ok (.getfield 150, 3) := by decide +kernel
theorem dX6_inputs_88 : decode cX6_inputs 88 = .ok (.if_icmp .ge 55, 3) := by decide +kernel
theorem dX6_inputs_91 : decode cX6_inputs 91 = .ok (.aload_n 0, 1) := by decide +kernel
theorem dX6_inputs_92 : decode cX6_inputs 92 = .ok (.iload 6, 2) := by decide +kernel
theorem dX6_inputs_94 : decode cX6_inputs 94 = .ok (.iload_n 2, 1) := by decide +kernel
theorem dX6_inputs_95 : decode cX6_inputs 95 = .ok (.invokevirtual 153, 3) := by decide +kernel
theorem dX6_inputs_98 : decode cX6_inputs 98 = .ok (.ifCond .ne 6, 3) := by decide +kernel
theorem dX6_inputs_101 : decode cX6_inputs 101 = .ok (.goto 36, 3) := by decide +kernel
theorem dX6_inputs_104 : decode cX6_inputs 104 = .ok (.aload 4, 2) := by decide +kernel
theorem dX6_inputs_106 : decode cX6_inputs 106 = .ok (.iload 5, 2) := by decide +kernel
theorem dX6_inputs_108 : decode cX6_inputs 108 = .ok (.aload_n 1, 1) := by decide +kernel
theorem dX6_inputs_109 : decode cX6_inputs 109 = .ok (.aload_n 0, 1) := by decide +kernel
theorem dX6_inputs_110 : decode cX6_inputs 110 = .ok (.getfield 21, 3) := by decide +kernel
theorem dX6_inputs_113 : decode cX6_inputs 113 = .ok (.iload 6, 2) := by decide +kernel
theorem dX6_inputs_115 : decode cX6_inputs 115 = .ok (.iaload, 1) := by decide +kernel
theorem dX6_inputs_116 : decode cX6_inputs 116 = .ok (.iaload, 1) := by decide +kernel
theorem dX6_inputs_117 : decode cX6_inputs 117 = .ok (.iastore, 1) := by decide +kernel
theorem dX6_inputs_118 : decode cX6_inputs 118 = .ok (.aload 4, 2) := by decide +kernel
theorem dX6_inputs_120 : decode cX6_inputs 120 = .ok (.iload 5, 2) := by decide +kernel
theorem dX6_inputs_122 : decode cX6_inputs 122 = .ok (.iconst 1, 1) := by decide +kernel
theorem dX6_inputs_123 : decode cX6_inputs 123 = .ok (.iadd, 1) := by decide +kernel
theorem dX6_inputs_124 : decode cX6_inputs 124 = .ok (.aload_n 1, 1) := by decide +kernel
theorem dX6_inputs_125 : decode cX6_inputs 125 = .ok (.aload_n 0, 1) := by decide +kernel
theorem dX6_inputs_126 : decode cX6_inputs 126 = .ok (.getfield 24, 3) := by decide +kernel
theorem dX6_inputs_129 : decode cX6_inputs 129 = .ok (.iload 6, 2) := by decide +kernel
theorem dX6_inputs_131 : decode cX6_inputs 131 = .ok (.iaload, 1) := by decide +kernel
theorem dX6_inputs_132 : decode cX6_inputs 132 = .ok (.iaload, 1) := by decide +kernel
theorem dX6_inputs_133 : decode cX6_inputs 133 = .ok (.iastore, 1) := by decide +kernel
theorem dX6_inputs_134 : decode cX6_inputs 134 = .ok (.iinc 5 2, 3) := by decide +kernel
theorem dX6_inputs_137 : decode cX6_inputs 137 = .ok (.iinc 6 1, 3) := by decide +kernel
theorem dX6_inputs_140 : decode cX6_inputs 140 = .ok (.goto (-58), 3) := by decide +kernel
theorem dX6_inputs_143 : decode cX6_inputs 143 = .ok (.aload 4, 2) := by decide +kernel
theorem dX6_inputs_145 : decode cX6_inputs 145 = .ok (.areturn, 1) := by decide +kernel
theorem dX6_isKept_0 : decode cX6_isKept 0 = .ok (.aload_n 0, 1) := by decide +kernel
theorem dX6_isKept_1 : decode cX6_isKept 1 = .ok (.getfield 85, 3) := by decide +kernel
theorem dX6_isKept_4 : decode cX6_isKept 4 = .ok (.invokevirtual 160, 3) := by decide +kernel
theorem dX6_isKept_7 : decode cX6_isKept 7 = .ok (.astore_n 2, 1) := by decide +kernel
theorem dX6_isKept_8 : decode cX6_isKept 8 = .ok (.aload_n 2, 1) := by decide +kernel
theorem dX6_isKept_9 : decode cX6_isKept 9 = .ok (.invokeinterface 164 1, 5) := by decide +kernel
theorem dX6_isKept_14 : decode cX6_isKept 14 = .ok (.ifCond .eq 76, 3) := by decide +kernel
theorem dX6_isKept_17 : decode cX6_isKept 17 = .ok (.aload_n 2, 1) := by decide +kernel
theorem dX6_isKept_18 : decode cX6_isKept 18 = .ok (.invokeinterface 170 1, 5) := by decide +kernel
theorem dX6_isKept_23 : decode cX6_isKept 23 = .ok (.checkcast 174, 3) := by decide +kernel
theorem dX6_isKept_26 : decode cX6_isKept 26 = .ok (.astore_n 3, 1) := by decide +kernel
theorem dX6_isKept_27 : decode cX6_isKept 27 = .ok (.aload_n 3, 1) := by decide +kernel
theorem dX6_isKept_28 : decode cX6_isKept 28 = .ok (.arraylength, 1) := by decide +kernel
theorem dX6_isKept_29 : decode cX6_isKept 29 = .ok (.aload_n 1, 1) := by decide +kernel
theorem dX6_isKept_30 : decode cX6_isKept 30 = .ok (.arraylength, 1) := by decide +kernel
theorem dX6_isKept_31 : decode cX6_isKept 31 = .ok (.if_icmp .ne 7, 3) := by decide +kernel
theorem dX6_isKept_34 : decode cX6_isKept 34 = .ok (.iconst 1, 1) := by decide +kernel
theorem dX6_isKept_35 : decode cX6_isKept 35 = .ok (.goto 4, 3) := by decide +kernel
theorem dX6_isKept_38 : decode cX6_isKept 38 = .ok (.iconst 0, 1) := by decide +kernel
theorem dX6_isKept_39 : decode cX6_isKept 39 = .ok (.istore 4, 2) := by decide +kernel
theorem dX6_isKept_41 : decode cX6_isKept 41 = .ok (.iconst 0, 1) := by decide +kernel
theorem dX6_isKept_42 : decode cX6_isKept 42 = .ok (.istore 5, 2) := by decide +kernel
theorem dX6_isKept_44 : decode cX6_isKept 44 = .ok (.iload 4, 2) := by decide +kernel
theorem dX6_isKept_46 : decode cX6_isKept 46 = .ok (.ifCond .eq 34, 3) := by decide +kernel
theorem dX6_isKept_49 : decode cX6_isKept 49 = .ok (.iload 5, 2) := by decide +kernel
theorem dX6_isKept_51 : decode cX6_isKept 51 = .ok (.aload_n 1, 1) := by decide +kernel
theorem dX6_isKept_52 : decode cX6_isKept 52 = .ok (.arraylength, 1) := by decide +kernel
theorem dX6_isKept_53 : decode cX6_isKept 53 = .ok (.if_icmp .ge 27, 3) := by decide +kernel
theorem dX6_isKept_56 : decode cX6_isKept 56 = .ok (.aload_n 3, 1) := by decide +kernel
theorem dX6_isKept_57 : decode cX6_isKept 57 = .ok (.iload 5, 2) := by decide +kernel
theorem dX6_isKept_59 : decode cX6_isKept 59 = .ok (.iaload, 1) := by decide +kernel
theorem dX6_isKept_60 : decode cX6_isKept 60 = .ok (.aload_n 1, 1) := by decide +kernel
theorem dX6_isKept_61 : decode cX6_isKept 61 = .ok (.iload 5, 2) := by decide +kernel
theorem dX6_isKept_63 : decode cX6_isKept 63 = .ok (.iaload, 1) := by decide +kernel
theorem dX6_isKept_64 : decode cX6_isKept 64 = .ok (.if_icmp .ne 7, 3) := by decide +kernel
theorem dX6_isKept_67 : decode cX6_isKept 67 = .ok (.iconst 1, 1) := by decide +kernel
theorem dX6_isKept_68 : decode cX6_isKept 68 = .ok (.goto 4, 3) := by decide +kernel
theorem dX6_isKept_71 : decode cX6_isKept 71 = .ok (.iconst 0, 1) := by decide +kernel
theorem dX6_isKept_72 : decode cX6_isKept 72 = .ok (.istore 4, 2) := by decide +kernel
theorem dX6_isKept_74 : decode cX6_isKept 74 = .ok (.iinc 5 1, 3) := by decide +kernel
theorem dX6_isKept_77 : decode cX6_isKept 77 = .ok (.goto (-33), 3) := by decide +kernel
theorem dX6_isKept_80 : decode cX6_isKept 80 = .ok (.iload 4, 2) := by decide +kernel
theorem dX6_isKept_82 : decode cX6_isKept 82 = .ok (.ifCond .eq 5, 3) := by decide +kernel
theorem dX6_isKept_85 : decode cX6_isKept 85 = .ok (.iconst 1, 1) := by decide +kernel
theorem dX6_isKept_86 : decode cX6_isKept 86 = .ok (.ireturn, 1) := by decide +kernel
theorem dX6_isKept_87 : decode cX6_isKept 87 = .ok (.goto (-79), 3) := by decide +kernel
theorem dX6_isKept_90 : decode cX6_isKept 90 = .ok (.iconst 0, 1) := by decide +kernel
theorem dX6_isKept_91 : decode cX6_isKept 91 = .ok (.ireturn, 1) := by decide +kernel
theorem dX6_isBuilt_0 : decode cX6_isBuilt 0 = .ok (.iconst 0, 1) := by decide +kernel
theorem dX6_isBuilt_1 : decode cX6_isBuilt 1 = .ok (.istore_n 2, 1) := by decide +kernel
theorem dX6_isBuilt_2 : decode cX6_isBuilt 2 = .ok (.iload_n 2, 1) := by decide +kernel
theorem dX6_isBuilt_3 : decode cX6_isBuilt 3 = .ok (.iconst 4, 1) := by decide +kernel
theorem dX6_isBuilt_4 : decode cX6_isBuilt 4 = .ok (.if_icmp .ge 71, 3) := by decide +kernel
theorem dX6_isBuilt_7 : decode cX6_isBuilt 7 = .ok (.aload_n 0, 1) := by decide +kernel
theorem dX6_isBuilt_8 : decode cX6_isBuilt 8 = .ok (.aload_n 1, 1) := by decide +kernel
theorem dX6_isBuilt_9 : decode cX6_isBuilt 9 = .ok (.iload_n 2, 1) := by decide +kernel
theorem dX6_isBuilt_10 : decode cX6_isBuilt 10 = .ok (.invokevirtual 175, 3) := by decide +kernel
theorem dX6_isBuilt_13 : decode cX6_isBuilt 13 = .ok (.astore_n 3, 1) := by decide +kernel
theorem dX6_isBuilt_14 : decode cX6_isBuilt 14 = .ok (.aload_n 3, 1) := by decide +kernel
theorem dX6_isBuilt_15 : decode cX6_isBuilt 15 = .ok (.ifnonnull 6, 3) := by decide +kernel
theorem dX6_isBuilt_18 : decode cX6_isBuilt 18 = .ok (.goto 51, 3) := by decide +kernel
theorem dX6_isBuilt_21 : decode cX6_isBuilt 21 = .ok (.aload_n 0, 1) := by decide +kernel
theorem dX6_isBuilt_22 : decode cX6_isBuilt 22 = .ok (.aload_n 3, 1) := by decide +kernel
theorem dX6_isBuilt_23 : decode cX6_isBuilt 23 = .ok (.invokevirtual 179, 3) := by decide +kernel
theorem dX6_isBuilt_26 : decode cX6_isBuilt 26 = .ok (.ifCond .eq 16, 3) := by decide +kernel
theorem dX6_isBuilt_29 : decode cX6_isBuilt 29 = .ok (.aload_n 0, 1) := by decide +kernel
theorem dX6_isBuilt_30 : decode cX6_isBuilt 30 = .ok (.dup, 1) := by decide +kernel
theorem dX6_isBuilt_31 : decode cX6_isBuilt 31 = .ok (.getfield 183, 3) := by decide +kernel
theorem dX6_isBuilt_34 : decode cX6_isBuilt 34 = .ok (.lconst 1, 1) := by decide +kernel
theorem dX6_isBuilt_35 : decode cX6_isBuilt 35 = .ok (.ladd, 1) := by decide +kernel
theorem dX6_isBuilt_36 : decode cX6_isBuilt 36 = .ok (.putfield 183, 3) := by decide +kernel
theorem dX6_isBuilt_39 : decode cX6_isBuilt 39 = .ok (.goto 22, 3) := by decide +kernel
theorem dX6_isBuilt_42 : decode cX6_isBuilt 42 = .ok (.aload_n 0, 1) := by decide +kernel
theorem dX6_isBuilt_43 : decode cX6_isBuilt 43 = .ok (.dup, 1) := by decide +kernel
theorem dX6_isBuilt_44 : decode cX6_isBuilt 44 = .ok (.getfield 187, 3) := by decide +kernel
theorem dX6_isBuilt_47 : decode cX6_isBuilt 47 = .ok (.iconst 1, 1) := by decide +kernel
theorem dX6_isBuilt_48 : decode cX6_isBuilt 48 = .ok (.iadd, 1) := by decide +kernel
theorem dX6_isBuilt_49 : decode cX6_isBuilt 49 = .ok (.putfield 187, 3) := by decide +kernel
theorem dX6_isBuilt_52 : decode cX6_isBuilt 52 = .ok (.aload_n 0, 1) := by decide +kernel
end
section
theorem dX6_isBuilt_53 : decode cX6_isBuilt 53 = .ok (.getfield 85, 3) := by decide +kernel
theorem dX6_isBuilt_56 : decode cX6_isBuilt 56 = .ok (.aload_n 3, 1) := by decide +kernel
theorem dX6_isBuilt_57 : decode cX6_isBuilt 57 = .ok (.invokevirtual 190, 3) := by decide +kernel
theorem dX6_isBuilt_60 : decode cX6_isBuilt 60 = .ok (.pop, 1) := by decide +kernel
theorem dX6_isBuilt_61 : decode cX6_isBuilt 61 = .ok (.aload_n 3, 1) := by decide +kernel
theorem dX6_isBuilt_62 : decode cX6_isBuilt 62 = .ok (.iconst 1, 1) := by decide +kernel
theorem dX6_isBuilt_63 : decode cX6_isBuilt 63 = .ok (.iaload, 1) := by decide +kernel
theorem dX6_isBuilt_64 : decode cX6_isBuilt 64 = .ok (.ifCond .ne 5, 3) := by decide +kernel
theorem dX6_isBuilt_67 : decode cX6_isBuilt 67 = .ok (.iconst 0, 1) := by decide +kernel
theorem dX6_isBuilt_68 : decode cX6_isBuilt 68 = .ok (.ireturn, 1) := by decide +kernel
theorem dX6_isBuilt_69 : decode cX6_isBuilt 69 = .ok (.iinc 2 1, 3) := by decide +kernel
theorem dX6_isBuilt_72 : decode cX6_isBuilt 72 = .ok (.goto (-70), 3) := by decide +kernel
theorem dX6_isBuilt_75 : decode cX6_isBuilt 75 = .ok (.iconst 1, 1) := by decide +kernel
theorem dX6_isBuilt_76 : decode cX6_isBuilt 76 = .ok (.ireturn, 1) := by decide +kernel
theorem dX6_shares_0 : decode cX6_shares 0 = .ok (.iconst 0, 1) := by decide +kernel
theorem dX6_shares_1 : decode cX6_shares 1 = .ok (.istore_n 3, 1) := by decide +kernel
theorem dX6_shares_2 : decode cX6_shares 2 = .ok (.iload_n 3, 1) := by decide +kernel
theorem dX6_shares_3 : decode cX6_shares 3 = .ok (.bipush 64, 2) := by decide +kernel
theorem dX6_shares_5 : decode cX6_shares 5 = .ok (.if_icmp .ge 33, 3) := by decide +kernel
theorem dX6_shares_8 : decode cX6_shares 8 = .ok (.aload_n 0, 1) := by decide +kernel
theorem dX6_shares_9 : decode cX6_shares 9 = .ok (.getfield 48, 3) := by decide +kernel
theorem dX6_shares_12 : decode cX6_shares 12 = .ok (.iload_n 1, 1) := by decide +kernel
theorem dX6_shares_13 : decode cX6_shares 13 = .ok (.aaload, 1) := by decide +kernel
theorem dX6_shares_14 : decode cX6_shares 14 = .ok (.iload_n 3, 1) := by decide +kernel
theorem dX6_shares_15 : decode cX6_shares 15 = .ok (.iaload, 1) := by decide +kernel
theorem dX6_shares_16 : decode cX6_shares 16 = .ok (.ifCond .lt 16, 3) := by decide +kernel
theorem dX6_shares_19 : decode cX6_shares 19 = .ok (.aload_n 0, 1) := by decide +kernel
theorem dX6_shares_20 : decode cX6_shares 20 = .ok (.getfield 48, 3) := by decide +kernel
theorem dX6_shares_23 : decode cX6_shares 23 = .ok (.iload_n 2, 1) := by decide +kernel
theorem dX6_shares_24 : decode cX6_shares 24 = .ok (.aaload, 1) := by decide +kernel
theorem dX6_shares_25 : decode cX6_shares 25 = .ok (.iload_n 3, 1) := by decide +kernel
theorem dX6_shares_26 : decode cX6_shares 26 = .ok (.iaload, 1) := by decide +kernel
theorem dX6_shares_27 : decode cX6_shares 27 = .ok (.ifCond .lt 5, 3) := by decide +kernel
theorem dX6_shares_30 : decode cX6_shares 30 = .ok (.iconst 1, 1) := by decide +kernel
theorem dX6_shares_31 : decode cX6_shares 31 = .ok (.ireturn, 1) := by decide +kernel
theorem dX6_shares_32 : decode cX6_shares 32 = .ok (.iinc 3 1, 3) := by decide +kernel
theorem dX6_shares_35 : decode cX6_shares 35 = .ok (.goto (-33), 3) := by decide +kernel
theorem dX6_shares_38 : decode cX6_shares 38 = .ok (.iconst 0, 1) := by decide +kernel
theorem dX6_shares_39 : decode cX6_shares 39 = .ok (.ireturn, 1) := by decide +kernel
theorem dX6_isHeld_0 : decode cX6_isHeld 0 = .ok (.iconst 0, 1) := by decide +kernel
theorem dX6_isHeld_1 : decode cX6_isHeld 1 = .ok (.istore_n 2, 1) := by decide +kernel
theorem dX6_isHeld_2 : decode cX6_isHeld 2 = .ok (.iload_n 2, 1) := by decide +kernel
theorem dX6_isHeld_3 : decode cX6_isHeld 3 = .ok (.iconst 4, 1) := by decide +kernel
theorem dX6_isHeld_4 : decode cX6_isHeld 4 = .ok (.if_icmp .ge 29, 3) := by decide +kernel
theorem dX6_isHeld_7 : decode cX6_isHeld 7 = .ok (.aload_n 0, 1) := by decide +kernel
theorem dX6_isHeld_8 : decode cX6_isHeld 8 = .ok (.getfield 40, 3) := by decide +kernel
theorem dX6_isHeld_11 : decode cX6_isHeld 11 = .ok (.iload_n 2, 1) := by decide +kernel
theorem dX6_isHeld_12 : decode cX6_isHeld 12 = .ok (.baload, 1) := by decide +kernel
theorem dX6_isHeld_13 : decode cX6_isHeld 13 = .ok (.ifCond .eq 14, 3) := by decide +kernel
theorem dX6_isHeld_16 : decode cX6_isHeld 16 = .ok (.aload_n 0, 1) := by decide +kernel
theorem dX6_isHeld_17 : decode cX6_isHeld 17 = .ok (.iload_n 1, 1) := by decide +kernel
theorem dX6_isHeld_18 : decode cX6_isHeld 18 = .ok (.iload_n 2, 1) := by decide +kernel
theorem dX6_isHeld_19 : decode cX6_isHeld 19 = .ok (.invokevirtual 123, 3) := by decide +kernel
theorem dX6_isHeld_22 : decode cX6_isHeld 22 = .ok (.ifCond .eq 5, 3) := by decide +kernel
theorem dX6_isHeld_25 : decode cX6_isHeld 25 = .ok (.iconst 1, 1) := by decide +kernel
theorem dX6_isHeld_26 : decode cX6_isHeld 26 = .ok (.ireturn, 1) := by decide +kernel
theorem dX6_isHeld_27 : decode cX6_isHeld 27 = .ok (.iinc 2 1, 3) := by decide +kernel
theorem dX6_isHeld_30 : decode cX6_isHeld 30 = .ok (.goto (-28), 3) := by decide +kernel
theorem dX6_isHeld_33 : decode cX6_isHeld 33 = .ok (.iconst 0, 1) := by decide +kernel
theorem dX6_isHeld_34 : decode cX6_isHeld 34 = .ok (.ireturn, 1) := by decide +kernel
theorem dX6_lays_0 : decode cX6_lays 0 = .ok (.iconst 0, 1) := by decide +kernel
theorem dX6_lays_1 : decode cX6_lays 1 = .ok (.istore_n 3, 1) := by decide +kernel
theorem dX6_lays_2 : decode cX6_lays 2 = .ok (.iload_n 3, 1) := by decide +kernel
theorem dX6_lays_3 : decode cX6_lays 3 = .ok (.bipush 64, 2) := by decide +kernel
theorem dX6_lays_5 : decode cX6_lays 5 = .ok (.if_icmp .ge 37, 3) := by decide +kernel
theorem dX6_lays_8 : decode cX6_lays 8 = .ok (.aload_n 2, 1) := by decide +kernel
theorem dX6_lays_9 : decode cX6_lays 9 = .ok (.iload_n 3, 1) := by decide +kernel
theorem dX6_lays_10 : decode cX6_lays 10 = .ok (.aload_n 0, 1) := by decide +kernel
theorem dX6_lays_11 : decode cX6_lays 11 = .ok (.getfield 48, 3) := by decide +kernel
theorem dX6_lays_14 : decode cX6_lays 14 = .ok (.iload_n 1, 1) := by decide +kernel
theorem dX6_lays_15 : decode cX6_lays 15 = .ok (.aaload, 1) := by decide +kernel
theorem dX6_lays_16 : decode cX6_lays 16 = .ok (.iload_n 3, 1) := by decide +kernel
theorem dX6_lays_17 : decode cX6_lays 17 = .ok (.iaload, 1) := by decide +kernel
theorem dX6_lays_18 : decode cX6_lays 18 = .ok (.ifCond .ge 9, 3) := by decide +kernel
theorem dX6_lays_21 : decode cX6_lays 21 = .ok (.aload_n 2, 1) := by decide +kernel
theorem dX6_lays_22 : decode cX6_lays 22 = .ok (.iload_n 3, 1) := by decide +kernel
theorem dX6_lays_23 : decode cX6_lays 23 = .ok (.iaload, 1) := by decide +kernel
theorem dX6_lays_24 : decode cX6_lays 24 = .ok (.goto 11, 3) := by decide +kernel
theorem dX6_lays_27 : decode cX6_lays 27 = .ok (.aload_n 0, 1) := by decide +kernel
theorem dX6_lays_28 : decode cX6_lays 28 = .ok (.getfield 48, 3) := by decide +kernel
theorem dX6_lays_31 : decode cX6_lays 31 = .ok (.iload_n 1, 1) := by decide +kernel
theorem dX6_lays_32 : decode cX6_lays 32 = .ok (.aaload, 1) := by decide +kernel
theorem dX6_lays_33 : decode cX6_lays 33 = .ok (.iload_n 3, 1) := by decide +kernel
theorem dX6_lays_34 : decode cX6_lays 34 = .ok (.iaload, 1) := by decide +kernel
theorem dX6_lays_35 : decode cX6_lays 35 = .ok (.iastore, 1) := by decide +kernel
theorem dX6_lays_36 : decode cX6_lays 36 = .ok (.iinc 3 1, 3) := by decide +kernel
theorem dX6_lays_39 : decode cX6_lays 39 = .ok (.goto (-37), 3) := by decide +kernel
theorem dX6_lays_42 : decode cX6_lays 42 = .ok (.return_, 1) := by decide +kernel
theorem dX6_merges_0 : decode cX6_merges 0 = .ok (.aload_n 0, 1) := by decide +kernel
theorem dX6_merges_1 : decode cX6_merges 1 = .ok (.iload_n 1, 1) := by decide +kernel
theorem dX6_merges_2 : decode cX6_merges 2 = .ok (.invokevirtual 146, 3) := by decide +kernel
theorem dX6_merges_5 : decode cX6_merges 5 = .ok (.aload_n 0, 1) := by decide +kernel
theorem dX6_merges_6 : decode cX6_merges 6 = .ok (.getfield 75, 3) := by decide +kernel
theorem dX6_merges_9 : decode cX6_merges 9 = .ok (.iload_n 1, 1) := by decide +kernel
theorem dX6_merges_10 : decode cX6_merges 10 = .ok (.bipush 109, 2) := by decide +kernel
theorem dX6_merges_12 : decode cX6_merges 12 = .ok (.castore, 1) := by decide +kernel
theorem dX6_merges_13 : decode cX6_merges 13 = .ok (.aload_n 0, 1) := by decide +kernel
theorem dX6_merges_14 : decode cX6_merges 14 = .ok (.getfield 79, 3) := by decide +kernel
theorem dX6_merges_17 : decode cX6_merges 17 = .ok (.iload_n 1, 1) := by decide +kernel
theorem dX6_merges_18 : decode cX6_merges 18 = .ok (.iconst 0, 1) := by decide +kernel
theorem dX6_merges_19 : decode cX6_merges 19 = .ok (.bastore, 1) := by decide +kernel
theorem dX6_merges_20 : decode cX6_merges 20 = .ok (.aload_n 0, 1) := by decide +kernel
theorem dX6_merges_21 : decode cX6_merges 21 = .ok (.iload_n 1, 1) := by decide +kernel
theorem dX6_merges_22 : decode cX6_merges 22 = .ok (.aload_n 0, 1) := by decide +kernel
theorem dX6_merges_23 : decode cX6_merges 23 = .ok (.getfield 17, 3) := by decide +kernel
theorem dX6_merges_26 : decode cX6_merges 26 = .ok (.invokevirtual 194, 3) := by decide +kernel
theorem dX6_merges_29 : decode cX6_merges 29 = .ok (.aload_n 0, 1) := by decide +kernel
theorem dX6_merges_30 : decode cX6_merges 30 = .ok (.getfield 72, 3) := by decide +kernel
theorem dX6_merges_33 : decode cX6_merges 33 = .ok (.aload_n 0, 1) := by decide +kernel
theorem dX6_merges_34 : decode cX6_merges 34 = .ok (.getfield 198, 3) := by decide +kernel
theorem dX6_merges_37 : decode cX6_merges 37 = .ok (.iload_n 1, 1) := by decide +kernel
theorem dX6_merges_38 : decode cX6_merges 38 = .ok (.iastore, 1) := by decide +kernel
theorem dX6_merges_39 : decode cX6_merges 39 = .ok (.aload_n 0, 1) := by decide +kernel
theorem dX6_merges_40 : decode cX6_merges 40 = .ok (.dup, 1) := by decide +kernel
theorem dX6_merges_41 : decode cX6_merges 41 = .ok (.getfield 198, 3) := by decide +kernel
theorem dX6_merges_44 : decode cX6_merges 44 = .ok (.iconst 1, 1) := by decide +kernel
theorem dX6_merges_45 : decode cX6_merges 45 = .ok (.iadd, 1) := by decide +kernel
theorem dX6_merges_46 : decode cX6_merges 46 = .ok (.putfield 198, 3) := by decide +kernel
theorem dX6_merges_49 : decode cX6_merges 49 = .ok (.iconst 0, 1) := by decide +kernel
theorem dX6_merges_50 : decode cX6_merges 50 = .ok (.istore_n 2, 1) := by decide +kernel
theorem dX6_merges_51 : decode cX6_merges 51 = .ok (.iload_n 2, 1) := by decide +kernel
theorem dX6_merges_52 : decode cX6_merges 52 = .ok (.aload_n 0, 1) := by decide +kernel
theorem dX6_merges_53 : decode cX6_merges 53 = .ok (.getfield 89, 3) := by decide +kernel
theorem dX6_merges_56 : decode cX6_merges 56 = .ok (.if_icmp .ge 119, 3) := by decide +kernel
theorem dX6_merges_59 : decode cX6_merges 59 = .ok (.aload_n 0, 1) := by decide +kernel
theorem dX6_merges_60 : decode cX6_merges 60 = .ok (.getfield 75, 3) := by decide +kernel
theorem dX6_merges_63 : decode cX6_merges 63 = .ok (.iload_n 2, 1) := by decide +kernel
theorem dX6_merges_64 : decode cX6_merges 64 = .ok (.caload, 1) := by decide +kernel
theorem dX6_merges_65 : decode cX6_merges 65 = .ok (.bipush 111, 2) := by decide +kernel
theorem dX6_merges_67 : decode cX6_merges 67 = .ok (.if_icmp .eq 14, 3) := by decide +kernel
theorem dX6_merges_70 : decode cX6_merges 70 = .ok (.aload_n 0, 1) := by decide +kernel
theorem dX6_merges_71 : decode cX6_merges 71 = .ok (.getfield 75, 3) := by decide +kernel
theorem dX6_merges_74 : decode cX6_merges 74 = .ok (.iload_n 2, 1) := by decide +kernel
theorem dX6_merges_75 : decode cX6_merges 75 = .ok (.caload, 1) := by decide +kernel
theorem dX6_merges_76 : decode cX6_merges 76 = .ok (.bipush 113, 2) := by decide +kernel
theorem dX6_merges_78 : decode cX6_merges 78 = .ok (.if_icmp .ne 91, 3) := by decide +kernel
theorem dX6_merges_81 : decode cX6_merges 81 = .ok (.aload_n 0, 1) := by decide +kernel
theorem dX6_merges_82 : decode cX6_merges 82 = .ok (.iload_n 1, 1) := by decide +kernel
theorem dX6_merges_83 : decode cX6_merges 83 = .ok (.iload_n 2, 1) := by decide +kernel
theorem dX6_merges_84 : decode cX6_merges 84 = .ok (.invokevirtual 201, 3) := by decide +kernel
theorem dX6_merges_87 : decode cX6_merges 87 = .ok (.ifCond .ne 6, 3) := by decide +kernel
theorem dX6_merges_90 : decode cX6_merges 90 = .ok (.goto 79, 3) := by decide +kernel
theorem dX6_merges_93 : decode cX6_merges 93 = .ok (.iconst 0, 1) := by decide +kernel
theorem dX6_merges_94 : decode cX6_merges 94 = .ok (.istore_n 3, 1) := by decide +kernel
theorem dX6_merges_95 : decode cX6_merges 95 = .ok (.iload_n 3, 1) := by decide +kernel
theorem dX6_merges_96 : decode cX6_merges 96 = .ok (.bipush 64, 2) := by decide +kernel
theorem dX6_merges_98 : decode cX6_merges 98 = .ok (.if_icmp .ge 47, 3) := by decide +kernel
theorem dX6_merges_101 : decode cX6_merges 101 = .ok (.aload_n 0, 1) := by decide +kernel
theorem dX6_merges_102 : decode cX6_merges 102 = .ok (.getfield 53, 3) := by decide +kernel
theorem dX6_merges_105 : decode cX6_merges 105 = .ok (.iload_n 2, 1) := by decide +kernel
theorem dX6_merges_106 : decode cX6_merges 106 = .ok (.aaload, 1) := by decide +kernel
theorem dX6_merges_107 : decode cX6_merges 107 = .ok (.iload_n 3, 1) := by decide +kernel
theorem dX6_merges_108 : decode cX6_merges 108 = .ok (.dup2, 1) := by decide +kernel
theorem dX6_merges_109 : decode cX6_merges 109 = .ok (.baload, 1) := by decide +kernel
theorem dX6_merges_110 : decode cX6_merges 110 = .ok (.aload_n 0, 1) := by decide +kernel
theorem dX6_merges_111 : decode cX6_merges 111 = .ok (.getfield 48, 3) := by decide +kernel
theorem dX6_merges_114 : decode cX6_merges 114 = .ok (.iload_n 1, 1) := by decide +kernel
theorem dX6_merges_115 : decode cX6_merges 115 = .ok (.aaload, 1) := by decide +kernel
theorem dX6_merges_116 : decode cX6_merges 116 = .ok (.iload_n 3, 1) := by decide +kernel
theorem dX6_merges_117 : decode cX6_merges 117 = .ok (.iaload, 1) := by decide +kernel
theorem dX6_merges_118 : decode cX6_merges 118 = .ok (.ifCond .lt 18, 3) := by decide +kernel
theorem dX6_merges_121 : decode cX6_merges 121 = .ok (.aload_n 0, 1) := by decide +kernel
theorem dX6_merges_122 : decode cX6_merges 122 = .ok (.getfield 48, 3) := by decide +kernel
theorem dX6_merges_125 : decode cX6_merges 125 = .ok (.iload_n 2, 1) := by decide +kernel
theorem dX6_merges_126 : decode cX6_merges 126 = .ok (.aaload, 1) := by decide +kernel
theorem dX6_merges_127 : decode cX6_merges 127 = .ok (.iload_n 3, 1) := by decide +kernel
theorem dX6_merges_128 : decode cX6_merges 128 = .ok (.iaload, 1) := by decide +kernel
theorem dX6_merges_129 : decode cX6_merges 129 = .ok (.ifCond .lt 7, 3) := by decide +kernel
theorem dX6_merges_132 : decode cX6_merges 132 = .ok (.iconst 1, 1) := by decide +kernel
theorem dX6_merges_133 : decode cX6_merges 133 = .ok (.goto 4, 3) := by decide +kernel
theorem dX6_merges_136 : decode cX6_merges 136 = .ok (.iconst 0, 1) := by decide +kernel
theorem dX6_merges_137 : decode cX6_merges 137 = .ok (.ior, 1) := by decide +kernel
theorem dX6_merges_138 : decode cX6_merges 138 = .ok (.bastore, 1) := by decide +kernel
theorem dX6_merges_139 : decode cX6_merges 139 = .ok (.iinc 3 1, 3) := by decide +kernel
theorem dX6_merges_142 : decode cX6_merges 142 = .ok (.goto (-47), 3) := by decide +kernel
theorem dX6_merges_145 : decode cX6_merges 145 = .ok (.aload_n 0, 1) := by decide +kernel
theorem dX6_merges_146 : decode cX6_merges 146 = .ok (.getfield 75, 3) := by decide +kernel
theorem dX6_merges_149 : decode cX6_merges 149 = .ok (.iload_n 2, 1) := by decide +kernel
theorem dX6_merges_150 : decode cX6_merges 150 = .ok (.caload, 1) := by decide +kernel
theorem dX6_merges_151 : decode cX6_merges 151 = .ok (.bipush 113, 2) := by decide +kernel
theorem dX6_merges_153 : decode cX6_merges 153 = .ok (.if_icmp .ne 16, 3) := by decide +kernel
theorem dX6_merges_156 : decode cX6_merges 156 = .ok (.aload_n 0, 1) := by decide +kernel
theorem dX6_merges_157 : decode cX6_merges 157 = .ok (.iload_n 2, 1) := by decide +kernel
theorem dX6_merges_158 : decode cX6_merges 158 = .ok (.invokevirtual 146, 3) := by decide +kernel
theorem dX6_merges_161 : decode cX6_merges 161 = .ok (.aload_n 0, 1) := by decide +kernel
theorem dX6_merges_162 : decode cX6_merges 162 = .ok (.getfield 75, 3) := by decide +kernel
theorem dX6_merges_165 : decode cX6_merges 165 = .ok (.iload_n 2, 1) := by decide +kernel
theorem dX6_merges_166 : decode cX6_merges 166 = .ok (.bipush 111, 2) := by decide +kernel
theorem dX6_merges_168 : decode cX6_merges 168 = .ok (.castore, 1) := by decide +kernel
theorem dX6_merges_169 : decode cX6_merges 169 = .ok (.iinc 2 1, 3) := by decide +kernel
theorem dX6_merges_172 : decode cX6_merges 172 = .ok (.goto (-121), 3) := by decide +kernel
theorem dX6_merges_175 : decode cX6_merges 175 = .ok (.return_, 1) := by decide +kernel
theorem dX6_tries_0 : decode cX6_tries 0 = .ok (.bipush 64, 2) := by decide +kernel
theorem dX6_tries_2 : decode cX6_tries 2 = .ok (.newarray .int, 2) := by decide +kernel
theorem dX6_tries_4 : decode cX6_tries 4 = .ok (.astore 4, 2) := by decide +kernel
theorem dX6_tries_6 : decode cX6_tries 6 = .ok (.iconst 0, 1) := by decide +kernel
theorem dX6_tries_7 : decode cX6_tries 7 = .ok (.istore 5, 2) := by decide +kernel
theorem dX6_tries_9 : decode cX6_tries 9 = .ok (.iload 5, 2) := by decide +kernel
theorem dX6_tries_11 : decode cX6_tries 11 = .ok (.bipush 64, 2) := by decide +kernel
theorem dX6_tries_13 : decode cX6_tries 13 = .ok (.if_icmp .ge 21, 3) := by decide +kernel
theorem dX6_tries_16 : decode cX6_tries 16 = .ok (.aload 4, 2) := by decide +kernel
theorem dX6_tries_18 : decode cX6_tries 18 = .ok (.iload 5, 2) := by decide +kernel
theorem dX6_tries_20 : decode cX6_tries 20 = .ok (.aload_n 0, 1) := by decide +kernel
theorem dX6_tries_21 : decode cX6_tries 21 = .ok (.getfield 17, 3) := by decide +kernel
theorem dX6_tries_24 : decode cX6_tries 24 = .ok (.iload 5, 2) := by decide +kernel
theorem dX6_tries_26 : decode cX6_tries 26 = .ok (.iaload, 1) := by decide +kernel
theorem dX6_tries_27 : decode cX6_tries 27 = .ok (.iastore, 1) := by decide +kernel
theorem dX6_tries_28 : decode cX6_tries 28 = .ok (.iinc 5 1, 3) := by decide +kernel
theorem dX6_tries_31 : decode cX6_tries 31 = .ok (.goto (-22), 3) := by decide +kernel
theorem dX6_tries_34 : decode cX6_tries 34 = .ok (.iload_n 2, 1) := by decide +kernel
theorem dX6_tries_35 : decode cX6_tries 35 = .ok (.istore 5, 2) := by decide +kernel
theorem dX6_tries_37 : decode cX6_tries 37 = .ok (.iload 5, 2) := by decide +kernel
theorem dX6_tries_39 : decode cX6_tries 39 = .ok (.iload_n 3, 1) := by decide +kernel
theorem dX6_tries_40 : decode cX6_tries 40 = .ok (.if_icmp .ge 19, 3) := by decide +kernel
theorem dX6_tries_43 : decode cX6_tries 43 = .ok (.aload_n 0, 1) := by decide +kernel
theorem dX6_tries_44 : decode cX6_tries 44 = .ok (.aload_n 1, 1) := by decide +kernel
theorem dX6_tries_45 : decode cX6_tries 45 = .ok (.iload 5, 2) := by decide +kernel
theorem dX6_tries_47 : decode cX6_tries 47 = .ok (.iaload, 1) := by decide +kernel
theorem dX6_tries_48 : decode cX6_tries 48 = .ok (.aload 4, 2) := by decide +kernel
theorem dX6_tries_50 : decode cX6_tries 50 = .ok (.invokevirtual 194, 3) := by decide +kernel
theorem dX6_tries_53 : decode cX6_tries 53 = .ok (.iinc 5 1, 3) := by decide +kernel
theorem dX6_tries_56 : decode cX6_tries 56 = .ok (.goto (-19), 3) := by decide +kernel
theorem dX6_tries_59 : decode cX6_tries 59 = .ok (.aload_n 0, 1) := by decide +kernel
theorem dX6_tries_60 : decode cX6_tries 60 = .ok (.aload 4, 2) := by decide +kernel
theorem dX6_tries_62 : decode cX6_tries 62 = .ok (.invokevirtual 204, 3) := by decide +kernel
theorem dX6_tries_65 : decode cX6_tries 65 = .ok (.istore 5, 2) := by decide +kernel
theorem dX6_tries_67 : decode cX6_tries 67 = .ok (.iload_n 3, 1) := by decide +kernel
theorem dX6_tries_68 : decode cX6_tries 68 = .ok (.iload_n 2, 1) := by decide +kernel
theorem dX6_tries_69 : decode cX6_tries 69 = .ok (.isub, 1) := by decide +kernel
theorem dX6_tries_70 : decode cX6_tries 70 = .ok (.iconst 1, 1) := by decide +kernel
theorem dX6_tries_71 : decode cX6_tries 71 = .ok (.if_icmp .ne 24, 3) := by decide +kernel
theorem dX6_tries_74 : decode cX6_tries 74 = .ok (.aload_n 0, 1) := by decide +kernel
theorem dX6_tries_75 : decode cX6_tries 75 = .ok (.getfield 79, 3) := by decide +kernel
theorem dX6_tries_78 : decode cX6_tries 78 = .ok (.aload_n 1, 1) := by decide +kernel
theorem dX6_tries_79 : decode cX6_tries 79 = .ok (.iload_n 2, 1) := by decide +kernel
theorem dX6_tries_80 : decode cX6_tries 80 = .ok (.iaload, 1) := by decide +kernel
theorem dX6_tries_81 : decode cX6_tries 81 = .ok (.dup2, 1) := by decide +kernel
theorem dX6_tries_82 : decode cX6_tries 82 = .ok (.baload, 1) := by decide +kernel
theorem dX6_tries_83 : decode cX6_tries 83 = .ok (.iload 5, 2) := by decide +kernel
theorem dX6_tries_85 : decode cX6_tries 85 = .ok (.ifCond .ne 7, 3) := by decide +kernel
theorem dX6_tries_88 : decode cX6_tries 88 = .ok (.iconst 1, 1) := by decide +kernel
theorem dX6_tries_89 : decode cX6_tries 89 = .ok (.goto 4, 3) := by decide +kernel
theorem dX6_tries_92 : decode cX6_tries 92 = .ok (.iconst 0, 1) := by decide +kernel
theorem dX6_tries_93 : decode cX6_tries 93 = .ok (.ior, 1) := by decide +kernel
theorem dX6_tries_94 : decode cX6_tries 94 = .ok (.bastore, 1) := by decide +kernel
theorem dX6_tries_95 : decode cX6_tries 95 = .ok (.iload 5, 2) := by decide +kernel
theorem dX6_tries_97 : decode cX6_tries 97 = .ok (.ifCond .eq 30, 3) := by decide +kernel
theorem dX6_tries_100 : decode cX6_tries 100 = .ok (.iload_n 2, 1) := by decide +kernel
theorem dX6_tries_101 : decode cX6_tries 101 = .ok (.istore 6, 2) := by decide +kernel
theorem dX6_tries_103 : decode cX6_tries 103 = .ok (.iload 6, 2) := by decide +kernel
theorem dX6_tries_105 : decode cX6_tries 105 = .ok (.iload_n 3, 1) := by decide +kernel
theorem dX6_tries_106 : decode cX6_tries 106 = .ok (.if_icmp .ge 17, 3) := by decide +kernel
theorem dX6_tries_109 : decode cX6_tries 109 = .ok (.aload_n 0, 1) := by decide +kernel
theorem dX6_tries_110 : decode cX6_tries 110 = .ok (.aload_n 1, 1) := by decide +kernel
theorem dX6_tries_111 : decode cX6_tries 111 = .ok (.iload 6, 2) := by decide +kernel
theorem dX6_tries_113 : decode cX6_tries 113 = .ok (.iaload, 1) := by decide +kernel
theorem dX6_tries_114 : decode cX6_tries 114 = .ok (.invokevirtual 207, 3) := by decide +kernel
theorem dX6_tries_117 : decode cX6_tries 117 = .ok (.iinc 6 1, 3) := by decide +kernel
theorem dX6_tries_120 : decode cX6_tries 120 = .ok (.goto (-17), 3) := by decide +kernel
theorem dX6_tries_123 : decode cX6_tries 123 = .ok (.iload_n 3, 1) := by decide +kernel
theorem dX6_tries_124 : decode cX6_tries 124 = .ok (.iload_n 2, 1) := by decide +kernel
theorem dX6_tries_125 : decode cX6_tries 125 = .ok (.isub, 1) := by decide +kernel
theorem dX6_tries_126 : decode cX6_tries 126 = .ok (.ireturn, 1) := by decide +kernel
theorem dX6_tries_127 : decode cX6_tries 127 = .ok (.iload_n 3, 1) := by decide +kernel
theorem dX6_tries_128 : decode cX6_tries 128 = .ok (.iload_n 2, 1) := by decide +kernel
theorem dX6_tries_129 : decode cX6_tries 129 = .ok (.isub, 1) := by decide +kernel
theorem dX6_tries_130 : decode cX6_tries 130 = .ok (.iconst 1, 1) := by decide +kernel
theorem dX6_tries_131 : decode cX6_tries 131 = .ok (.if_icmp .ne 22, 3) := by decide +kernel
theorem dX6_tries_134 : decode cX6_tries 134 = .ok (.aload_n 0, 1) := by decide +kernel
theorem dX6_tries_135 : decode cX6_tries 135 = .ok (.aload_n 1, 1) := by decide +kernel
theorem dX6_tries_136 : decode cX6_tries 136 = .ok (.iload_n 2, 1) := by decide +kernel
theorem dX6_tries_137 : decode cX6_tries 137 = .ok (.iaload, 1) := by decide +kernel
theorem dX6_tries_138 : decode cX6_tries 138 = .ok (.invokevirtual 146, 3) := by decide +kernel
theorem dX6_tries_141 : decode cX6_tries 141 = .ok (.aload_n 0, 1) := by decide +kernel
theorem dX6_tries_142 : decode cX6_tries 142 = .ok (.getfield 75, 3) := by decide +kernel
theorem dX6_tries_145 : decode cX6_tries 145 = .ok (.aload_n 1, 1) := by decide +kernel
theorem dX6_tries_146 : decode cX6_tries 146 = .ok (.iload_n 2, 1) := by decide +kernel
theorem dX6_tries_147 : decode cX6_tries 147 = .ok (.iaload, 1) := by decide +kernel
theorem dX6_tries_148 : decode cX6_tries 148 = .ok (.bipush 111, 2) := by decide +kernel
theorem dX6_tries_150 : decode cX6_tries 150 = .ok (.castore, 1) := by decide +kernel
theorem dX6_tries_151 : decode cX6_tries 151 = .ok (.iconst 0, 1) := by decide +kernel
theorem dX6_tries_152 : decode cX6_tries 152 = .ok (.ireturn, 1) := by decide +kernel
theorem dX6_tries_153 : decode cX6_tries 153 = .ok (.iload_n 2, 1) := by decide +kernel
theorem dX6_tries_154 : decode cX6_tries 154 = .ok (.iload_n 3, 1) := by decide +kernel
theorem dX6_tries_155 : decode cX6_tries 155 = .ok (.iload_n 2, 1) := by decide +kernel
theorem dX6_tries_156 : decode cX6_tries 156 = .ok (.isub, 1) := by decide +kernel
theorem dX6_tries_157 : decode cX6_tries 157 = .ok (.iconst 2, 1) := by decide +kernel
theorem dX6_tries_158 : decode cX6_tries 158 = .ok (.idiv, 1) := by decide +kernel
theorem dX6_tries_159 : decode cX6_tries 159 = .ok (.iadd, 1) := by decide +kernel
theorem dX6_tries_160 : decode cX6_tries 160 = .ok (.istore 6, 2) := by decide +kernel
theorem dX6_tries_162 : decode cX6_tries 162 = .ok (.aload_n 0, 1) := by decide +kernel
theorem dX6_tries_163 : decode cX6_tries 163 = .ok (.aload_n 1, 1) := by decide +kernel
theorem dX6_tries_164 : decode cX6_tries 164 = .ok (.iload_n 2, 1) := by decide +kernel
theorem dX6_tries_165 : decode cX6_tries 165 = .ok (.iload 6, 2) := by decide +kernel
theorem dX6_tries_167 : decode cX6_tries 167 = .ok (.invokevirtual 210, 3) := by decide +kernel
theorem dX6_tries_170 : decode cX6_tries 170 = .ok (.istore 7, 2) := by decide +kernel
theorem dX6_tries_172 : decode cX6_tries 172 = .ok (.iload 7, 2) := by decide +kernel
theorem dX6_tries_174 : decode cX6_tries 174 = .ok (.aload_n 0, 1) := by decide +kernel
theorem dX6_tries_175 : decode cX6_tries 175 = .ok (.aload_n 1, 1) := by decide +kernel
theorem dX6_tries_176 : decode cX6_tries 176 = .ok (.iload 6, 2) := by decide +kernel
theorem dX6_tries_178 : decode cX6_tries 178 = .ok (.iload_n 3, 1) := by decide +kernel
theorem dX6_tries_179 : decode cX6_tries 179 = .ok (.invokevirtual 210, 3) := by decide +kernel
theorem dX6_tries_182 : decode cX6_tries 182 = .ok (.iadd, 1) := by decide +kernel
theorem dX6_tries_183 : decode cX6_tries 183 = .ok (.ireturn, 1) := by decide +kernel
theorem dX6_step_0 : decode cX6_step 0 = .ok (.aload_n 0, 1) := by decide +kernel
theorem dX6_step_1 : decode cX6_step 1 = .ok (.iconst 0, 1) := by decide +kernel
theorem dX6_step_2 : decode cX6_step 2 = .ok (.putfield 1, 3) := by decide +kernel
theorem dX6_step_5 : decode cX6_step 5 = .ok (.iconst 4, 1) := by decide +kernel
theorem dX6_step_6 : decode cX6_step 6 = .ok (.newarray .int, 2) := by decide +kernel
theorem dX6_step_8 : decode cX6_step 8 = .ok (.astore_n 1, 1) := by decide +kernel
theorem dX6_step_9 : decode cX6_step 9 = .ok (.iconst 0, 1) := by decide +kernel
theorem dX6_step_10 : decode cX6_step 10 = .ok (.istore_n 2, 1) := by decide +kernel
theorem dX6_step_11 : decode cX6_step 11 = .ok (.iconst 0, 1) := by decide +kernel
theorem dX6_step_12 : decode cX6_step 12 = .ok (.istore_n 3, 1) := by decide +kernel
theorem dX6_step_13 : decode cX6_step 13 = .ok (.iload_n 3, 1) := by decide +kernel
theorem dX6_step_14 : decode cX6_step 14 = .ok (.aload_n 0, 1) := by decide +kernel
theorem dX6_step_15 : decode cX6_step 15 = .ok (.getfield 143, 3) := by decide +kernel
theorem dX6_step_18 : decode cX6_step 18 = .ok (.if_icmp .ge 96, 3) := by decide +kernel
theorem dX6_step_21 : decode cX6_step 21 = .ok (.iload_n 2, 1) := by decide +kernel
theorem dX6_step_22 : decode cX6_step 22 = .ok (.iconst 4, 1) := by decide +kernel
theorem dX6_step_23 : decode cX6_step 23 = .ok (.if_icmp .ge 91, 3) := by decide +kernel
theorem dX6_step_26 : decode cX6_step 26 = .ok (.aload_n 0, 1) := by decide +kernel
theorem dX6_step_27 : decode cX6_step 27 = .ok (.aload_n 0, 1) := by decide +kernel
theorem dX6_step_28 : decode cX6_step 28 = .ok (.getfield 69, 3) := by decide +kernel
theorem dX6_step_31 : decode cX6_step 31 = .ok (.iload_n 3, 1) := by decide +kernel
theorem dX6_step_32 : decode cX6_step 32 = .ok (.iaload, 1) := by decide +kernel
theorem dX6_step_33 : decode cX6_step 33 = .ok (.invokevirtual 214, 3) := by decide +kernel
theorem dX6_step_36 : decode cX6_step 36 = .ok (.ifCond .ne 7, 3) := by decide +kernel
theorem dX6_step_39 : decode cX6_step 39 = .ok (.iconst 1, 1) := by decide +kernel
theorem dX6_step_40 : decode cX6_step 40 = .ok (.goto 4, 3) := by decide +kernel
theorem dX6_step_43 : decode cX6_step 43 = .ok (.iconst 0, 1) := by decide +kernel
theorem dX6_step_44 : decode cX6_step 44 = .ok (.istore 4, 2) := by decide +kernel
theorem dX6_step_46 : decode cX6_step 46 = .ok (.iconst 0, 1) := by decide +kernel
theorem dX6_step_47 : decode cX6_step 47 = .ok (.istore 5, 2) := by decide +kernel
theorem dX6_step_49 : decode cX6_step 49 = .ok (.iload 5, 2) := by decide +kernel
theorem dX6_step_51 : decode cX6_step 51 = .ok (.iload_n 2, 1) := by decide +kernel
theorem dX6_step_52 : decode cX6_step 52 = .ok (.if_icmp .ge 36, 3) := by decide +kernel
theorem dX6_step_55 : decode cX6_step 55 = .ok (.iload 4, 2) := by decide +kernel
theorem dX6_step_57 : decode cX6_step 57 = .ok (.aload_n 0, 1) := by decide +kernel
theorem dX6_step_58 : decode cX6_step 58 = .ok (.aload_n 0, 1) := by decide +kernel
theorem dX6_step_59 : decode cX6_step 59 = .ok (.getfield 69, 3) := by decide +kernel
theorem dX6_step_62 : decode cX6_step 62 = .ok (.iload_n 3, 1) := by decide +kernel
theorem dX6_step_63 : decode cX6_step 63 = .ok (.iaload, 1) := by decide +kernel
theorem dX6_step_64 : decode cX6_step 64 = .ok (.aload_n 1, 1) := by decide +kernel
theorem dX6_step_65 : decode cX6_step 65 = .ok (.iload 5, 2) := by decide +kernel
theorem dX6_step_67 : decode cX6_step 67 = .ok (.iaload, 1) := by decide +kernel
theorem dX6_step_68 : decode cX6_step 68 = .ok (.invokevirtual 201, 3) := by decide +kernel
theorem dX6_step_71 : decode cX6_step 71 = .ok (.ifCond .ne 7, 3) := by decide +kernel
theorem dX6_step_74 : decode cX6_step 74 = .ok (.iconst 1, 1) := by decide +kernel
theorem dX6_step_75 : decode cX6_step 75 = .ok (.goto 4, 3) := by decide +kernel
theorem dX6_step_78 : decode cX6_step 78 = .ok (.iconst 0, 1) := by decide +kernel
theorem dX6_step_79 : decode cX6_step 79 = .ok (.iand, 1) := by decide +kernel
theorem dX6_step_80 : decode cX6_step 80 = .ok (.istore 4, 2) := by decide +kernel
theorem dX6_step_82 : decode cX6_step 82 = .ok (.iinc 5 1, 3) := by decide +kernel
theorem dX6_step_85 : decode cX6_step 85 = .ok (.goto (-36), 3) := by decide +kernel
theorem dX6_step_88 : decode cX6_step 88 = .ok (.iload 4, 2) := by decide +kernel
theorem dX6_step_90 : decode cX6_step 90 = .ok (.ifCond .ne 6, 3) := by decide +kernel
theorem dX6_step_93 : decode cX6_step 93 = .ok (.goto 15, 3) := by decide +kernel
theorem dX6_step_96 : decode cX6_step 96 = .ok (.aload_n 1, 1) := by decide +kernel
theorem dX6_step_97 : decode cX6_step 97 = .ok (.iload_n 2, 1) := by decide +kernel
theorem dX6_step_98 : decode cX6_step 98 = .ok (.aload_n 0, 1) := by decide +kernel
theorem dX6_step_99 : decode cX6_step 99 = .ok (.getfield 69, 3) := by decide +kernel
theorem dX6_step_102 : decode cX6_step 102 = .ok (.iload_n 3, 1) := by decide +kernel
theorem dX6_step_103 : decode cX6_step 103 = .ok (.iaload, 1) := by decide +kernel
theorem dX6_step_104 : decode cX6_step 104 = .ok (.iastore, 1) := by decide +kernel
theorem dX6_step_105 : decode cX6_step 105 = .ok (.iinc 2 1, 3) := by decide +kernel
theorem dX6_step_108 : decode cX6_step 108 = .ok (.iinc 3 1, 3) := by decide +kernel
theorem dX6_step_111 : decode cX6_step 111 = .ok (.goto (-98), 3) := by decide +kernel
theorem dX6_step_114 : decode cX6_step 114 = .ok (.iload_n 2, 1) := by decide +kernel
theorem dX6_step_115 : decode cX6_step 115 = .ok (.ifCond .ne 11, 3) := by decide +kernel
theorem dX6_step_118 : decode cX6_step 118 = .ok (.aload_n 0, 1) := by decide +kernel
theorem dX6_step_119 : decode cX6_step 119 = .ok (.iconst 1, 1) := by decide +kernel
theorem dX6_step_120 : decode cX6_step 120 = .ok (.invokevirtual 96, 3) := by decide +kernel
theorem dX6_step_123 : decode cX6_step 123 = .ok (.goto 10, 3) := by decide +kernel
theorem dX6_step_126 : decode cX6_step 126 = .ok (.aload_n 0, 1) := by decide +kernel
theorem dX6_step_127 : decode cX6_step 127 = .ok (.aload_n 1, 1) := by decide +kernel
theorem dX6_step_128 : decode cX6_step 128 = .ok (.iconst 0, 1) := by decide +kernel
theorem dX6_step_129 : decode cX6_step 129 = .ok (.iload_n 2, 1) := by decide +kernel
theorem dX6_step_130 : decode cX6_step 130 = .ok (.invokevirtual 210, 3) := by decide +kernel
theorem dX6_step_133 : decode cX6_step 133 = .ok (.ireturn, 1) := by decide +kernel
theorem dX6_setFrozen_0 : decode cX6_setFrozen 0 = .ok (.aload_n 0, 1) := by decide +kernel
theorem dX6_setFrozen_1 : decode cX6_setFrozen 1 = .ok (.iconst 0, 1) := by decide +kernel
theorem dX6_setFrozen_2 : decode cX6_setFrozen 2 = .ok (.putfield 1, 3) := by decide +kernel
theorem dX6_setFrozen_5 : decode cX6_setFrozen 5 = .ok (.iload_n 1, 1) := by decide +kernel
theorem dX6_setFrozen_6 : decode cX6_setFrozen 6 = .ok (.invokestatic 92, 3) := by decide +kernel
theorem dX6_setFrozen_9 : decode cX6_setFrozen 9 = .ok (.ifCond .ne 9, 3) := by decide +kernel
theorem dX6_setFrozen_12 : decode cX6_setFrozen 12 = .ok (.aload_n 0, 1) := by decide +kernel
theorem dX6_setFrozen_13 : decode cX6_setFrozen 13 = .ok (.iconst 1, 1) := by decide +kernel
theorem dX6_setFrozen_14 : decode cX6_setFrozen 14 = .ok (.invokevirtual 103, 3) := by decide +kernel
theorem dX6_setFrozen_17 : decode cX6_setFrozen 17 = .ok (.ireturn, 1) := by decide +kernel
theorem dX6_setFrozen_18 : decode cX6_setFrozen 18 = .ok (.aload_n 0, 1) := by decide +kernel
theorem dX6_setFrozen_19 : decode cX6_setFrozen 19 = .ok (.getfield 40, 3) := by decide +kernel
theorem dX6_setFrozen_22 : decode cX6_setFrozen 22 = .ok (.iload_n 1, 1) := by decide +kernel
theorem dX6_setFrozen_23 : decode cX6_setFrozen 23 = .ok (.baload, 1) := by decide +kernel
theorem dX6_setFrozen_24 : decode cX6_setFrozen 24 = .ok (.istore_n 3, 1) := by decide +kernel
theorem dX6_setFrozen_25 : decode cX6_setFrozen 25 = .ok (.aload_n 0, 1) := by decide +kernel
theorem dX6_setFrozen_26 : decode cX6_setFrozen 26 = .ok (.getfield 40, 3) := by decide +kernel
theorem dX6_setFrozen_29 : decode cX6_setFrozen 29 = .ok (.iload_n 1, 1) := by decide +kernel
theorem dX6_setFrozen_30 : decode cX6_setFrozen 30 = .ok (.iload_n 2, 1) := by decide +kernel
theorem dX6_setFrozen_31 : decode cX6_setFrozen 31 = .ok (.bastore, 1) := by decide +kernel
theorem dX6_setFrozen_32 : decode cX6_setFrozen 32 = .ok (.iload_n 3, 1) := by decide +kernel
theorem dX6_setFrozen_33 : decode cX6_setFrozen 33 = .ok (.ireturn, 1) := by decide +kernel
theorem dX6_stateOf_0 : decode cX6_stateOf 0 = .ok (.aload_n 0, 1) := by decide +kernel
theorem dX6_stateOf_1 : decode cX6_stateOf 1 = .ok (.iconst 0, 1) := by decide +kernel
theorem dX6_stateOf_2 : decode cX6_stateOf 2 = .ok (.putfield 1, 3) := by decide +kernel
theorem dX6_stateOf_5 : decode cX6_stateOf 5 = .ok (.aload_n 0, 1) := by decide +kernel
theorem dX6_stateOf_6 : decode cX6_stateOf 6 = .ok (.iload_n 1, 1) := by decide +kernel
theorem dX6_stateOf_7 : decode cX6_stateOf 7 = .ok (.invokevirtual 106, 3) := by decide +kernel
theorem dX6_stateOf_10 : decode cX6_stateOf 10 = .ok (.ifCond .eq 12, 3) := by decide +kernel
theorem dX6_stateOf_13 : decode cX6_stateOf 13 = .ok (.aload_n 0, 1) := by decide +kernel
theorem dX6_stateOf_14 : decode cX6_stateOf 14 = .ok (.getfield 75, 3) := by decide +kernel
theorem dX6_stateOf_17 : decode cX6_stateOf 17 = .ok (.iload_n 1, 1) := by decide +kernel
theorem dX6_stateOf_18 : decode cX6_stateOf 18 = .ok (.caload, 1) := by decide +kernel
theorem dX6_stateOf_19 : decode cX6_stateOf 19 = .ok (.goto 9, 3) := by decide +kernel
theorem dX6_stateOf_22 : decode cX6_stateOf 22 = .ok (.aload_n 0, 1) := by decide +kernel
theorem dX6_stateOf_23 : decode cX6_stateOf 23 = .ok (.iconst 1, 1) := by decide +kernel
theorem dX6_stateOf_24 : decode cX6_stateOf 24 = .ok (.invokevirtual 96, 3) := by decide +kernel
theorem dX6_stateOf_27 : decode cX6_stateOf 27 = .ok (.i2c, 1) := by decide +kernel
theorem dX6_stateOf_28 : decode cX6_stateOf 28 = .ok (.ireturn, 1) := by decide +kernel
theorem dX6_hasFailed_0 : decode cX6_hasFailed 0 = .ok (.aload_n 0, 1) := by decide +kernel
theorem dX6_hasFailed_1 : decode cX6_hasFailed 1 = .ok (.iconst 0, 1) := by decide +kernel
theorem dX6_hasFailed_2 : decode cX6_hasFailed 2 = .ok (.putfield 1, 3) := by decide +kernel
theorem dX6_hasFailed_5 : decode cX6_hasFailed 5 = .ok (.aload_n 0, 1) := by decide +kernel
theorem dX6_hasFailed_6 : decode cX6_hasFailed 6 = .ok (.iload_n 1, 1) := by decide +kernel
theorem dX6_hasFailed_7 : decode cX6_hasFailed 7 = .ok (.invokevirtual 106, 3) := by decide +kernel
theorem dX6_hasFailed_10 : decode cX6_hasFailed 10 = .ok (.ifCond .eq 12, 3) := by decide +kernel
theorem dX6_hasFailed_13 : decode cX6_hasFailed 13 = .ok (.aload_n 0, 1) := by decide +kernel
theorem dX6_hasFailed_14 : decode cX6_hasFailed 14 = .ok (.getfield 79, 3) := by decide +kernel
theorem dX6_hasFailed_17 : decode cX6_hasFailed 17 = .ok (.iload_n 1, 1) := by decide +kernel
theorem dX6_hasFailed_18 : decode cX6_hasFailed 18 = .ok (.baload, 1) := by decide +kernel
theorem dX6_hasFailed_19 : decode cX6_hasFailed 19 = .ok (.goto 8, 3) := by decide +kernel
theorem dX6_hasFailed_22 : decode cX6_hasFailed 22 = .ok (.aload_n 0, 1) := by decide +kernel
theorem dX6_hasFailed_23 : decode cX6_hasFailed 23 = .ok (.iconst 1, 1) := by decide +kernel
theorem dX6_hasFailed_24 : decode cX6_hasFailed 24 = .ok (.invokevirtual 103, 3) := by decide +kernel
theorem dX6_hasFailed_27 : decode cX6_hasFailed 27 = .ok (.ireturn, 1) := by decide +kernel
theorem dX6_clashes_0 : decode cX6_clashes 0 = .ok (.aload_n 0, 1) := by decide +kernel
theorem dX6_clashes_1 : decode cX6_clashes 1 = .ok (.iconst 0, 1) := by decide +kernel
theorem dX6_clashes_2 : decode cX6_clashes 2 = .ok (.putfield 1, 3) := by decide +kernel
theorem dX6_clashes_5 : decode cX6_clashes 5 = .ok (.aload_n 0, 1) := by decide +kernel
theorem dX6_clashes_6 : decode cX6_clashes 6 = .ok (.iload_n 1, 1) := by decide +kernel
theorem dX6_clashes_7 : decode cX6_clashes 7 = .ok (.invokevirtual 106, 3) := by decide +kernel
theorem dX6_clashes_10 : decode cX6_clashes 10 = .ok (.ifCond .eq 11, 3) := by decide +kernel
theorem dX6_clashes_13 : decode cX6_clashes 13 = .ok (.aload_n 0, 1) := by decide +kernel
theorem dX6_clashes_14 : decode cX6_clashes 14 = .ok (.iload_n 1, 1) := by decide +kernel
theorem dX6_clashes_15 : decode cX6_clashes 15 = .ok (.invokevirtual 140, 3) := by decide +kernel
theorem dX6_clashes_18 : decode cX6_clashes 18 = .ok (.goto 8, 3) := by decide +kernel
theorem dX6_clashes_21 : decode cX6_clashes 21 = .ok (.aload_n 0, 1) := by decide +kernel
theorem dX6_clashes_22 : decode cX6_clashes 22 = .ok (.iconst 1, 1) := by decide +kernel
theorem dX6_clashes_23 : decode cX6_clashes 23 = .ok (.invokevirtual 96, 3) := by decide +kernel
theorem dX6_clashes_26 : decode cX6_clashes 26 = .ok (.ireturn, 1) := by decide +kernel
theorem dX6_update_0 : decode cX6_update 0 = .ok (.aload_n 0, 1) := by decide +kernel
theorem dX6_update_1 : decode cX6_update 1 = .ok (.iload_n 1, 1) := by decide +kernel
theorem dX6_update_2 : decode cX6_update 2 = .ok (.bipush 111, 2) := by decide +kernel
theorem dX6_update_4 : decode cX6_update 4 = .ok (.invokevirtual 116, 3) := by decide +kernel
theorem dX6_update_7 : decode cX6_update 7 = .ok (.ifCond .eq 5, 3) := by decide +kernel
theorem dX6_update_10 : decode cX6_update 10 = .ok (.iconst 0, 1) := by decide +kernel
theorem dX6_update_11 : decode cX6_update 11 = .ok (.ireturn, 1) := by decide +kernel
theorem dX6_update_12 : decode cX6_update 12 = .ok (.aload_n 0, 1) := by decide +kernel
theorem dX6_update_13 : decode cX6_update 13 = .ok (.iload_n 1, 1) := by decide +kernel
theorem dX6_update_14 : decode cX6_update 14 = .ok (.invokevirtual 140, 3) := by decide +kernel
theorem dX6_update_17 : decode cX6_update 17 = .ok (.istore_n 2, 1) := by decide +kernel
theorem dX6_update_18 : decode cX6_update 18 = .ok (.iconst 0, 1) := by decide +kernel
theorem dX6_update_19 : decode cX6_update 19 = .ok (.istore_n 3, 1) := by decide +kernel
theorem dX6_update_20 : decode cX6_update 20 = .ok (.iload_n 3, 1) := by decide +kernel
theorem dX6_update_21 : decode cX6_update 21 = .ok (.bipush 64, 2) := by decide +kernel
theorem dX6_update_23 : decode cX6_update 23 = .ok (.if_icmp .ge 71, 3) := by decide +kernel
theorem dX6_update_26 : decode cX6_update 26 = .ok (.iconst 0, 1) := by decide +kernel
theorem dX6_update_27 : decode cX6_update 27 = .ok (.istore 4, 2) := by decide +kernel
theorem dX6_update_29 : decode cX6_update 29 = .ok (.iload 4, 2) := by decide +kernel
theorem dX6_update_31 : decode cX6_update 31 = .ok (.bipush 6, 2) := by decide +kernel
theorem dX6_update_33 : decode cX6_update 33 = .ok (.if_icmp .ge 46, 3) := by decide +kernel
theorem dX6_update_36 : decode cX6_update 36 = .ok (.aload_n 0, 1) := by decide +kernel
theorem dX6_update_37 : decode cX6_update 37 = .ok (.getfield 63, 3) := by decide +kernel
theorem dX6_update_40 : decode cX6_update 40 = .ok (.iload_n 1, 1) := by decide +kernel
theorem dX6_update_41 : decode cX6_update 41 = .ok (.aaload, 1) := by decide +kernel
theorem dX6_update_42 : decode cX6_update 42 = .ok (.iload 4, 2) := by decide +kernel
theorem dX6_update_44 : decode cX6_update 44 = .ok (.aaload, 1) := by decide +kernel
theorem dX6_update_45 : decode cX6_update 45 = .ok (.iload_n 3, 1) := by decide +kernel
theorem dX6_update_46 : decode cX6_update 46 = .ok (.aload_n 0, 1) := by decide +kernel
theorem dX6_update_47 : decode cX6_update 47 = .ok (.getfield 53, 3) := by decide +kernel
theorem dX6_update_50 : decode cX6_update 50 = .ok (.iload_n 1, 1) := by decide +kernel
theorem dX6_update_51 : decode cX6_update 51 = .ok (.aaload, 1) := by decide +kernel
theorem dX6_update_52 : decode cX6_update 52 = .ok (.iload_n 3, 1) := by decide +kernel
theorem dX6_update_53 : decode cX6_update 53 = .ok (.baload, 1) := by decide +kernel
theorem dX6_update_54 : decode cX6_update 54 = .ok (.ifCond .eq 7, 3) := by decide +kernel
theorem dX6_update_57 : decode cX6_update 57 = .ok (.iconst (-1), 1) := by decide +kernel
theorem dX6_update_58 : decode cX6_update 58 = .ok (.goto 14, 3) := by decide +kernel
theorem dX6_update_61 : decode cX6_update 61 = .ok (.aload_n 0, 1) := by decide +kernel
theorem dX6_update_62 : decode cX6_update 62 = .ok (.getfield 63, 3) := by decide +kernel
theorem dX6_update_65 : decode cX6_update 65 = .ok (.iload_n 1, 1) := by decide +kernel
theorem dX6_update_66 : decode cX6_update 66 = .ok (.aaload, 1) := by decide +kernel
theorem dX6_update_67 : decode cX6_update 67 = .ok (.iload 4, 2) := by decide +kernel
theorem dX6_update_69 : decode cX6_update 69 = .ok (.aaload, 1) := by decide +kernel
theorem dX6_update_70 : decode cX6_update 70 = .ok (.iload_n 3, 1) := by decide +kernel
theorem dX6_update_71 : decode cX6_update 71 = .ok (.iaload, 1) := by decide +kernel
theorem dX6_update_72 : decode cX6_update 72 = .ok (.iastore, 1) := by decide +kernel
theorem dX6_update_73 : decode cX6_update 73 = .ok (.iinc 4 1, 3) := by decide +kernel
theorem dX6_update_76 : decode cX6_update 76 = .ok (.goto (-47), 3) := by decide +kernel
theorem dX6_update_79 : decode cX6_update 79 = .ok (.aload_n 0, 1) := by decide +kernel
theorem dX6_update_80 : decode cX6_update 80 = .ok (.getfield 53, 3) := by decide +kernel
theorem dX6_update_83 : decode cX6_update 83 = .ok (.iload_n 1, 1) := by decide +kernel
theorem dX6_update_84 : decode cX6_update 84 = .ok (.aaload, 1) := by decide +kernel
theorem dX6_update_85 : decode cX6_update 85 = .ok (.iload_n 3, 1) := by decide +kernel
theorem dX6_update_86 : decode cX6_update 86 = .ok (.iconst 0, 1) := by decide +kernel
theorem dX6_update_87 : decode cX6_update 87 = .ok (.bastore, 1) := by decide +kernel
theorem dX6_update_88 : decode cX6_update 88 = .ok (.iinc 3 1, 3) := by decide +kernel
theorem dX6_update_91 : decode cX6_update 91 = .ok (.goto (-71), 3) := by decide +kernel
theorem dX6_update_94 : decode cX6_update 94 = .ok (.iload_n 2, 1) := by decide +kernel
theorem dX6_update_95 : decode cX6_update 95 = .ok (.ireturn, 1) := by decide +kernel
theorem dX6_addTest_0 : decode cX6_addTest 0 = .ok (.aload_n 0, 1) := by decide +kernel
theorem dX6_addTest_1 : decode cX6_addTest 1 = .ok (.iconst 0, 1) := by decide +kernel
theorem dX6_addTest_2 : decode cX6_addTest 2 = .ok (.putfield 1, 3) := by decide +kernel
theorem dX6_addTest_5 : decode cX6_addTest 5 = .ok (.iload_n 1, 1) := by decide +kernel
theorem dX6_addTest_6 : decode cX6_addTest 6 = .ok (.iload_n 2, 1) := by decide +kernel
theorem dX6_addTest_7 : decode cX6_addTest 7 = .ok (.invokestatic 109, 3) := by decide +kernel
theorem dX6_addTest_10 : decode cX6_addTest 10 = .ok (.ifCond .eq 12, 3) := by decide +kernel
theorem dX6_addTest_13 : decode cX6_addTest 13 = .ok (.iload_n 3, 1) := by decide +kernel
theorem dX6_addTest_14 : decode cX6_addTest 14 = .ok (.iload 4, 2) := by decide +kernel
theorem dX6_addTest_16 : decode cX6_addTest 16 = .ok (.invokestatic 109, 3) := by decide +kernel
theorem dX6_addTest_19 : decode cX6_addTest 19 = .ok (.ifCond .ne 9, 3) := by decide +kernel
theorem dX6_addTest_22 : decode cX6_addTest 22 = .ok (.aload_n 0, 1) := by decide +kernel
theorem dX6_addTest_23 : decode cX6_addTest 23 = .ok (.iconst 1, 1) := by decide +kernel
theorem dX6_addTest_24 : decode cX6_addTest 24 = .ok (.invokevirtual 96, 3) := by decide +kernel
theorem dX6_addTest_27 : decode cX6_addTest 27 = .ok (.ireturn, 1) := by decide +kernel
theorem dX6_addTest_28 : decode cX6_addTest 28 = .ok (.iload 5, 2) := by decide +kernel
theorem dX6_addTest_30 : decode cX6_addTest 30 = .ok (.iconst 0, 1) := by decide +kernel
theorem dX6_addTest_31 : decode cX6_addTest 31 = .ok (.sipush 198, 3) := by decide +kernel
theorem dX6_addTest_34 : decode cX6_addTest 34 = .ok (.invokestatic 7, 3) := by decide +kernel
theorem dX6_addTest_37 : decode cX6_addTest 37 = .ok (.ifCond .ne 9, 3) := by decide +kernel
theorem dX6_addTest_40 : decode cX6_addTest 40 = .ok (.aload_n 0, 1) := by decide +kernel
theorem dX6_addTest_41 : decode cX6_addTest 41 = .ok (.iconst 2, 1) := by decide +kernel
theorem dX6_addTest_42 : decode cX6_addTest 42 = .ok (.invokevirtual 96, 3) := by decide +kernel
theorem dX6_addTest_45 : decode cX6_addTest 45 = .ok (.ireturn, 1) := by decide +kernel
theorem dX6_addTest_46 : decode cX6_addTest 46 = .ok (.aload_n 0, 1) := by decide +kernel
theorem dX6_addTest_47 : decode cX6_addTest 47 = .ok (.getfield 150, 3) := by decide +kernel
theorem dX6_addTest_50 : decode cX6_addTest 50 = .ok (.bipush 12, 2) := by decide +kernel
theorem dX6_addTest_52 : decode cX6_addTest 52 = .ok (.if_icmp .ne 9, 3) := by decide +kernel
theorem dX6_addTest_55 : decode cX6_addTest 55 = .ok (.aload_n 0, 1) := by decide +kernel
theorem dX6_addTest_56 : decode cX6_addTest 56 = .ok (.iconst 3, 1) := by decide +kernel
theorem dX6_addTest_57 : decode cX6_addTest 57 = .ok (.invokevirtual 96, 3) := by decide +kernel
theorem dX6_addTest_60 : decode cX6_addTest 60 = .ok (.ireturn, 1) := by decide +kernel
theorem dX6_addTest_61 : decode cX6_addTest 61 = .ok (.aload_n 0, 1) := by decide +kernel
theorem dX6_addTest_62 : decode cX6_addTest 62 = .ok (.getfield 17, 3) := by decide +kernel
theorem dX6_addTest_65 : decode cX6_addTest 65 = .ok (.iconst 4, 1) := by decide +kernel
theorem dX6_addTest_66 : decode cX6_addTest 66 = .ok (.iload_n 1, 1) := by decide +kernel
theorem dX6_addTest_67 : decode cX6_addTest 67 = .ok (.imul, 1) := by decide +kernel
theorem dX6_addTest_68 : decode cX6_addTest 68 = .ok (.iload_n 2, 1) := by decide +kernel
theorem dX6_addTest_69 : decode cX6_addTest 69 = .ok (.iadd, 1) := by decide +kernel
theorem dX6_addTest_70 : decode cX6_addTest 70 = .ok (.iaload, 1) := by decide +kernel
theorem dX6_addTest_71 : decode cX6_addTest 71 = .ok (.aload_n 0, 1) := by decide +kernel
theorem dX6_addTest_72 : decode cX6_addTest 72 = .ok (.getfield 17, 3) := by decide +kernel
theorem dX6_addTest_75 : decode cX6_addTest 75 = .ok (.iconst 4, 1) := by decide +kernel
theorem dX6_addTest_76 : decode cX6_addTest 76 = .ok (.iload_n 3, 1) := by decide +kernel
theorem dX6_addTest_77 : decode cX6_addTest 77 = .ok (.imul, 1) := by decide +kernel
theorem dX6_addTest_78 : decode cX6_addTest 78 = .ok (.iload 4, 2) := by decide +kernel
theorem dX6_addTest_80 : decode cX6_addTest 80 = .ok (.iadd, 1) := by decide +kernel
theorem dX6_addTest_81 : decode cX6_addTest 81 = .ok (.iaload, 1) := by decide +kernel
theorem dX6_addTest_82 : decode cX6_addTest 82 = .ok (.iadd, 1) := by decide +kernel
theorem dX6_addTest_83 : decode cX6_addTest 83 = .ok (.iload 5, 2) := by decide +kernel
theorem dX6_addTest_85 : decode cX6_addTest 85 = .ok (.if_icmp .le 9, 3) := by decide +kernel
theorem dX6_addTest_88 : decode cX6_addTest 88 = .ok (.aload_n 0, 1) := by decide +kernel
theorem dX6_addTest_89 : decode cX6_addTest 89 = .ok (.iconst 4, 1) := by decide +kernel
theorem dX6_addTest_90 : decode cX6_addTest 90 = .ok (.invokevirtual 96, 3) := by decide +kernel
theorem dX6_addTest_93 : decode cX6_addTest 93 = .ok (.ireturn, 1) := by decide +kernel
theorem dX6_addTest_94 : decode cX6_addTest 94 = .ok (.aload_n 0, 1) := by decide +kernel
theorem dX6_addTest_95 : decode cX6_addTest 95 = .ok (.getfield 21, 3) := by decide +kernel
theorem dX6_addTest_98 : decode cX6_addTest 98 = .ok (.aload_n 0, 1) := by decide +kernel
theorem dX6_addTest_99 : decode cX6_addTest 99 = .ok (.getfield 150, 3) := by decide +kernel
theorem dX6_addTest_102 : decode cX6_addTest 102 = .ok (.iconst 4, 1) := by decide +kernel
theorem dX6_addTest_103 : decode cX6_addTest 103 = .ok (.iload_n 1, 1) := by decide +kernel
theorem dX6_addTest_104 : decode cX6_addTest 104 = .ok (.imul, 1) := by decide +kernel
theorem dX6_addTest_105 : decode cX6_addTest 105 = .ok (.iload_n 2, 1) := by decide +kernel
theorem dX6_addTest_106 : decode cX6_addTest 106 = .ok (.iadd, 1) := by decide +kernel
theorem dX6_addTest_107 : decode cX6_addTest 107 = .ok (.iastore, 1) := by decide +kernel
theorem dX6_addTest_108 : decode cX6_addTest 108 = .ok (.aload_n 0, 1) := by decide +kernel
theorem dX6_addTest_109 : decode cX6_addTest 109 = .ok (.getfield 24, 3) := by decide +kernel
theorem dX6_addTest_112 : decode cX6_addTest 112 = .ok (.aload_n 0, 1) := by decide +kernel
theorem dX6_addTest_113 : decode cX6_addTest 113 = .ok (.getfield 150, 3) := by decide +kernel
theorem dX6_addTest_116 : decode cX6_addTest 116 = .ok (.iconst 4, 1) := by decide +kernel
theorem dX6_addTest_117 : decode cX6_addTest 117 = .ok (.iload_n 3, 1) := by decide +kernel
theorem dX6_addTest_118 : decode cX6_addTest 118 = .ok (.imul, 1) := by decide +kernel
theorem dX6_addTest_119 : decode cX6_addTest 119 = .ok (.iload 4, 2) := by decide +kernel
theorem dX6_addTest_121 : decode cX6_addTest 121 = .ok (.iadd, 1) := by decide +kernel
theorem dX6_addTest_122 : decode cX6_addTest 122 = .ok (.iastore, 1) := by decide +kernel
theorem dX6_addTest_123 : decode cX6_addTest 123 = .ok (.aload_n 0, 1) := by decide +kernel
theorem dX6_addTest_124 : decode cX6_addTest 124 = .ok (.getfield 27, 3) := by decide +kernel
theorem dX6_addTest_127 : decode cX6_addTest 127 = .ok (.aload_n 0, 1) := by decide +kernel
theorem dX6_addTest_128 : decode cX6_addTest 128 = .ok (.getfield 150, 3) := by decide +kernel
theorem dX6_addTest_131 : decode cX6_addTest 131 = .ok (.iload 5, 2) := by decide +kernel
theorem dX6_addTest_133 : decode cX6_addTest 133 = .ok (.iastore, 1) := by decide +kernel
theorem dX6_addTest_134 : decode cX6_addTest 134 = .ok (.aload_n 0, 1) := by decide +kernel
theorem dX6_addTest_135 : decode cX6_addTest 135 = .ok (.dup, 1) := by decide +kernel
theorem dX6_addTest_136 : decode cX6_addTest 136 = .ok (.getfield 150, 3) := by decide +kernel
theorem dX6_addTest_139 : decode cX6_addTest 139 = .ok (.iconst 1, 1) := by decide +kernel
theorem dX6_addTest_140 : decode cX6_addTest 140 = .ok (.iadd, 1) := by decide +kernel
theorem dX6_addTest_141 : decode cX6_addTest 141 = .ok (.putfield 150, 3) := by decide +kernel
theorem dX6_addTest_144 : decode cX6_addTest 144 = .ok (.aload_n 0, 1) := by decide +kernel
theorem dX6_addTest_145 : decode cX6_addTest 145 = .ok (.getfield 85, 3) := by decide +kernel
theorem dX6_addTest_148 : decode cX6_addTest 148 = .ok (.invokevirtual 217, 3) := by decide +kernel
theorem dX6_addTest_151 : decode cX6_addTest 151 = .ok (.aload_n 0, 1) := by decide +kernel
theorem dX6_addTest_152 : decode cX6_addTest 152 = .ok (.getfield 150, 3) := by decide +kernel
theorem dX6_addTest_155 : decode cX6_addTest 155 = .ok (.iconst 1, 1) := by decide +kernel
theorem dX6_addTest_156 : decode cX6_addTest 156 = .ok (.isub, 1) := by decide +kernel
theorem dX6_addTest_157 : decode cX6_addTest 157 = .ok (.ireturn, 1) := by decide +kernel
theorem dX6_dropTest_0 : decode cX6_dropTest 0 = .ok (.aload_n 0, 1) := by decide +kernel
theorem dX6_dropTest_1 : decode cX6_dropTest 1 = .ok (.iconst 0, 1) := by decide +kernel
theorem dX6_dropTest_2 : decode cX6_dropTest 2 = .ok (.putfield 1, 3) := by decide +kernel
theorem dX6_dropTest_5 : decode cX6_dropTest 5 = .ok (.iload_n 1, 1) := by decide +kernel
theorem dX6_dropTest_6 : decode cX6_dropTest 6 = .ok (.iconst 0, 1) := by decide +kernel
theorem dX6_dropTest_7 : decode cX6_dropTest 7 = .ok (.aload_n 0, 1) := by decide +kernel
theorem dX6_dropTest_8 : decode cX6_dropTest 8 = .ok (.getfield 150, 3) := by decide +kernel
theorem dX6_dropTest_11 : decode cX6_dropTest 11 = .ok (.iconst 1, 1) := by decide +kernel
theorem dX6_dropTest_12 : decode cX6_dropTest 12 = .ok (.isub, 1) := by decide +kernel
theorem dX6_dropTest_13 : decode cX6_dropTest 13 = .ok (.invokestatic 7, 3) := by decide +kernel
theorem dX6_dropTest_16 : decode cX6_dropTest 16 = .ok (.ifCond .eq 12, 3) := by decide +kernel
theorem dX6_dropTest_19 : decode cX6_dropTest 19 = .ok (.aload_n 0, 1) := by decide +kernel
theorem dX6_dropTest_20 : decode cX6_dropTest 20 = .ok (.getfield 30, 3) := by decide +kernel
theorem dX6_dropTest_23 : decode cX6_dropTest 23 = .ok (.iload_n 1, 1) := by decide +kernel
theorem dX6_dropTest_24 : decode cX6_dropTest 24 = .ok (.baload, 1) := by decide +kernel
theorem dX6_dropTest_25 : decode cX6_dropTest 25 = .ok (.ifCond .eq 9, 3) := by decide +kernel
theorem dX6_dropTest_28 : decode cX6_dropTest 28 = .ok (.aload_n 0, 1) := by decide +kernel
theorem dX6_dropTest_29 : decode cX6_dropTest 29 = .ok (.iconst 1, 1) := by decide +kernel
theorem dX6_dropTest_30 : decode cX6_dropTest 30 = .ok (.invokevirtual 96, 3) := by decide +kernel
theorem dX6_dropTest_33 : decode cX6_dropTest 33 = .ok (.ireturn, 1) := by decide +kernel
theorem dX6_dropTest_34 : decode cX6_dropTest 34 = .ok (.aload_n 0, 1) := by decide +kernel
theorem dX6_dropTest_35 : decode cX6_dropTest 35 = .ok (.getfield 30, 3) := by decide +kernel
theorem dX6_dropTest_38 : decode cX6_dropTest 38 = .ok (.iload_n 1, 1) := by decide +kernel
theorem dX6_dropTest_39 : decode cX6_dropTest 39 = .ok (.iconst 1, 1) := by decide +kernel
theorem dX6_dropTest_40 : decode cX6_dropTest 40 = .ok (.bastore, 1) := by decide +kernel
theorem dX6_dropTest_41 : decode cX6_dropTest 41 = .ok (.aload_n 0, 1) := by decide +kernel
theorem dX6_dropTest_42 : decode cX6_dropTest 42 = .ok (.getfield 85, 3) := by decide +kernel
theorem dX6_dropTest_45 : decode cX6_dropTest 45 = .ok (.invokevirtual 217, 3) := by decide +kernel
theorem dX6_dropTest_48 : decode cX6_dropTest 48 = .ok (.iconst 0, 1) := by decide +kernel
theorem dX6_dropTest_49 : decode cX6_dropTest 49 = .ok (.istore_n 2, 1) := by decide +kernel
theorem dX6_dropTest_50 : decode cX6_dropTest 50 = .ok (.iconst 0, 1) := by decide +kernel
theorem dX6_dropTest_51 : decode cX6_dropTest 51 = .ok (.istore_n 3, 1) := by decide +kernel
theorem dX6_dropTest_52 : decode cX6_dropTest 52 = .ok (.iload_n 3, 1) := by decide +kernel
theorem dX6_dropTest_53 : decode cX6_dropTest 53 = .ok (.aload_n 0, 1) := by decide +kernel
theorem dX6_dropTest_54 : decode cX6_dropTest 54 = .ok (.getfield 150, 3) := by decide +kernel
theorem dX6_dropTest_57 : decode cX6_dropTest 57 = .ok (.if_icmp .ge 26, 3) := by decide +kernel
theorem dX6_dropTest_60 : decode cX6_dropTest 60 = .ok (.iload_n 2, 1) := by decide +kernel
theorem dX6_dropTest_61 : decode cX6_dropTest 61 = .ok (.aload_n 0, 1) := by decide +kernel
theorem dX6_dropTest_62 : decode cX6_dropTest 62 = .ok (.getfield 30, 3) := by decide +kernel
theorem dX6_dropTest_65 : decode cX6_dropTest 65 = .ok (.iload_n 3, 1) := by decide +kernel
theorem dX6_dropTest_66 : decode cX6_dropTest 66 = .ok (.baload, 1) := by decide +kernel
theorem dX6_dropTest_67 : decode cX6_dropTest 67 = .ok (.ifCond .eq 7, 3) := by decide +kernel
theorem dX6_dropTest_70 : decode cX6_dropTest 70 = .ok (.iconst 0, 1) := by decide +kernel
theorem dX6_dropTest_71 : decode cX6_dropTest 71 = .ok (.goto 4, 3) := by decide +kernel
theorem dX6_dropTest_74 : decode cX6_dropTest 74 = .ok (.iconst 1, 1) := by decide +kernel
theorem dX6_dropTest_75 : decode cX6_dropTest 75 = .ok (.iadd, 1) := by decide +kernel
theorem dX6_dropTest_76 : decode cX6_dropTest 76 = .ok (.istore_n 2, 1) := by decide +kernel
theorem dX6_dropTest_77 : decode cX6_dropTest 77 = .ok (.iinc 3 1, 3) := by decide +kernel
theorem dX6_dropTest_80 : decode cX6_dropTest 80 = .ok (.goto (-28), 3) := by decide +kernel
theorem dX6_dropTest_83 : decode cX6_dropTest 83 = .ok (.iload_n 2, 1) := by decide +kernel
theorem dX6_dropTest_84 : decode cX6_dropTest 84 = .ok (.ireturn, 1) := by decide +kernel
theorem dX6_value_0 : decode cX6_value 0 = .ok (.aload_n 0, 1) := by decide +kernel
theorem dX6_value_1 : decode cX6_value 1 = .ok (.iconst 0, 1) := by decide +kernel
theorem dX6_value_2 : decode cX6_value 2 = .ok (.putfield 1, 3) := by decide +kernel
theorem dX6_value_5 : decode cX6_value 5 = .ok (.iload_n 1, 1) := by decide +kernel
theorem dX6_value_6 : decode cX6_value 6 = .ok (.iload_n 2, 1) := by decide +kernel
theorem dX6_value_7 : decode cX6_value 7 = .ok (.invokestatic 109, 3) := by decide +kernel
theorem dX6_value_10 : decode cX6_value 10 = .ok (.ifCond .eq 16, 3) := by decide +kernel
theorem dX6_value_13 : decode cX6_value 13 = .ok (.aload_n 0, 1) := by decide +kernel
theorem dX6_value_14 : decode cX6_value 14 = .ok (.getfield 17, 3) := by decide +kernel
theorem dX6_value_17 : decode cX6_value 17 = .ok (.iconst 4, 1) := by decide +kernel
theorem dX6_value_18 : decode cX6_value 18 = .ok (.iload_n 1, 1) := by decide +kernel
theorem dX6_value_19 : decode cX6_value 19 = .ok (.imul, 1) := by decide +kernel
theorem dX6_value_20 : decode cX6_value 20 = .ok (.iload_n 2, 1) := by decide +kernel
theorem dX6_value_21 : decode cX6_value 21 = .ok (.iadd, 1) := by decide +kernel
theorem dX6_value_22 : decode cX6_value 22 = .ok (.iaload, 1) := by decide +kernel
theorem dX6_value_23 : decode cX6_value 23 = .ok (.goto 8, 3) := by decide +kernel
theorem dX6_value_26 : decode cX6_value 26 = .ok (.aload_n 0, 1) := by decide +kernel
theorem dX6_value_27 : decode cX6_value 27 = .ok (.iconst 1, 1) := by decide +kernel
theorem dX6_value_28 : decode cX6_value 28 = .ok (.invokevirtual 96, 3) := by decide +kernel
theorem dX6_value_31 : decode cX6_value 31 = .ok (.ireturn, 1) := by decide +kernel
theorem dX6_valueByMerges_0 : decode cX6_valueByMerges 0 = .ok (.aload_n 0, 1) := by decide +kernel
theorem dX6_valueByMerges_1 : decode cX6_valueByMerges 1 = .ok (.iconst 0, 1) := by decide +kernel
theorem dX6_valueByMerges_2 : decode cX6_valueByMerges 2 = .ok (.putfield 1, 3) := by decide +kernel
theorem dX6_valueByMerges_5 : decode cX6_valueByMerges 5 = .ok (.iload_n 1, 1) := by decide +kernel
theorem dX6_valueByMerges_6 : decode cX6_valueByMerges 6 = .ok (.iload_n 2, 1) := by decide +kernel
theorem dX6_valueByMerges_7 : decode cX6_valueByMerges 7 = .ok (.invokestatic 109, 3) := by decide +kernel
theorem dX6_valueByMerges_10 : decode cX6_valueByMerges 10 = .ok (.ifCond .ne 9, 3) := by decide +kernel
theorem dX6_valueByMerges_13 : decode cX6_valueByMerges 13 = .ok (.aload_n 0, 1) := by decide +kernel
theorem dX6_valueByMerges_14 : decode cX6_valueByMerges 14 = .ok (.iconst 1, 1) := by decide +kernel
theorem dX6_valueByMerges_15 : decode cX6_valueByMerges 15 = .ok (.invokevirtual 96, 3) := by decide +kernel
theorem dX6_valueByMerges_18 : decode cX6_valueByMerges 18 = .ok (.ireturn, 1) := by decide +kernel
theorem dX6_valueByMerges_19 : decode cX6_valueByMerges 19 = .ok (.iconst 0, 1) := by decide +kernel
theorem dX6_valueByMerges_20 : decode cX6_valueByMerges 20 = .ok (.istore_n 3, 1) := by decide +kernel
theorem dX6_valueByMerges_21 : decode cX6_valueByMerges 21 = .ok (.iconst 0, 1) := by decide +kernel
theorem dX6_valueByMerges_22 : decode cX6_valueByMerges 22 = .ok (.istore 4, 2) := by decide +kernel
theorem dX6_valueByMerges_24 : decode cX6_valueByMerges 24 = .ok (.iload 4, 2) := by decide +kernel
theorem dX6_valueByMerges_26 : decode cX6_valueByMerges 26 = .ok (.aload_n 0, 1) := by decide +kernel
theorem dX6_valueByMerges_27 : decode cX6_valueByMerges 27 = .ok (.getfield 198, 3) := by decide +kernel
theorem dX6_valueByMerges_30 : decode cX6_valueByMerges 30 = .ok (.if_icmp .ge 53, 3) := by decide +kernel
theorem dX6_valueByMerges_33 : decode cX6_valueByMerges 33 = .ok (.aload_n 0, 1) := by decide +kernel
theorem dX6_valueByMerges_34 : decode cX6_valueByMerges 34 = .ok (.getfield 48, 3) := by decide +kernel
theorem dX6_valueByMerges_37 : decode cX6_valueByMerges 37 = .ok (.aload_n 0, 1) := by decide +kernel
theorem dX6_valueByMerges_38 : decode cX6_valueByMerges 38 = .ok (.getfield 72, 3) := by decide +kernel
theorem dX6_valueByMerges_41 : decode cX6_valueByMerges 41 = .ok (.iload 4, 2) := by decide +kernel
theorem dX6_valueByMerges_43 : decode cX6_valueByMerges 43 = .ok (.iaload, 1) := by decide +kernel
theorem dX6_valueByMerges_44 : decode cX6_valueByMerges 44 = .ok (.aaload, 1) := by decide +kernel
theorem dX6_valueByMerges_45 : decode cX6_valueByMerges 45 = .ok (.iconst 4, 1) := by decide +kernel
theorem dX6_valueByMerges_46 : decode cX6_valueByMerges 46 = .ok (.iload_n 1, 1) := by decide +kernel
theorem dX6_valueByMerges_47 : decode cX6_valueByMerges 47 = .ok (.imul, 1) := by decide +kernel
theorem dX6_valueByMerges_48 : decode cX6_valueByMerges 48 = .ok (.iload_n 2, 1) := by decide +kernel
theorem dX6_valueByMerges_49 : decode cX6_valueByMerges 49 = .ok (.iadd, 1) := by decide +kernel
theorem dX6_valueByMerges_50 : decode cX6_valueByMerges 50 = .ok (.iaload, 1) := by decide +kernel
theorem dX6_valueByMerges_51 : decode cX6_valueByMerges 51 = .ok (.ifCond .ge 7, 3) := by decide +kernel
theorem dX6_valueByMerges_54 : decode cX6_valueByMerges 54 = .ok (.iload_n 3, 1) := by decide +kernel
theorem dX6_valueByMerges_55 : decode cX6_valueByMerges 55 = .ok (.goto 21, 3) := by decide +kernel
theorem dX6_valueByMerges_58 : decode cX6_valueByMerges 58 = .ok (.aload_n 0, 1) := by decide +kernel
theorem dX6_valueByMerges_59 : decode cX6_valueByMerges 59 = .ok (.getfield 48, 3) := by decide +kernel
theorem dX6_valueByMerges_62 : decode cX6_valueByMerges 62 = .ok (.aload_n 0, 1) := by decide +kernel
theorem dX6_valueByMerges_63 : decode cX6_valueByMerges 63 = .ok (.getfield 72, 3) := by decide +kernel
theorem dX6_valueByMerges_66 : decode cX6_valueByMerges 66 = .ok (.iload 4, 2) := by decide +kernel
theorem dX6_valueByMerges_68 : decode cX6_valueByMerges 68 = .ok (.iaload, 1) := by decide +kernel
theorem dX6_valueByMerges_69 : decode cX6_valueByMerges 69 = .ok (.aaload, 1) := by decide +kernel
theorem dX6_valueByMerges_70 : decode cX6_valueByMerges 70 = .ok (.iconst 4, 1) := by decide +kernel
theorem dX6_valueByMerges_71 : decode cX6_valueByMerges 71 = .ok (.iload_n 1, 1) := by decide +kernel
theorem dX6_valueByMerges_72 : decode cX6_valueByMerges 72 = .ok (.imul, 1) := by decide +kernel
theorem dX6_valueByMerges_73 : decode cX6_valueByMerges 73 = .ok (.iload_n 2, 1) := by decide +kernel
theorem dX6_valueByMerges_74 : decode cX6_valueByMerges 74 = .ok (.iadd, 1) := by decide +kernel
theorem dX6_valueByMerges_75 : decode cX6_valueByMerges 75 = .ok (.iaload, 1) := by decide +kernel
theorem dX6_valueByMerges_76 : decode cX6_valueByMerges 76 = .ok (.istore_n 3, 1) := by decide +kernel
theorem dX6_valueByMerges_77 : decode cX6_valueByMerges 77 = .ok (.iinc 4 1, 3) := by decide +kernel
theorem dX6_valueByMerges_80 : decode cX6_valueByMerges 80 = .ok (.goto (-56), 3) := by decide +kernel
theorem dX6_valueByMerges_83 : decode cX6_valueByMerges 83 = .ok (.iload_n 3, 1) := by decide +kernel
theorem dX6_valueByMerges_84 : decode cX6_valueByMerges 84 = .ok (.ireturn, 1) := by decide +kernel
theorem dX6_valueWith_0 : decode cX6_valueWith 0 = .ok (.aload_n 0, 1) := by decide +kernel
theorem dX6_valueWith_1 : decode cX6_valueWith 1 = .ok (.aload_n 0, 1) := by decide +kernel
theorem dX6_valueWith_2 : decode cX6_valueWith 2 = .ok (.iload_n 1, 1) := by decide +kernel
theorem dX6_valueWith_3 : decode cX6_valueWith 3 = .ok (.invokevirtual 106, 3) := by decide +kernel
theorem dX6_valueWith_6 : decode cX6_valueWith 6 = .ok (.ifCond .ne 7, 3) := by decide +kernel
theorem dX6_valueWith_9 : decode cX6_valueWith 9 = .ok (.iconst 1, 1) := by decide +kernel
theorem dX6_valueWith_10 : decode cX6_valueWith 10 = .ok (.goto 16, 3) := by decide +kernel
theorem dX6_valueWith_13 : decode cX6_valueWith 13 = .ok (.iload_n 2, 1) := by decide +kernel
theorem dX6_valueWith_14 : decode cX6_valueWith 14 = .ok (.iload_n 3, 1) := by decide +kernel
theorem dX6_valueWith_15 : decode cX6_valueWith 15 = .ok (.invokestatic 109, 3) := by decide +kernel
theorem dX6_valueWith_18 : decode cX6_valueWith 18 = .ok (.ifCond .eq 7, 3) := by decide +kernel
theorem dX6_valueWith_21 : decode cX6_valueWith 21 = .ok (.iconst 0, 1) := by decide +kernel
theorem dX6_valueWith_22 : decode cX6_valueWith 22 = .ok (.goto 4, 3) := by decide +kernel
theorem dX6_valueWith_25 : decode cX6_valueWith 25 = .ok (.iconst 2, 1) := by decide +kernel
theorem dX6_valueWith_26 : decode cX6_valueWith 26 = .ok (.putfield 1, 3) := by decide +kernel
theorem dX6_valueWith_29 : decode cX6_valueWith 29 = .ok (.aload_n 0, 1) := by decide +kernel
theorem dX6_valueWith_30 : decode cX6_valueWith 30 = .ok (.getfield 1, 3) := by decide +kernel
theorem dX6_valueWith_33 : decode cX6_valueWith 33 = .ok (.ifCond .le 5, 3) := by decide +kernel
theorem dX6_valueWith_36 : decode cX6_valueWith 36 = .ok (.iconst 0, 1) := by decide +kernel
theorem dX6_valueWith_37 : decode cX6_valueWith 37 = .ok (.ireturn, 1) := by decide +kernel
theorem dX6_valueWith_38 : decode cX6_valueWith 38 = .ok (.aload_n 0, 1) := by decide +kernel
theorem dX6_valueWith_39 : decode cX6_valueWith 39 = .ok (.getfield 48, 3) := by decide +kernel
theorem dX6_valueWith_42 : decode cX6_valueWith 42 = .ok (.iload_n 1, 1) := by decide +kernel
theorem dX6_valueWith_43 : decode cX6_valueWith 43 = .ok (.aaload, 1) := by decide +kernel
theorem dX6_valueWith_44 : decode cX6_valueWith 44 = .ok (.iconst 4, 1) := by decide +kernel
theorem dX6_valueWith_45 : decode cX6_valueWith 45 = .ok (.iload_n 2, 1) := by decide +kernel
theorem dX6_valueWith_46 : decode cX6_valueWith 46 = .ok (.imul, 1) := by decide +kernel
theorem dX6_valueWith_47 : decode cX6_valueWith 47 = .ok (.iload_n 3, 1) := by decide +kernel
theorem dX6_valueWith_48 : decode cX6_valueWith 48 = .ok (.iadd, 1) := by decide +kernel
theorem dX6_valueWith_49 : decode cX6_valueWith 49 = .ok (.iaload, 1) := by decide +kernel
theorem dX6_valueWith_50 : decode cX6_valueWith 50 = .ok (.ifCond .ge 16, 3) := by decide +kernel
theorem dX6_valueWith_53 : decode cX6_valueWith 53 = .ok (.aload_n 0, 1) := by decide +kernel
theorem dX6_valueWith_54 : decode cX6_valueWith 54 = .ok (.getfield 17, 3) := by decide +kernel
theorem dX6_valueWith_57 : decode cX6_valueWith 57 = .ok (.iconst 4, 1) := by decide +kernel
theorem dX6_valueWith_58 : decode cX6_valueWith 58 = .ok (.iload_n 2, 1) := by decide +kernel
theorem dX6_valueWith_59 : decode cX6_valueWith 59 = .ok (.imul, 1) := by decide +kernel
theorem dX6_valueWith_60 : decode cX6_valueWith 60 = .ok (.iload_n 3, 1) := by decide +kernel
theorem dX6_valueWith_61 : decode cX6_valueWith 61 = .ok (.iadd, 1) := by decide +kernel
theorem dX6_valueWith_62 : decode cX6_valueWith 62 = .ok (.iaload, 1) := by decide +kernel
theorem dX6_valueWith_63 : decode cX6_valueWith 63 = .ok (.goto 15, 3) := by decide +kernel
theorem dX6_valueWith_66 : decode cX6_valueWith 66 = .ok (.aload_n 0, 1) := by decide +kernel
theorem dX6_valueWith_67 : decode cX6_valueWith 67 = .ok (.getfield 48, 3) := by decide +kernel
theorem dX6_valueWith_70 : decode cX6_valueWith 70 = .ok (.iload_n 1, 1) := by decide +kernel
theorem dX6_valueWith_71 : decode cX6_valueWith 71 = .ok (.aaload, 1) := by decide +kernel
theorem dX6_valueWith_72 : decode cX6_valueWith 72 = .ok (.iconst 4, 1) := by decide +kernel
theorem dX6_valueWith_73 : decode cX6_valueWith 73 = .ok (.iload_n 2, 1) := by decide +kernel
theorem dX6_valueWith_74 : decode cX6_valueWith 74 = .ok (.imul, 1) := by decide +kernel
theorem dX6_valueWith_75 : decode cX6_valueWith 75 = .ok (.iload_n 3, 1) := by decide +kernel
theorem dX6_valueWith_76 : decode cX6_valueWith 76 = .ok (.iadd, 1) := by decide +kernel
theorem dX6_valueWith_77 : decode cX6_valueWith 77 = .ok (.iaload, 1) := by decide +kernel
theorem dX6_valueWith_78 : decode cX6_valueWith 78 = .ok (.ireturn, 1) := by decide +kernel
theorem dX6_marks_0 : decode cX6_marks 0 = .ok (.iconst 0, 1) := by decide +kernel
theorem dX6_marks_1 : decode cX6_marks 1 = .ok (.istore_n 3, 1) := by decide +kernel
theorem dX6_marks_2 : decode cX6_marks 2 = .ok (.aload_n 0, 1) := by decide +kernel
theorem dX6_marks_3 : decode cX6_marks 3 = .ok (.getfield 72, 3) := by decide +kernel
theorem dX6_marks_6 : decode cX6_marks 6 = .ok (.iload_n 3, 1) := by decide +kernel
theorem dX6_marks_7 : decode cX6_marks 7 = .ok (.iaload, 1) := by decide +kernel
theorem dX6_marks_8 : decode cX6_marks 8 = .ok (.iload_n 1, 1) := by decide +kernel
theorem dX6_marks_9 : decode cX6_marks 9 = .ok (.if_icmp .eq 9, 3) := by decide +kernel
theorem dX6_marks_12 : decode cX6_marks 12 = .ok (.iinc 3 1, 3) := by decide +kernel
theorem dX6_marks_15 : decode cX6_marks 15 = .ok (.goto (-13), 3) := by decide +kernel
theorem dX6_marks_18 : decode cX6_marks 18 = .ok (.aload_n 2, 1) := by decide +kernel
theorem dX6_marks_19 : decode cX6_marks 19 = .ok (.iload_n 1, 1) := by decide +kernel
theorem dX6_marks_20 : decode cX6_marks 20 = .ok (.iconst 1, 1) := by decide +kernel
theorem dX6_marks_21 : decode cX6_marks 21 = .ok (.bastore, 1) := by decide +kernel
theorem dX6_marks_22 : decode cX6_marks 22 = .ok (.iconst 1, 1) := by decide +kernel
theorem dX6_marks_23 : decode cX6_marks 23 = .ok (.istore 4, 2) := by decide +kernel
theorem dX6_marks_25 : decode cX6_marks 25 = .ok (.iload_n 3, 1) := by decide +kernel
theorem dX6_marks_26 : decode cX6_marks 26 = .ok (.iconst 1, 1) := by decide +kernel
theorem dX6_marks_27 : decode cX6_marks 27 = .ok (.iadd, 1) := by decide +kernel
theorem dX6_marks_28 : decode cX6_marks 28 = .ok (.istore 5, 2) := by decide +kernel
theorem dX6_marks_30 : decode cX6_marks 30 = .ok (.iload 5, 2) := by decide +kernel
theorem dX6_marks_32 : decode cX6_marks 32 = .ok (.aload_n 0, 1) := by decide +kernel
theorem dX6_marks_33 : decode cX6_marks 33 = .ok (.getfield 198, 3) := by decide +kernel
theorem dX6_marks_36 : decode cX6_marks 36 = .ok (.if_icmp .ge 86, 3) := by decide +kernel
theorem dX6_marks_39 : decode cX6_marks 39 = .ok (.iload_n 3, 1) := by decide +kernel
theorem dX6_marks_40 : decode cX6_marks 40 = .ok (.istore 6, 2) := by decide +kernel
theorem dX6_marks_42 : decode cX6_marks 42 = .ok (.iload 6, 2) := by decide +kernel
theorem dX6_marks_44 : decode cX6_marks 44 = .ok (.iload 5, 2) := by decide +kernel
theorem dX6_marks_46 : decode cX6_marks 46 = .ok (.if_icmp .ge 70, 3) := by decide +kernel
theorem dX6_marks_49 : decode cX6_marks 49 = .ok (.aload_n 2, 1) := by decide +kernel
theorem dX6_marks_50 : decode cX6_marks 50 = .ok (.aload_n 0, 1) := by decide +kernel
theorem dX6_marks_51 : decode cX6_marks 51 = .ok (.getfield 72, 3) := by decide +kernel
theorem dX6_marks_54 : decode cX6_marks 54 = .ok (.iload 5, 2) := by decide +kernel
theorem dX6_marks_56 : decode cX6_marks 56 = .ok (.iaload, 1) := by decide +kernel
theorem dX6_marks_57 : decode cX6_marks 57 = .ok (.baload, 1) := by decide +kernel
theorem dX6_marks_58 : decode cX6_marks 58 = .ok (.ifCond .ne 58, 3) := by decide +kernel
theorem dX6_marks_61 : decode cX6_marks 61 = .ok (.aload_n 2, 1) := by decide +kernel
theorem dX6_marks_62 : decode cX6_marks 62 = .ok (.aload_n 0, 1) := by decide +kernel
theorem dX6_marks_63 : decode cX6_marks 63 = .ok (.getfield 72, 3) := by decide +kernel
theorem dX6_marks_66 : decode cX6_marks 66 = .ok (.iload 6, 2) := by decide +kernel
theorem dX6_marks_68 : decode cX6_marks 68 = .ok (.iaload, 1) := by decide +kernel
theorem dX6_marks_69 : decode cX6_marks 69 = .ok (.baload, 1) := by decide +kernel
theorem dX6_marks_70 : decode cX6_marks 70 = .ok (.ifCond .eq 40, 3) := by decide +kernel
theorem dX6_marks_73 : decode cX6_marks 73 = .ok (.aload_n 0, 1) := by decide +kernel
theorem dX6_marks_74 : decode cX6_marks 74 = .ok (.aload_n 0, 1) := by decide +kernel
theorem dX6_marks_75 : decode cX6_marks 75 = .ok (.getfield 72, 3) := by decide +kernel
theorem dX6_marks_78 : decode cX6_marks 78 = .ok (.iload 5, 2) := by decide +kernel
theorem dX6_marks_80 : decode cX6_marks 80 = .ok (.iaload, 1) := by decide +kernel
theorem dX6_marks_81 : decode cX6_marks 81 = .ok (.aload_n 0, 1) := by decide +kernel
theorem dX6_marks_82 : decode cX6_marks 82 = .ok (.getfield 72, 3) := by decide +kernel
theorem dX6_marks_85 : decode cX6_marks 85 = .ok (.iload 6, 2) := by decide +kernel
theorem dX6_marks_87 : decode cX6_marks 87 = .ok (.iaload, 1) := by decide +kernel
theorem dX6_marks_88 : decode cX6_marks 88 = .ok (.invokevirtual 201, 3) := by decide +kernel
theorem dX6_marks_91 : decode cX6_marks 91 = .ok (.ifCond .ne 6, 3) := by decide +kernel
theorem dX6_marks_94 : decode cX6_marks 94 = .ok (.goto 16, 3) := by decide +kernel
theorem dX6_marks_97 : decode cX6_marks 97 = .ok (.aload_n 2, 1) := by decide +kernel
theorem dX6_marks_98 : decode cX6_marks 98 = .ok (.aload_n 0, 1) := by decide +kernel
theorem dX6_marks_99 : decode cX6_marks 99 = .ok (.getfield 72, 3) := by decide +kernel
theorem dX6_marks_102 : decode cX6_marks 102 = .ok (.iload 5, 2) := by decide +kernel
theorem dX6_marks_104 : decode cX6_marks 104 = .ok (.iaload, 1) := by decide +kernel
theorem dX6_marks_105 : decode cX6_marks 105 = .ok (.iconst 1, 1) := by decide +kernel
theorem dX6_marks_106 : decode cX6_marks 106 = .ok (.bastore, 1) := by decide +kernel
theorem dX6_marks_107 : decode cX6_marks 107 = .ok (.iinc 4 1, 3) := by decide +kernel
theorem dX6_marks_110 : decode cX6_marks 110 = .ok (.iinc 6 1, 3) := by decide +kernel
theorem dX6_marks_113 : decode cX6_marks 113 = .ok (.goto (-71), 3) := by decide +kernel
theorem dX6_marks_116 : decode cX6_marks 116 = .ok (.iinc 5 1, 3) := by decide +kernel
theorem dX6_marks_119 : decode cX6_marks 119 = .ok (.goto (-89), 3) := by decide +kernel
theorem dX6_marks_122 : decode cX6_marks 122 = .ok (.iload 4, 2) := by decide +kernel
theorem dX6_marks_124 : decode cX6_marks 124 = .ok (.ireturn, 1) := by decide +kernel
theorem dX6_along_0 : decode cX6_along 0 = .ok (.aload_n 0, 1) := by decide +kernel
theorem dX6_along_1 : decode cX6_along 1 = .ok (.iload_n 1, 1) := by decide +kernel
theorem dX6_along_2 : decode cX6_along 2 = .ok (.bipush 109, 2) := by decide +kernel
theorem dX6_along_4 : decode cX6_along 4 = .ok (.invokevirtual 116, 3) := by decide +kernel
theorem dX6_along_7 : decode cX6_along 7 = .ok (.ifCond .eq 7, 3) := by decide +kernel
theorem dX6_along_10 : decode cX6_along 10 = .ok (.iconst 0, 1) := by decide +kernel
theorem dX6_along_11 : decode cX6_along 11 = .ok (.goto 12, 3) := by decide +kernel
theorem dX6_along_14 : decode cX6_along 14 = .ok (.aload_n 0, 1) := by decide +kernel
theorem dX6_along_15 : decode cX6_along 15 = .ok (.iload_n 1, 1) := by decide +kernel
theorem dX6_along_16 : decode cX6_along 16 = .ok (.bipush 16, 2) := by decide +kernel
theorem dX6_along_18 : decode cX6_along 18 = .ok (.newarray .boolean, 2) := by decide +kernel
theorem dX6_along_20 : decode cX6_along 20 = .ok (.invokevirtual 220, 3) := by decide +kernel
theorem dX6_along_23 : decode cX6_along 23 = .ok (.ireturn, 1) := by decide +kernel
theorem dX6_revert_0 : decode cX6_revert 0 = .ok (.aload_n 0, 1) := by decide +kernel
theorem dX6_revert_1 : decode cX6_revert 1 = .ok (.iload_n 1, 1) := by decide +kernel
theorem dX6_revert_2 : decode cX6_revert 2 = .ok (.bipush 109, 2) := by decide +kernel
theorem dX6_revert_4 : decode cX6_revert 4 = .ok (.invokevirtual 116, 3) := by decide +kernel
theorem dX6_revert_7 : decode cX6_revert 7 = .ok (.ifCond .eq 5, 3) := by decide +kernel
theorem dX6_revert_10 : decode cX6_revert 10 = .ok (.iconst 0, 1) := by decide +kernel
theorem dX6_revert_11 : decode cX6_revert 11 = .ok (.ireturn, 1) := by decide +kernel
theorem dX6_revert_12 : decode cX6_revert 12 = .ok (.bipush 16, 2) := by decide +kernel
theorem dX6_revert_14 : decode cX6_revert 14 = .ok (.newarray .boolean, 2) := by decide +kernel
theorem dX6_revert_16 : decode cX6_revert 16 = .ok (.astore_n 2, 1) := by decide +kernel
theorem dX6_revert_17 : decode cX6_revert 17 = .ok (.aload_n 0, 1) := by decide +kernel
theorem dX6_revert_18 : decode cX6_revert 18 = .ok (.iload_n 1, 1) := by decide +kernel
theorem dX6_revert_19 : decode cX6_revert 19 = .ok (.aload_n 2, 1) := by decide +kernel
theorem dX6_revert_20 : decode cX6_revert 20 = .ok (.invokevirtual 220, 3) := by decide +kernel
theorem dX6_revert_23 : decode cX6_revert 23 = .ok (.istore_n 3, 1) := by decide +kernel
theorem dX6_revert_24 : decode cX6_revert 24 = .ok (.bipush 64, 2) := by decide +kernel
theorem dX6_revert_26 : decode cX6_revert 26 = .ok (.newarray .int, 2) := by decide +kernel
theorem dX6_revert_28 : decode cX6_revert 28 = .ok (.astore 4, 2) := by decide +kernel
theorem dX6_revert_30 : decode cX6_revert 30 = .ok (.iconst 0, 1) := by decide +kernel
theorem dX6_revert_31 : decode cX6_revert 31 = .ok (.istore 5, 2) := by decide +kernel
theorem dX6_revert_33 : decode cX6_revert 33 = .ok (.iload 5, 2) := by decide +kernel
theorem dX6_revert_35 : decode cX6_revert 35 = .ok (.aload_n 0, 1) := by decide +kernel
theorem dX6_revert_36 : decode cX6_revert 36 = .ok (.getfield 198, 3) := by decide +kernel
theorem dX6_revert_39 : decode cX6_revert 39 = .ok (.if_icmp .ge 34, 3) := by decide +kernel
theorem dX6_revert_42 : decode cX6_revert 42 = .ok (.aload_n 2, 1) := by decide +kernel
theorem dX6_revert_43 : decode cX6_revert 43 = .ok (.aload_n 0, 1) := by decide +kernel
theorem dX6_revert_44 : decode cX6_revert 44 = .ok (.getfield 72, 3) := by decide +kernel
theorem dX6_revert_47 : decode cX6_revert 47 = .ok (.iload 5, 2) := by decide +kernel
theorem dX6_revert_49 : decode cX6_revert 49 = .ok (.iaload, 1) := by decide +kernel
theorem dX6_revert_50 : decode cX6_revert 50 = .ok (.baload, 1) := by decide +kernel
theorem dX6_revert_51 : decode cX6_revert 51 = .ok (.ifCond .ne 16, 3) := by decide +kernel
theorem dX6_revert_54 : decode cX6_revert 54 = .ok (.aload_n 0, 1) := by decide +kernel
theorem dX6_revert_55 : decode cX6_revert 55 = .ok (.aload_n 0, 1) := by decide +kernel
theorem dX6_revert_56 : decode cX6_revert 56 = .ok (.getfield 72, 3) := by decide +kernel
theorem dX6_revert_59 : decode cX6_revert 59 = .ok (.iload 5, 2) := by decide +kernel
theorem dX6_revert_61 : decode cX6_revert 61 = .ok (.iaload, 1) := by decide +kernel
theorem dX6_revert_62 : decode cX6_revert 62 = .ok (.aload 4, 2) := by decide +kernel
theorem dX6_revert_64 : decode cX6_revert 64 = .ok (.invokevirtual 194, 3) := by decide +kernel
theorem dX6_revert_67 : decode cX6_revert 67 = .ok (.iinc 5 1, 3) := by decide +kernel
theorem dX6_revert_70 : decode cX6_revert 70 = .ok (.goto (-37), 3) := by decide +kernel
theorem dX6_revert_73 : decode cX6_revert 73 = .ok (.aload_n 0, 1) := by decide +kernel
theorem dX6_revert_74 : decode cX6_revert 74 = .ok (.aload 4, 2) := by decide +kernel
theorem dX6_revert_76 : decode cX6_revert 76 = .ok (.invokevirtual 204, 3) := by decide +kernel
theorem dX6_revert_79 : decode cX6_revert 79 = .ok (.ifCond .ne 9, 3) := by decide +kernel
theorem dX6_revert_82 : decode cX6_revert 82 = .ok (.aload_n 0, 1) := by decide +kernel
theorem dX6_revert_83 : decode cX6_revert 83 = .ok (.iconst 3, 1) := by decide +kernel
theorem dX6_revert_84 : decode cX6_revert 84 = .ok (.invokevirtual 96, 3) := by decide +kernel
theorem dX6_revert_87 : decode cX6_revert 87 = .ok (.ireturn, 1) := by decide +kernel
theorem dX6_revert_88 : decode cX6_revert 88 = .ok (.iconst 0, 1) := by decide +kernel
theorem dX6_revert_89 : decode cX6_revert 89 = .ok (.istore 5, 2) := by decide +kernel
theorem dX6_revert_91 : decode cX6_revert 91 = .ok (.iconst 0, 1) := by decide +kernel
theorem dX6_revert_92 : decode cX6_revert 92 = .ok (.istore 6, 2) := by decide +kernel
theorem dX6_revert_94 : decode cX6_revert 94 = .ok (.iload 6, 2) := by decide +kernel
theorem dX6_revert_96 : decode cX6_revert 96 = .ok (.aload_n 0, 1) := by decide +kernel
theorem dX6_revert_97 : decode cX6_revert 97 = .ok (.getfield 198, 3) := by decide +kernel
theorem dX6_revert_100 : decode cX6_revert 100 = .ok (.if_icmp .ge 55, 3) := by decide +kernel
theorem dX6_revert_103 : decode cX6_revert 103 = .ok (.aload_n 2, 1) := by decide +kernel
theorem dX6_revert_104 : decode cX6_revert 104 = .ok (.aload_n 0, 1) := by decide +kernel
theorem dX6_revert_105 : decode cX6_revert 105 = .ok (.getfield 72, 3) := by decide +kernel
theorem dX6_revert_108 : decode cX6_revert 108 = .ok (.iload 6, 2) := by decide +kernel
theorem dX6_revert_110 : decode cX6_revert 110 = .ok (.iaload, 1) := by decide +kernel
theorem dX6_revert_111 : decode cX6_revert 111 = .ok (.baload, 1) := by decide +kernel
theorem dX6_revert_112 : decode cX6_revert 112 = .ok (.ifCond .eq 20, 3) := by decide +kernel
theorem dX6_revert_115 : decode cX6_revert 115 = .ok (.aload_n 0, 1) := by decide +kernel
theorem dX6_revert_116 : decode cX6_revert 116 = .ok (.getfield 75, 3) := by decide +kernel
theorem dX6_revert_119 : decode cX6_revert 119 = .ok (.aload_n 0, 1) := by decide +kernel
theorem dX6_revert_120 : decode cX6_revert 120 = .ok (.getfield 72, 3) := by decide +kernel
theorem dX6_revert_123 : decode cX6_revert 123 = .ok (.iload 6, 2) := by decide +kernel
theorem dX6_revert_125 : decode cX6_revert 125 = .ok (.iaload, 1) := by decide +kernel
theorem dX6_revert_126 : decode cX6_revert 126 = .ok (.bipush 118, 2) := by decide +kernel
theorem dX6_revert_128 : decode cX6_revert 128 = .ok (.castore, 1) := by decide +kernel
theorem dX6_revert_129 : decode cX6_revert 129 = .ok (.goto 20, 3) := by decide +kernel
theorem dX6_revert_132 : decode cX6_revert 132 = .ok (.aload_n 0, 1) := by decide +kernel
theorem dX6_revert_133 : decode cX6_revert 133 = .ok (.getfield 72, 3) := by decide +kernel
theorem dX6_revert_136 : decode cX6_revert 136 = .ok (.iload 5, 2) := by decide +kernel
theorem dX6_revert_138 : decode cX6_revert 138 = .ok (.aload_n 0, 1) := by decide +kernel
theorem dX6_revert_139 : decode cX6_revert 139 = .ok (.getfield 72, 3) := by decide +kernel
theorem dX6_revert_142 : decode cX6_revert 142 = .ok (.iload 6, 2) := by decide +kernel
theorem dX6_revert_144 : decode cX6_revert 144 = .ok (.iaload, 1) := by decide +kernel
theorem dX6_revert_145 : decode cX6_revert 145 = .ok (.iastore, 1) := by decide +kernel
theorem dX6_revert_146 : decode cX6_revert 146 = .ok (.iinc 5 1, 3) := by decide +kernel
theorem dX6_revert_149 : decode cX6_revert 149 = .ok (.iinc 6 1, 3) := by decide +kernel
theorem dX6_revert_152 : decode cX6_revert 152 = .ok (.goto (-58), 3) := by decide +kernel
theorem dX6_revert_155 : decode cX6_revert 155 = .ok (.aload_n 0, 1) := by decide +kernel
theorem dX6_revert_156 : decode cX6_revert 156 = .ok (.iload 5, 2) := by decide +kernel
theorem dX6_revert_158 : decode cX6_revert 158 = .ok (.putfield 198, 3) := by decide +kernel
theorem dX6_revert_161 : decode cX6_revert 161 = .ok (.iconst 0, 1) := by decide +kernel
theorem dX6_revert_162 : decode cX6_revert 162 = .ok (.istore 6, 2) := by decide +kernel
theorem dX6_revert_164 : decode cX6_revert 164 = .ok (.iload 6, 2) := by decide +kernel
theorem dX6_revert_166 : decode cX6_revert 166 = .ok (.bipush 64, 2) := by decide +kernel
theorem dX6_revert_168 : decode cX6_revert 168 = .ok (.if_icmp .ge 21, 3) := by decide +kernel
theorem dX6_revert_171 : decode cX6_revert 171 = .ok (.aload_n 0, 1) := by decide +kernel
theorem dX6_revert_172 : decode cX6_revert 172 = .ok (.getfield 17, 3) := by decide +kernel
theorem dX6_revert_175 : decode cX6_revert 175 = .ok (.iload 6, 2) := by decide +kernel
theorem dX6_revert_177 : decode cX6_revert 177 = .ok (.aload 4, 2) := by decide +kernel
theorem dX6_revert_179 : decode cX6_revert 179 = .ok (.iload 6, 2) := by decide +kernel
theorem dX6_revert_181 : decode cX6_revert 181 = .ok (.iaload, 1) := by decide +kernel
theorem dX6_revert_182 : decode cX6_revert 182 = .ok (.iastore, 1) := by decide +kernel
theorem dX6_revert_183 : decode cX6_revert 183 = .ok (.iinc 6 1, 3) := by decide +kernel
theorem dX6_revert_186 : decode cX6_revert 186 = .ok (.goto (-22), 3) := by decide +kernel
theorem dX6_revert_189 : decode cX6_revert 189 = .ok (.iload_n 3, 1) := by decide +kernel
theorem dX6_revert_190 : decode cX6_revert 190 = .ok (.ireturn, 1) := by decide +kernel
theorem dX6_mergedAt_0 : decode cX6_mergedAt 0 = .ok (.aload_n 0, 1) := by decide +kernel
theorem dX6_mergedAt_1 : decode cX6_mergedAt 1 = .ok (.iconst 0, 1) := by decide +kernel
theorem dX6_mergedAt_2 : decode cX6_mergedAt 2 = .ok (.putfield 1, 3) := by decide +kernel
theorem dX6_mergedAt_5 : decode cX6_mergedAt 5 = .ok (.iload_n 1, 1) := by decide +kernel
theorem dX6_mergedAt_6 : decode cX6_mergedAt 6 = .ok (.iconst 0, 1) := by decide +kernel
theorem dX6_mergedAt_7 : decode cX6_mergedAt 7 = .ok (.aload_n 0, 1) := by decide +kernel
theorem dX6_mergedAt_8 : decode cX6_mergedAt 8 = .ok (.getfield 198, 3) := by decide +kernel
theorem dX6_mergedAt_11 : decode cX6_mergedAt 11 = .ok (.iconst 1, 1) := by decide +kernel
theorem dX6_mergedAt_12 : decode cX6_mergedAt 12 = .ok (.isub, 1) := by decide +kernel
theorem dX6_mergedAt_13 : decode cX6_mergedAt 13 = .ok (.invokestatic 7, 3) := by decide +kernel
theorem dX6_mergedAt_16 : decode cX6_mergedAt 16 = .ok (.ifCond .eq 12, 3) := by decide +kernel
theorem dX6_mergedAt_19 : decode cX6_mergedAt 19 = .ok (.aload_n 0, 1) := by decide +kernel
theorem dX6_mergedAt_20 : decode cX6_mergedAt 20 = .ok (.getfield 72, 3) := by decide +kernel
theorem dX6_mergedAt_23 : decode cX6_mergedAt 23 = .ok (.iload_n 1, 1) := by decide +kernel
theorem dX6_mergedAt_24 : decode cX6_mergedAt 24 = .ok (.iaload, 1) := by decide +kernel
theorem dX6_mergedAt_25 : decode cX6_mergedAt 25 = .ok (.goto 8, 3) := by decide +kernel
theorem dX6_mergedAt_28 : decode cX6_mergedAt 28 = .ok (.aload_n 0, 1) := by decide +kernel
theorem dX6_mergedAt_29 : decode cX6_mergedAt 29 = .ok (.iconst 1, 1) := by decide +kernel
theorem dX6_mergedAt_30 : decode cX6_mergedAt 30 = .ok (.invokevirtual 96, 3) := by decide +kernel
theorem dX6_mergedAt_33 : decode cX6_mergedAt 33 = .ok (.ireturn, 1) := by decide +kernel
theorem dX6_isGood_0 : decode cX6_isGood 0 = .ok (.aload_n 0, 1) := by decide +kernel
theorem dX6_isGood_1 : decode cX6_isGood 1 = .ok (.iconst 0, 1) := by decide +kernel
theorem dX6_isGood_2 : decode cX6_isGood 2 = .ok (.putfield 1, 3) := by decide +kernel
theorem dX6_isGood_5 : decode cX6_isGood 5 = .ok (.iload_n 1, 1) := by decide +kernel
theorem dX6_isGood_6 : decode cX6_isGood 6 = .ok (.invokestatic 92, 3) := by decide +kernel
theorem dX6_isGood_9 : decode cX6_isGood 9 = .ok (.ifCond .eq 15, 3) := by decide +kernel
theorem dX6_isGood_12 : decode cX6_isGood 12 = .ok (.aload_n 0, 1) := by decide +kernel
theorem dX6_isGood_13 : decode cX6_isGood 13 = .ok (.aload_n 0, 1) := by decide +kernel
theorem dX6_isGood_14 : decode cX6_isGood 14 = .ok (.getfield 17, 3) := by decide +kernel
theorem dX6_isGood_17 : decode cX6_isGood 17 = .ok (.iload_n 1, 1) := by decide +kernel
theorem dX6_isGood_18 : decode cX6_isGood 18 = .ok (.invokevirtual 156, 3) := by decide +kernel
theorem dX6_isGood_21 : decode cX6_isGood 21 = .ok (.goto 8, 3) := by decide +kernel
theorem dX6_isGood_24 : decode cX6_isGood 24 = .ok (.aload_n 0, 1) := by decide +kernel
theorem dX6_isGood_25 : decode cX6_isGood 25 = .ok (.iconst 1, 1) := by decide +kernel
theorem dX6_isGood_26 : decode cX6_isGood 26 = .ok (.invokevirtual 103, 3) := by decide +kernel
theorem dX6_isGood_29 : decode cX6_isGood 29 = .ok (.ireturn, 1) := by decide +kernel
theorem dX6_builds_0 : decode cX6_builds 0 = .ok (.aload_n 0, 1) := by decide +kernel
theorem dX6_builds_1 : decode cX6_builds 1 = .ok (.iconst 0, 1) := by decide +kernel
theorem dX6_builds_2 : decode cX6_builds 2 = .ok (.putfield 1, 3) := by decide +kernel
theorem dX6_builds_5 : decode cX6_builds 5 = .ok (.aload_n 0, 1) := by decide +kernel
theorem dX6_builds_6 : decode cX6_builds 6 = .ok (.getfield 187, 3) := by decide +kernel
theorem dX6_builds_9 : decode cX6_builds 9 = .ok (.ireturn, 1) := by decide +kernel
theorem dX6_taken_0 : decode cX6_taken 0 = .ok (.aload_n 0, 1) := by decide +kernel
theorem dX6_taken_1 : decode cX6_taken 1 = .ok (.iconst 0, 1) := by decide +kernel
theorem dX6_taken_2 : decode cX6_taken 2 = .ok (.putfield 1, 3) := by decide +kernel
theorem dX6_taken_5 : decode cX6_taken 5 = .ok (.aload_n 0, 1) := by decide +kernel
theorem dX6_taken_6 : decode cX6_taken 6 = .ok (.getfield 183, 3) := by decide +kernel
theorem dX6_taken_9 : decode cX6_taken 9 = .ok (.lreturn, 1) := by decide +kernel
theorem dX6_takenShare_0 : decode cX6_takenShare 0 = .ok (.aload_n 0, 1) := by decide +kernel
theorem dX6_takenShare_1 : decode cX6_takenShare 1 = .ok (.iconst 0, 1) := by decide +kernel
theorem dX6_takenShare_2 : decode cX6_takenShare 2 = .ok (.putfield 1, 3) := by decide +kernel
theorem dX6_takenShare_5 : decode cX6_takenShare 5 = .ok (.aload_n 0, 1) := by decide +kernel
theorem dX6_takenShare_6 : decode cX6_takenShare 6 = .ok (.getfield 183, 3) := by decide +kernel
theorem dX6_takenShare_9 : decode cX6_takenShare 9 = .ok (.aload_n 0, 1) := by decide +kernel
theorem dX6_takenShare_10 : decode cX6_takenShare 10 = .ok (.getfield 187, 3) := by decide +kernel
theorem dX6_takenShare_13 : decode cX6_takenShare 13 = .ok (.i2l, 1) := by decide +kernel
theorem dX6_takenShare_14 : decode cX6_takenShare 14 = .ok (.ladd, 1) := by decide +kernel
theorem dX6_takenShare_15 : decode cX6_takenShare 15 = .ok (.lconst 0, 1) := by decide +kernel
theorem dX6_takenShare_16 : decode cX6_takenShare 16 = .ok (.lcmp, 1) := by decide +kernel
theorem dX6_takenShare_17 : decode cX6_takenShare 17 = .ok (.ifCond .ne 12, 3) := by decide +kernel
theorem dX6_takenShare_20 : decode cX6_takenShare 20 = .ok (.aload_n 0, 1) := by decide +kernel
theorem dX6_takenShare_21 : decode cX6_takenShare 21 = .ok (.iconst 1, 1) := by decide +kernel
theorem dX6_takenShare_22 : decode cX6_takenShare 22 = .ok (.invokevirtual 96, 3) := by decide +kernel
theorem dX6_takenShare_25 : decode cX6_takenShare 25 = .ok (.i2f, 1) := by decide +kernel
theorem dX6_takenShare_26 : decode cX6_takenShare 26 = .ok (.goto 20, 3) := by decide +kernel
theorem dX6_takenShare_29 : decode cX6_takenShare 29 = .ok (.aload_n 0, 1) := by decide +kernel
theorem dX6_takenShare_30 : decode cX6_takenShare 30 = .ok (.getfield 183, 3) := by decide +kernel
theorem dX6_takenShare_33 : decode cX6_takenShare 33 = .ok (.l2f, 1) := by decide +kernel
theorem dX6_takenShare_34 : decode cX6_takenShare 34 = .ok (.aload_n 0, 1) := by decide +kernel
theorem dX6_takenShare_35 : decode cX6_takenShare 35 = .ok (.getfield 183, 3) := by decide +kernel
theorem dX6_takenShare_38 : decode cX6_takenShare 38 = .ok (.aload_n 0, 1) := by decide +kernel
theorem dX6_takenShare_39 : decode cX6_takenShare 39 = .ok (.getfield 187, 3) := by decide +kernel
theorem dX6_takenShare_42 : decode cX6_takenShare 42 = .ok (.i2l, 1) := by decide +kernel
theorem dX6_takenShare_43 : decode cX6_takenShare 43 = .ok (.ladd, 1) := by decide +kernel
theorem dX6_takenShare_44 : decode cX6_takenShare 44 = .ok (.l2f, 1) := by decide +kernel
theorem dX6_takenShare_45 : decode cX6_takenShare 45 = .ok (.fdiv, 1) := by decide +kernel
theorem dX6_takenShare_46 : decode cX6_takenShare 46 = .ok (.freturn, 1) := by decide +kernel
theorem dX6_meanEdits_0 : decode cX6_meanEdits 0 = .ok (.aload_n 0, 1) := by decide +kernel
theorem dX6_meanEdits_1 : decode cX6_meanEdits 1 = .ok (.iconst 0, 1) := by decide +kernel
theorem dX6_meanEdits_2 : decode cX6_meanEdits 2 = .ok (.putfield 1, 3) := by decide +kernel
theorem dX6_meanEdits_5 : decode cX6_meanEdits 5 = .ok (.iconst 0, 1) := by decide +kernel
theorem dX6_meanEdits_6 : decode cX6_meanEdits 6 = .ok (.istore_n 1, 1) := by decide +kernel
theorem dX6_meanEdits_7 : decode cX6_meanEdits 7 = .ok (.iconst 0, 1) := by decide +kernel
theorem dX6_meanEdits_8 : decode cX6_meanEdits 8 = .ok (.istore_n 2, 1) := by decide +kernel
theorem dX6_meanEdits_9 : decode cX6_meanEdits 9 = .ok (.iload_n 2, 1) := by decide +kernel
theorem dX6_meanEdits_10 : decode cX6_meanEdits 10 = .ok (.aload_n 0, 1) := by decide +kernel
theorem dX6_meanEdits_11 : decode cX6_meanEdits 11 = .ok (.getfield 198, 3) := by decide +kernel
theorem dX6_meanEdits_14 : decode cX6_meanEdits 14 = .ok (.if_icmp .ge 22, 3) := by decide +kernel
theorem dX6_meanEdits_17 : decode cX6_meanEdits 17 = .ok (.iload_n 1, 1) := by decide +kernel
theorem dX6_meanEdits_18 : decode cX6_meanEdits 18 = .ok (.aload_n 0, 1) := by decide +kernel
theorem dX6_meanEdits_19 : decode cX6_meanEdits 19 = .ok (.aload_n 0, 1) := by decide +kernel
theorem dX6_meanEdits_20 : decode cX6_meanEdits 20 = .ok (.getfield 72, 3) := by decide +kernel
theorem dX6_meanEdits_23 : decode cX6_meanEdits 23 = .ok (.iload_n 2, 1) := by decide +kernel
theorem dX6_meanEdits_24 : decode cX6_meanEdits 24 = .ok (.iaload, 1) := by decide +kernel
theorem dX6_meanEdits_25 : decode cX6_meanEdits 25 = .ok (.invokevirtual 113, 3) := by decide +kernel
theorem dX6_meanEdits_28 : decode cX6_meanEdits 28 = .ok (.iadd, 1) := by decide +kernel
theorem dX6_meanEdits_29 : decode cX6_meanEdits 29 = .ok (.istore_n 1, 1) := by decide +kernel
theorem dX6_meanEdits_30 : decode cX6_meanEdits 30 = .ok (.iinc 2 1, 3) := by decide +kernel
theorem dX6_meanEdits_33 : decode cX6_meanEdits 33 = .ok (.goto (-24), 3) := by decide +kernel
theorem dX6_meanEdits_36 : decode cX6_meanEdits 36 = .ok (.aload_n 0, 1) := by decide +kernel
theorem dX6_meanEdits_37 : decode cX6_meanEdits 37 = .ok (.getfield 198, 3) := by decide +kernel
theorem dX6_meanEdits_40 : decode cX6_meanEdits 40 = .ok (.ifCond .ne 12, 3) := by decide +kernel
theorem dX6_meanEdits_43 : decode cX6_meanEdits 43 = .ok (.aload_n 0, 1) := by decide +kernel
theorem dX6_meanEdits_44 : decode cX6_meanEdits 44 = .ok (.iconst 1, 1) := by decide +kernel
theorem dX6_meanEdits_45 : decode cX6_meanEdits 45 = .ok (.invokevirtual 96, 3) := by decide +kernel
theorem dX6_meanEdits_48 : decode cX6_meanEdits 48 = .ok (.i2d, 1) := by decide +kernel
theorem dX6_meanEdits_49 : decode cX6_meanEdits 49 = .ok (.goto 11, 3) := by decide +kernel
theorem dX6_meanEdits_52 : decode cX6_meanEdits 52 = .ok (.iload_n 1, 1) := by decide +kernel
theorem dX6_meanEdits_53 : decode cX6_meanEdits 53 = .ok (.i2d, 1) := by decide +kernel
theorem dX6_meanEdits_54 : decode cX6_meanEdits 54 = .ok (.aload_n 0, 1) := by decide +kernel
theorem dX6_meanEdits_55 : decode cX6_meanEdits 55 = .ok (.getfield 198, 3) := by decide +kernel
theorem dX6_meanEdits_58 : decode cX6_meanEdits 58 = .ok (.i2d, 1) := by decide +kernel
theorem dX6_meanEdits_59 : decode cX6_meanEdits 59 = .ok (.ddiv, 1) := by decide +kernel
theorem dX6_meanEdits_60 : decode cX6_meanEdits 60 = .ok (.dreturn, 1) := by decide +kernel
theorem dX6_isSound_0 : decode cX6_isSound 0 = .ok (.aload_n 0, 1) := by decide +kernel
theorem dX6_isSound_1 : decode cX6_isSound 1 = .ok (.iconst 0, 1) := by decide +kernel
theorem dX6_isSound_2 : decode cX6_isSound 2 = .ok (.putfield 1, 3) := by decide +kernel
theorem dX6_isSound_5 : decode cX6_isSound 5 = .ok (.iconst 1, 1) := by decide +kernel
theorem dX6_isSound_6 : decode cX6_isSound 6 = .ok (.ireturn, 1) := by decide +kernel
end
section
/-! ===== the words that every method has: one list for all ===== -/
def lw_good : List Cond := lw_tbl.filter goodWord
theorem gd_in {w : Cond} (h : w ∈ lw_tbl) (g : goodWord w = true) : w ∈ lw_good := List.mem_filter.mpr ⟨h, g⟩
theorem gd_at {w : Cond} (i : Nat) (h : lw_tbl[i]? = some w) (g : goodWord w = true) : w ∈ lw_good := gd_in (List.mem_of_getElem? h) g
theorem gd_ok {w : Cond} (h : w ∈ lw_good) : goodWord w = true := (List.mem_filter.mp h).2
theorem gd_good {w0 : Cond} (h : w0 ∈ lw_good) : GoodIn lw_good (w0 :: lw_good) := fun w hw => by
  rcases List.mem_cons.mp hw with rfl | h1
  · exact ⟨h, good_of_word (gd_ok h)⟩
  · exact ⟨h1, good_of_word (gd_ok h1)⟩
/-- words that are not 'good', but stay true when the tables grow warm -/
def ngw : Cond → Bool
  | .fieldLinkNest .. => true
  | .methodLinkNest .. => true
  | .castable .. => true
  | .declares .. => true
  | _ => false
def lw_ng : List Cond := lw_tbl.filter ngw
theorem ng_in {w : Cond} (h : w ∈ lw_tbl) (g : ngw w = true) : w ∈ lw_ng := List.mem_filter.mpr ⟨h, g⟩
theorem ng_at {w : Cond} (i : Nat) (h : lw_tbl[i]? = some w) (g : ngw w = true) : w ∈ lw_ng := ng_in (List.mem_of_getElem? h) g
theorem ng_warm {w : Cond} (hw : ngw w = true) {s U : State} (hW : s.WarmedH U.vm) (h : va_Nw w s) : va_Nw w U := by
  cases w with
  | fieldLinkNest a i b n d h0 => exact va_Nw.warmF hW h
  | methodLinkNest a i x h0 => exact va_Nw.warmM hW h
  | castable a b => exact va_Nw.warmC hW h
  | declares x => exact va_Nw.warmD hW h
  | _ => cases hw
theorem ng_tables {w : Cond} (hw : ngw w = true) : w.onTables = true := by
  cases w <;> first | rfl | (cases hw; done) | simp [Cond.onTables]
/-- an array class over a class or over arrays has been made -/
def AOt (t : FieldType) (U : State) : Prop := (Cond.arrayOver t).before #[] U = true
theorem AOt.use {t : FieldType} {A : Array Value} {U : State} (h : AOt t U) : (Cond.arrayOver t).before A U = true := h
theorem AOt.of {t : FieldType} {A : Array Value} {U : State} (h : (Cond.arrayOver t).before A U = true) : AOt t U := h
theorem AOt.moved {t : FieldType} {u U : State} (hvm : u.vm.Alike U.vm) (h : AOt t u) : AOt t U := by
  unfold AOt Cond.before Cond.holds at h ⊢
  simp only [Cond.value, beq_iff_eq, Option.bind_eq_some_iff, Option.map_eq_some_iff] at h ⊢
  obtain ⟨comp, hc, c, hi, k, hk, hb⟩ := h
  obtain ⟨k', hk', he⟩ := hvm.2.2 _ _ hk
  have hkk : k'.kind = k.kind := by rw [he]
  refine ⟨comp, ?_, c, ?_, k', hk', ?_⟩
  · cases t <;> first | exact hc | (simp only at hc ⊢; rw [hvm.findClass]; exact hc)
  · refine (va_idx_bare U.vm comp).symm.trans ?_
    first | rw [hvm.bare_eq] | rw [← hvm.bare_eq]
    exact (va_idx_bare u.vm comp).trans hi
  · simp only [hkk, hvm.findClass]
    exact hb
def aos : List FieldType := lw_tbl.filterMap (fun w => match w with | .arrayOver t => some t | _ => none)
/-! ===== the picture: one memory of numbers for the class and for the model ===== -/
abbrev GT : Type := va_G × Nat × (Nat → ClassId) × (Nat → Nat)
abbrev KF : Type := Nat → Nat → Nat → Prop
abbrev AD : Type := Nat → Nat → Nat → Nat
abbrev SG : Type := Nat → Nat → Nat → Nat → Nat
abbrev MT : Type := KF × AD × SG
abbrev iv (n : Nat) : Value := .int (nI n)
abbrev jv (n : Nat) : Value := .long (lN n)
def rf : Nat → Option Nat
  | 0 => none
  | n + 1 => some n
def dm : Nat → Int32
  | 0 => -1
  | n + 1 => nI n
def AB (G : GT) : Nat → Prop := fun q => G.2.1 ≤ q
abbrev CL : List vw_C := [(RX5, TX5, 12), (RX1, TX1, 9), (RX2, TX2, 2), (RX3, TX3, 4), (RX4, TX4, 7), (RX0, TX0, 3), (RX6, TX6, 26), (RJx4a65c, TJx4a65c, 3), (RJx35411, TJx35411, 4)]
abbrev TYS (cA : Nat → ClassId) : List (ClassId × FieldType) := [(cA 0, .int), (cA 1, .boolean), (cA 2, .char), (cA 3, .long), (cA 4, .double), (cA 5, .object "Branchyard$Change"), (cA 6, .object "Branchyard$Test"), (cA 7, .object "Branchyard$Cell"), (cA 8, .array .int), (cA 9, .array .boolean), (cA 10, .array .char), (cA 11, .array (.array .int)), (cA 12, .object "java/lang/Object")]
abbrev eI (c : ClassId) (n : Nat) (s : Nat → Nat) : va_E := .inl (c, n, .inl fun x => nI (s x))
abbrev eM (c : ClassId) (n : Nat) (s : Nat → Nat) : va_E := .inl (c, n, .inl fun x => dm (s x))
abbrev eL (c : ClassId) (n : Nat) (s : Nat → Nat) : va_E := .inl (c, n, .inr (.inl fun x => lN (s x)))
abbrev eD (c : ClassId) (n : Nat) (s : Nat → Nat) : va_E := .inl (c, n, .inr (.inr (.inr (.inl fun x => UInt64.ofNat (s x)))))
abbrev eQ (c : ClassId) (n : Nat) (f : Nat → Option Nat) : va_E := .inl (c, n, .inr (.inr (.inr (.inr f))))
/-- what stands at a key -/
def enck (cA : Nat → ClassId) (ad : AD) (k i j : Nat) (s : Nat → Nat) : va_E := match k with
  | 0 => .inr (0, [.ref (ad 1 0 0), .ref (ad 2 0 0), .ref (ad 3 0 0), .ref (ad 4 0 0), .ref (ad 5 0 0), iv (s 0), .ref (ad 12 0 0), .ref (ad 12 1 0), .ref (ad 14 0 0), .ref (ad 15 0 0), .ref (ad 15 1 0), .ref (ad 16 0 0)])
  | 1 => eI (cA 0) 4 s
  | 2 => eI (cA 0) 4 s
  | 3 => eI (cA 1) 4 s
  | 4 => eI (cA 1) 6 s
  | 5 => eQ (cA 5) 16 (fun x => some (ad 6 x 0))
  | 6 => .inr (1, [iv (s 0), iv (s 1), iv (s 2), jv (s 3), jv (s 4), .ref (ad 7 i 0), .ref (ad 8 i 0), .ref (ad 9 i 0), .ref (ad 10 i 0)])
  | 7 => eI (cA 0) 64 s
  | 8 => eI (cA 0) 6 s
  | 9 => eL (cA 3) 6 s
  | 10 => eQ (cA 8) 6 (fun x => some (ad 11 i x))
  | 11 => eI (cA 0) 64 s
  | 12 => .inr (2, [.ref (ad 13 i 0), iv (s 0)])
  | 13 => eI (cA 0) 16 s
  | 14 => eI (cA 0) 4 s
  | 15 => eI (cA 0) 64 s
  | 16 => .inr (4, [.ref (ad 17 0 0), iv (s 0), .ref (ad 19 0 0), iv (s 1), .ref (ad 20 0 0), iv (s 2), jv (s 3)])
  | 17 => eQ (cA 6) 12 (fun x => some (ad 18 x 0))
  | 18 => .inr (3, [iv (s 0), iv (s 1), iv (s 2), iv (s 3)])
  | 19 => eQ (cA 7) 4 (fun x => rf (s x))
  | 20 => eI (cA 0) 24 s
  | 21 => .inr (5, [.ref (ad 22 i 0), iv (s 0), va_rf (rf (s 1))])
  | 22 => eI (cA 0) (s 30) s
  | 30 => .inr (6, [iv (s 0), .ref (ad 31 0 0), .ref (ad 32 0 0), .ref (ad 33 0 0), .ref (ad 34 0 0), .ref (ad 35 0 0), iv (s 1), .ref (ad 36 0 0), .ref (ad 37 0 0), .ref (ad 38 0 0), .ref (ad 39 0 0), .ref (ad 40 0 0), .ref (ad 42 0 0), .ref (ad 44 0 0), .ref (ad 46 0 0), .ref (ad 49 0 0), .ref (ad 50 0 0), .ref (ad 51 0 0), .ref (ad 52 0 0), .ref (ad 53 0 0), iv (s 2), iv (s 3), iv (s 4), iv (s 5), jv (s 6), .ref (ad 54 0 0)])
  | 31 => eI (cA 0) 64 s
  | 32 => eI (cA 0) 12 s
  | 33 => eI (cA 0) 12 s
  | 34 => eI (cA 0) 12 s
  | 35 => eI (cA 1) 12 s
  | 36 => eI (cA 0) 4 s
  | 37 => eI (cA 0) 4 s
  | 38 => eI (cA 1) 4 s
  | 39 => eI (cA 1) 6 s
  | 40 => eQ (cA 8) 16 (fun x => some (ad 41 x 0))
  | 41 => eM (cA 0) 64 s
  | 42 => eQ (cA 9) 16 (fun x => some (ad 43 x 0))
  | 43 => eI (cA 1) 64 s
  | 44 => eQ (cA 10) 16 (fun x => some (ad 45 x 0))
  | 45 => eI (cA 2) 6 s
  | 46 => eQ (cA 11) 16 (fun x => some (ad 47 x 0))
  | 47 => eQ (cA 8) 6 (fun x => some (ad 48 i x))
  | 48 => eM (cA 0) 64 s
  | 49 => eI (cA 0) 16 s
  | 50 => eI (cA 0) 16 s
  | 51 => eI (cA 0) 16 s
  | 52 => eI (cA 2) 16 s
  | 53 => eI (cA 1) 16 s
  | 54 => .inr (7, [iv (s 0), va_rf (rf (s 1)), iv (s 2)])
  | 55 => eQ (cA 12) (s 9000) (fun x => rf (s x))
  | 56 => eI (cA 0) (s 30) s
  | 57 => eI (cA 0) 4 s
  | 58 => eI (cA 1) 16 s
  | 59 => .inr (8, [iv (s 0), iv (s 1), iv (s 2), .ref (ad 54 0 0)])
  | 60 => eL (cA 3) 1 s
  | 61 => eD (cA 4) 1 s
  | 62 => eI (cA 0) 64 s
  | 80 => eI (cA (s 9001)) (s 9000) s
  | 81 => eL (cA 3) (s 9000) s
  | 82 => eQ (cA (s 9001)) (s 9000) (fun x => rf (s x))
  | 90 => .inr (0, [va_rf (rf (s 0)), va_rf (rf (s 1)), va_rf (rf (s 2)), va_rf (rf (s 3)), va_rf (rf (s 4)), iv (s 5), va_rf (rf (s 6)), va_rf (rf (s 7)), va_rf (rf (s 8)), va_rf (rf (s 9)), va_rf (rf (s 10)), va_rf (rf (s 11))])
  | 91 => .inr (1, [iv (s 0), iv (s 1), iv (s 2), jv (s 3), jv (s 4), va_rf (rf (s 5)), va_rf (rf (s 6)), va_rf (rf (s 7)), va_rf (rf (s 8))])
  | 92 => .inr (2, [va_rf (rf (s 0)), iv (s 1)])
  | 93 => .inr (3, [iv (s 0), iv (s 1), iv (s 2), iv (s 3)])
  | 94 => .inr (4, [va_rf (rf (s 0)), iv (s 1), va_rf (rf (s 2)), iv (s 3), va_rf (rf (s 4)), iv (s 5), jv (s 6)])
  | 95 => .inr (5, [va_rf (rf (s 0)), iv (s 1), va_rf (rf (s 2))])
  | 96 => .inr (6, [iv (s 0), va_rf (rf (s 1)), va_rf (rf (s 2)), va_rf (rf (s 3)), va_rf (rf (s 4)), va_rf (rf (s 5)), iv (s 6), va_rf (rf (s 7)), va_rf (rf (s 8)), va_rf (rf (s 9)), va_rf (rf (s 10)), va_rf (rf (s 11)), va_rf (rf (s 12)), va_rf (rf (s 13)), va_rf (rf (s 14)), va_rf (rf (s 15)), va_rf (rf (s 16)), va_rf (rf (s 17)), va_rf (rf (s 18)), va_rf (rf (s 19)), iv (s 20), iv (s 21), iv (s 22), iv (s 23), jv (s 24), va_rf (rf (s 25))])
  | 97 => .inr (7, [iv (s 0), va_rf (rf (s 1)), iv (s 2)])
  | 98 => .inr (8, [iv (s 0), iv (s 1), iv (s 2), va_rf (rf (s 3))])
  | _ => .inr (3, [iv (s 0), iv (s 1), iv (s 2), iv (s 3)])
def Rep (G : GT) (ok : KF) (ad : AD) (σ : SG) (H : Heap) : Prop :=
  (∀ k i j, ok k i j → va_at G.1 CL (ad k i j, enck G.2.2.1 ad k i j (σ k i j)) H ∧ G.2.1 ≤ ad k i j) ∧
  ∀ k i j k' i' j', ok k i j → ok k' i' j' → ad k i j = ad k' i' j' → k = k' ∧ i = i' ∧ j = j'
theorem one_P {D : va_G} {cl : List vw_C} {q : Nat × va_E} {H : Heap} (h : va_at D cl q H) : va_P D cl [q] H := fun k r hk => by
  cases k with
  | zero => cases hk; exact h
  | succ k => simp at hk
theorem Rep.one {G : GT} {ok : KF} {ad : AD} {σ : SG} {H : Heap} (h : Rep G ok ad σ H) {k i j : Nat} (hk : ok k i j) {e : va_E} (he : enck G.2.2.1 ad k i j (σ k i j) = e) : va_P G.1 CL [(ad k i j, e)] H := by
  subst he
  exact one_P (h.1 k i j hk).1
theorem Rep.lt {G : GT} {ok : KF} {ad : AD} {σ : SG} {H : Heap} (h : Rep G ok ad σ H) {k i j : Nat} (hk : ok k i j) : ad k i j < H.size := (h.1 k i j hk).1.lt
theorem Rep.ge {G : GT} {ok : KF} {ad : AD} {σ : SG} {H : Heap} (h : Rep G ok ad σ H) {k i j : Nat} (hk : ok k i j) : AB G (ad k i j) := (h.1 k i j hk).2
/-- one slot written, a row written over -/
def up (σ : SG) (k i j x v : Nat) : SG := fun k' i' j' x' => if k' = k ∧ i' = i ∧ j' = j ∧ x' = x then v else σ k' i' j' x'
def upr (σ : SG) (k i j : Nat) (f : Nat → Nat) : SG := fun k' i' j' x' => if k' = k ∧ i' = i ∧ j' = j then f x' else σ k' i' j' x'
theorem up_row (σ : SG) (k i j x v : Nat) : up σ k i j x v k i j = fun x' => if x' = x then v else σ k i j x' := by
  funext x'
  simp [up]
theorem up_off (σ : SG) {k i j : Nat} (x v : Nat) {k' i' j' : Nat} (h : ¬ (k' = k ∧ i' = i ∧ j' = j)) : up σ k i j x v k' i' j' = σ k' i' j' := by
  funext x'
  have h2 : ¬ (k' = k ∧ i' = i ∧ j' = j ∧ x' = x) := fun q => h ⟨q.1, q.2.1, q.2.2.1⟩
  simp only [up, if_neg h2]
theorem upr_row (σ : SG) (k i j : Nat) (f : Nat → Nat) : upr σ k i j f k i j = f := by
  funext x'
  simp [upr]
theorem upr_off (σ : SG) {k i j : Nat} (f : Nat → Nat) {k' i' j' : Nat} (h : ¬ (k' = k ∧ i' = i ∧ j' = j)) : upr σ k i j f k' i' j' = σ k' i' j' := by
  funext x'
  simp only [upr, if_neg h]
theorem Rep.set {G : GT} {ok : KF} {ad : AD} {σ σ' : SG} {H H1 : Heap} (h : Rep G ok ad σ H) {k i j : Nat} (hk : ok k i j) (he : va_at G.1 CL (ad k i j, enck G.2.2.1 ad k i j (σ' k i j)) H1) (oq : ∀ q, q ≠ ad k i j → H1[q]? = H[q]?)
    (ho : ∀ k' i' j', ¬ (k' = k ∧ i' = i ∧ j' = j) → σ' k' i' j' = σ k' i' j') : Rep G ok ad σ' H1 := by
  refine ⟨fun k' i' j' hk' => ?_, h.2⟩
  by_cases c : k' = k ∧ i' = i ∧ j' = j
  · obtain ⟨rfl, rfl, rfl⟩ := c
    exact ⟨he, (h.1 _ _ _ hk').2⟩
  · obtain ⟨h1, h2⟩ := h.1 k' i' j' hk'
    rw [ho k' i' j' c]
    exact ⟨h1.kept (oq _ fun q => c (h.2 _ _ _ _ _ _ hk' hk q)), h2⟩
theorem Rep.weak {G : GT} {ok ok' : KF} {ad : AD} {σ : SG} {H : Heap} (h : Rep G ok ad σ H) (hw : ∀ k i j, ok' k i j → ok k i j) : Rep G ok' ad σ H :=
  ⟨fun k i j q => h.1 k i j (hw k i j q), fun k i j k' i' j' q q' e => h.2 k i j k' i' j' (hw _ _ _ q) (hw _ _ _ q') e⟩
/-- the same cells under other keys -/
theorem Rep.map {G : GT} {ok ok' : KF} {ad ad' : AD} {σ σ' : SG} {H : Heap} (h : Rep G ok ad σ H) (f : Nat → Nat → Nat → Nat × Nat × Nat)
    (hf : ∀ k i j, ok' k i j → ok (f k i j).1 (f k i j).2.1 (f k i j).2.2 ∧ ad' k i j = ad (f k i j).1 (f k i j).2.1 (f k i j).2.2 ∧ enck G.2.2.1 ad' k i j (σ' k i j) = enck G.2.2.1 ad (f k i j).1 (f k i j).2.1 (f k i j).2.2 (σ (f k i j).1 (f k i j).2.1 (f k i j).2.2))
    (hi : ∀ k i j k' i' j', ok' k i j → ok' k' i' j' → f k i j = f k' i' j' → k = k' ∧ i = i' ∧ j = j') : Rep G ok' ad' σ' H := by
  refine ⟨fun k i j q => ?_, fun k i j k' i' j' q q' e => hi k i j k' i' j' q q' ?_⟩
  · obtain ⟨h1, h2, h3⟩ := hf k i j q
    rw [h2, h3]
    exact h.1 _ _ _ h1
  · obtain ⟨h1, h2, -⟩ := hf k i j q
    obtain ⟨h1', h2', -⟩ := hf k' i' j' q'
    rw [h2, h2'] at e
    obtain ⟨e1, e2, e3⟩ := h.2 _ _ _ _ _ _ h1 h1' e
    exact Prod.ext e1 (Prod.ext e2 e3)
/-- one key more -/
def okA (ok : KF) (k i j : Nat) : KF := fun k' i' j' => ok k' i' j' ∨ (k' = k ∧ i' = i ∧ j' = j)
def adA (ad : AD) (k i j a : Nat) : AD := fun k' i' j' => if k' = k ∧ i' = i ∧ j' = j then a else ad k' i' j'
theorem adA_self (ad : AD) (k i j a : Nat) : adA ad k i j a k i j = a := if_pos ⟨rfl, rfl, rfl⟩
theorem adA_off (ad : AD) {k i j : Nat} (a : Nat) {k' i' j' : Nat} (h : ¬ (k' = k ∧ i' = i ∧ j' = j)) : adA ad k i j a k' i' j' = ad k' i' j' := if_neg h
/-- kinds that no cell's picture names -/
def dynk (k : Nat) : Prop := k = 0 ∨ k = 21 ∨ k = 30 ∨ 55 ≤ k
theorem enck_dyn {cA : Nat → ClassId} {ad : AD} {k0 i0 j0 a : Nat} (hd : dynk k0) (k i j : Nat) (s : Nat → Nat) : enck cA (adA ad k0 i0 j0 a) k i j s = enck cA ad k i j s := by
  have f : ∀ k' i' j', 0 < k' → k' ≠ 21 → k' ≠ 30 → k' < 55 → adA ad k0 i0 j0 a k' i' j' = ad k' i' j' := fun k' i' j' h1 h2 h3 h4 => adA_off ad a (by
    rintro ⟨rfl, -, -⟩
    rcases hd with h | h | h | h <;> omega)
  have g : ∀ k', 0 < k' → k' ≠ 21 → k' ≠ 30 → k' < 55 → adA ad k0 i0 j0 a k' = ad k' := fun k' h1 h2 h3 h4 => funext fun i' => funext fun j' => f k' i' j' h1 h2 h3 h4
  unfold enck
  rw [g 1 (by decide) (by decide) (by decide) (by decide), g 2 (by decide) (by decide) (by decide) (by decide), g 3 (by decide) (by decide) (by decide) (by decide), g 4 (by decide) (by decide) (by decide) (by decide), g 5 (by decide) (by decide) (by decide) (by decide), g 6 (by decide) (by decide) (by decide) (by decide), g 7 (by decide) (by decide) (by decide) (by decide), g 8 (by decide) (by decide) (by decide) (by decide), g 9 (by decide) (by decide) (by decide) (by decide), g 10 (by decide) (by decide) (by decide) (by decide), g 11 (by decide) (by decide) (by decide) (by decide), g 12 (by decide) (by decide) (by decide) (by decide), g 13 (by decide) (by decide) (by decide) (by decide), g 14 (by decide) (by decide) (by decide) (by decide), g 15 (by decide) (by decide) (by decide) (by decide), g 16 (by decide) (by decide) (by decide) (by decide), g 17 (by decide) (by decide) (by decide) (by decide), g 18 (by decide) (by decide) (by decide) (by decide), g 19 (by decide) (by decide) (by decide) (by decide), g 20 (by decide) (by decide) (by decide) (by decide), g 22 (by decide) (by decide) (by decide) (by decide)]
  rw [g 31 (by decide) (by decide) (by decide) (by decide), g 32 (by decide) (by decide) (by decide) (by decide), g 33 (by decide) (by decide) (by decide) (by decide), g 34 (by decide) (by decide) (by decide) (by decide), g 35 (by decide) (by decide) (by decide) (by decide), g 36 (by decide) (by decide) (by decide) (by decide), g 37 (by decide) (by decide) (by decide) (by decide), g 38 (by decide) (by decide) (by decide) (by decide), g 39 (by decide) (by decide) (by decide) (by decide), g 40 (by decide) (by decide) (by decide) (by decide), g 41 (by decide) (by decide) (by decide) (by decide), g 42 (by decide) (by decide) (by decide) (by decide), g 43 (by decide) (by decide) (by decide) (by decide), g 44 (by decide) (by decide) (by decide) (by decide), g 45 (by decide) (by decide) (by decide) (by decide), g 46 (by decide) (by decide) (by decide) (by decide), g 47 (by decide) (by decide) (by decide) (by decide), g 48 (by decide) (by decide) (by decide) (by decide), g 49 (by decide) (by decide) (by decide) (by decide), g 50 (by decide) (by decide) (by decide) (by decide), g 51 (by decide) (by decide) (by decide) (by decide), g 52 (by decide) (by decide) (by decide) (by decide), g 53 (by decide) (by decide) (by decide) (by decide), g 54 (by decide) (by decide) (by decide) (by decide)]
/-- a new cell at the heap's end, under a key that no picture names -/
theorem Rep.push {G : GT} {ok : KF} {ad : AD} {σ σ' : SG} {H H1 : Heap} (h : Rep G ok ad σ H) {k i j : Nat} (hn : ¬ ok k i j) (hd : ∀ k' i' j', ok k' i' j' → ∀ s, enck G.2.2.1 (adA ad k i j H.size) k' i' j' s = enck G.2.2.1 ad k' i' j' s)
    (hB : G.2.1 ≤ H.size) (oq : ∀ q, q < H.size → H1[q]? = H[q]?) (he : va_at G.1 CL (H.size, enck G.2.2.1 (adA ad k i j H.size) k i j (σ' k i j)) H1) (ho : ∀ k' i' j', ¬ (k' = k ∧ i' = i ∧ j' = j) → σ' k' i' j' = σ k' i' j') : Rep G (okA ok k i j) (adA ad k i j H.size) σ' H1 := by
  have key : ∀ k' i' j', ok k' i' j' → ¬ (k' = k ∧ i' = i ∧ j' = j) := fun k' i' j' q e => hn (by obtain ⟨rfl, rfl, rfl⟩ := e; exact q)
  refine ⟨fun k' i' j' q => ?_, fun k' i' j' k2 i2 j2 q q2 e => ?_⟩
  · rcases q with q | ⟨rfl, rfl, rfl⟩
    · have c := key _ _ _ q
      obtain ⟨h1, h2⟩ := h.1 _ _ _ q
      rw [adA_off ad _ c, ho _ _ _ c, hd _ _ _ q]
      exact ⟨h1.kept (oq _ h1.lt), h2⟩
    · rw [adA_self]
      exact ⟨he, hB⟩
  · rcases q with q | ⟨rfl, rfl, rfl⟩ <;> rcases q2 with q2 | ⟨rfl, rfl, rfl⟩
    · rw [adA_off ad _ (key _ _ _ q), adA_off ad _ (key _ _ _ q2)] at e
      exact h.2 _ _ _ _ _ _ q q2 e
    · rw [adA_off ad _ (key _ _ _ q), adA_self] at e
      exact absurd e (Nat.ne_of_lt (h.lt q))
    · rw [adA_off ad _ (key _ _ _ q2), adA_self] at e
      exact absurd e.symm (Nat.ne_of_lt (h.lt q2))
    · exact ⟨rfl, rfl, rfl⟩
/-! ===== what stays of the start: the tables, the statics, the texts ===== -/
def strs : List (String × Nat × String) := lw_tbl.filterMap (fun w => match w with | .stringRef a k t => some (a, k, t) | _ => none)
def KK (G : GT) (U : State) : Prop := va_K G.1 CL (TYS G.2.2.1) U
def GI (G : GT) (U : State) (H : Heap) : Prop :=
  ((∀ w ∈ lw_ng, va_Nw w U) ∧ ∀ t ∈ aos, AOt t U) ∧ (∀ q ∈ strs, ∃ a, vk_R q.1 q.2.1 q.2.2 a U) ∧ vx_Zq Bundle.tN "UNASSIGNED_STACK" Bundle.steD (AB G) U H ∧ vx_Zq Bundle.tN "SUPPRESSED_SENTINEL" Bundle.listD (AB G) U H ∧
  va_Z "java/util/ArrayList" "DEFAULTCAPACITY_EMPTY_ELEMENTDATA" "[Ljava/lang/Object;" (.ref (G.2.2.2 0)) (AB G) U H ∧ (H[G.2.2.2 0]? = some (vp_cell (G.2.2.1 12) (0, .inr (.inr (.inr (.inr fun _ => none))))) ∧ ¬ AB G (G.2.2.2 0)) ∧ va_Mi "[Ljava/lang/Object;" (G.2.2.2 1) U
def Env0 (G : GT) (U : State) (H : Heap) : Prop := KK G U ∧ GI G U H ∧ G.2.1 ≤ H.size
theorem Env0.moved {G : GT} {s U : State} {H0 H : Heap} (h : Env0 G s H0) (hW : s.WarmedH U.vm) (hs : H0.size ≤ H.size) (hk : ∀ q, q < H0.size → ¬ AB G q → H[q]? = H0[q]?) : Env0 G U H := by
  obtain ⟨h1, ⟨g1, g2, g3, g4, g5, g6, g7⟩, h3⟩ := h
  refine ⟨va_K.moved hW.alike h1, ⟨⟨fun w hw => ng_warm (List.mem_filter.mp hw).2 hW (g1.1 w hw), fun t ht => AOt.moved hW.alike (g1.2 t ht)⟩, fun q hq => ?_, (vx_Zq.moved hW.alike g3).kept hk, (vx_Zq.moved hW.alike g4).kept hk, (va_Z.moved hW.alike g5).kept hk, ⟨?_, g6.2⟩, va_Mi.moved hW.alike g7⟩, Nat.le_trans h3 hs⟩
  · obtain ⟨a, ha⟩ := g2 q hq
    exact ⟨a, vk_R.warm hW ha⟩
  · rw [hk _ (Array.getElem?_eq_some_iff.mp g6.1).1 g6.2]
    exact g6.1
/-! ===== the walk over the picture ===== -/
abbrev XT : Type := Program × Launch × Env × Room × State × MethodId × Array Value × List Frame × Method × Code × (State → Prop)
abbrev xp (X : XT) : Program := X.1
abbrev xl (X : XT) : Launch := X.2.1
abbrev xe (X : XT) : Env := X.2.2.1
abbrev xR (X : XT) : Room := X.2.2.2.1
abbrev xs (X : XT) : State := X.2.2.2.2.1
abbrev xm (X : XT) : MethodId := X.2.2.2.2.2.1
abbrev xa (X : XT) : Array Value := X.2.2.2.2.2.2.1
abbrev xb (X : XT) : List Frame := X.2.2.2.2.2.2.2.1
abbrev xk (X : XT) : Method := X.2.2.2.2.2.2.2.2.1
abbrev xc (X : XT) : Code := X.2.2.2.2.2.2.2.2.2.1
abbrev xQ (X : XT) : State → Prop := X.2.2.2.2.2.2.2.2.2.2
def rmL (n mc ms : Nat) : Room := { frames := 10 * n + 10, cells := mc, slots := ms, locals := 120 * n + 150 }
def lvg : List (Nat × Value) → Nat → Option Value
  | [], _ => none
  | q :: r, i => if q.1 = i then some q.2 else lvg r i
def lvp (l : List (Nat × Value)) (i : Nat) (v : Value) : List (Nat × Value) := (i, v) :: l.filter (fun q => !(q.1 == i) && !(q.1 + 1 == i && q.2.category == 2))
def lvp2 (l : List (Nat × Value)) (i : Nat) (v : Value) : List (Nat × Value) := (i, v) :: l.filter (fun q => !(q.1 == i) && (!(q.1 == i + 1) && !(q.1 + 1 == i && q.2.category == 2)))
theorem lvg_mem : ∀ {l : List (Nat × Value)} {i : Nat} {v : Value}, lvg l i = some v → (i, v) ∈ l
  | [], _, _, h => by cases h
  | q :: r, i, v, h => by
    unfold lvg at h
    by_cases c : q.1 = i
    · rw [if_pos c] at h
      obtain ⟨a, b⟩ := q
      simp only at c h
      cases h
      subst c
      exact List.mem_cons_self
    · rw [if_neg c] at h
      exact List.mem_cons_of_mem _ (lvg_mem h)
theorem lvg_has {ls : Array Slot} {n : Nat} {l : List (Nat × Value)} (h : lv_has ls n l) {i : Nat} {v : Value} (hg : lvg l i = some v) : ls[i]? = some (.val v) := h.2.2 (i, v) (lvg_mem hg)
def V (X : XT) (G : GT) (kc ks : Nat) (ok : KF) (ad : AD) (σ : SG) (l : List (Nat × Value)) (pc : Nat) (st : List Value) : Prop :=
  ∀ (H : Heap) (locs : List Loc) (ls : Array Slot), Rep G ok ad σ H → va_S (AB G) (xs X).heap H locs → lv_has ls (xc X).maxLocals l → W (xp X) (xl X) (xe X) (xR X) (xs X) (xm X) (xa X) (xb X) (xk X) (xc X) H locs kc ks (xQ X) (F0 (xm X) pc ls st)
/-- a thing of the class E is thrown here -/
def VX (X : XT) (G : GT) (kc ks : Nat) (ok : KF) (ad : AD) (σ : SG) (l : List (Nat × Value)) (pc : Nat) (E : String) (st : List Value) : Prop :=
  ∀ (H : Heap) (locs : List Loc) (ls : Array Slot) (q : Addr) (ce : Cell), Rep G ok ad σ H → va_S (AB G) (xs X).heap H locs → lv_has ls (xc X).maxLocals l → H[q]? = some ce → ce.vm = .none → (xs X).vm.findClass E = some ce.cls →
    vx_W (xp X) (xl X) (xe X) (xR X) (xs X) (xm X) (xa X) (xb X) (xk X) (xc X) H locs kc ks (xQ X) (F0 (xm X) pc ls st) q
/-- where a method of class own with the code cc stands, with room of level n -/
def Cx (X : XT) (G : GT) (own : String) (cc : ByteArray) (nL n mc ms : Nat) : Prop :=
  ((xp X).tables.exec = Jvm.exec ∧ (xc X).code = cc ∧ (xc X).maxLocals = nL ∧ (xs X).vm.findClass own = some (xm X).cls ∧ ∀ w ∈ lw_good, w.before (xa X) (xs X) = true) ∧
  (10 * n + 10 ≤ (xR X).frames ∧ 120 * n + 150 ≤ (xR X).locals ∧ (xR X).cells = mc ∧ (xR X).slots = ms) ∧ Env0 G (xs X) (xs X).heap ∧ (xk X).locks = false ∧ (xl X).stackTraces = false
section CXS
variable {X : XT} {G : GT} {own : String} {cc : ByteArray} {nL n mc ms : Nat}
theorem Cx.x (h : Cx X G own cc nL n mc ms) : (xp X).tables.exec = Jvm.exec := h.1.1
theorem Cx.b (h : Cx X G own cc nL n mc ms) : (xc X).code = cc := h.1.2.1
theorem Cx.ml (h : Cx X G own cc nL n mc ms) : (xc X).maxLocals = nL := h.1.2.2.1
theorem Cx.ow (h : Cx X G own cc nL n mc ms) : (xs X).vm.findClass own = some (xm X).cls := h.1.2.2.2.1
theorem Cx.ts (h : Cx X G own cc nL n mc ms) : ∀ w ∈ lw_good, w.before (xa X) (xs X) = true := h.1.2.2.2.2
theorem Cx.K (h : Cx X G own cc nL n mc ms) : va_K G.1 CL (TYS G.2.2.1) (xs X) := h.2.2.1.1
theorem Cx.nw (h : Cx X G own cc nL n mc ms) {w : Cond} (hw : w ∈ lw_ng) : va_Nw w (xs X) := h.2.2.1.2.1.1.1 w hw
theorem Cx.ng (h : Cx X G own cc nL n mc ms) {w : Cond} (hw : w ∈ lw_ng) : w.before (xa X) (xs X) = true := va_Nw.use (ng_tables (List.mem_filter.mp hw).2) (h.nw hw)
theorem Cx.ao (h : Cx X G own cc nL n mc ms) {t : FieldType} (ht : t ∈ aos) : AOt t (xs X) := h.2.2.1.2.1.1.2 t ht
theorem Cx.locks (h : Cx X G own cc nL n mc ms) : (xk X).locks = false := h.2.2.2.1
theorem Cx.env (h : Cx X G own cc nL n mc ms) {U : State} {H : Heap} {locs : List Loc} (hS : va_S (AB G) (xs X).heap H locs) (hW : (xs X).WarmedH U.vm) : Env0 G U H := h.2.2.1.moved hW hS.1 hS.2.1
theorem Cx.hB (h : Cx X G own cc nL n mc ms) {H : Heap} {locs : List Loc} (hS : va_S (AB G) (xs X).heap H locs) : G.2.1 ≤ H.size := Nat.le_trans h.2.2.1.2.2 hS.1
end CXS
end
section
section ROWS
variable {X : XT} {G : GT} {own : String} {cc : ByteArray} {nL n mc ms : Nat} {kc ks : Nat} {ok : KF} {ad : AD} {σ : SG} {l : List (Nat × Value)} {pc : Nat} {st : List Value}
theorem v_iconst {z : Int} {v : Int32} (hC : Cx X G own cc nL n mc ms) (d : decode cc pc = .ok (.iconst z, 1)) (hv : Int32.ofInt z = v) (k : V X G kc ks ok ad σ l (pc + 1) (.int v :: st)) : V X G kc ks ok ad σ l pc st := fun H locs ls hR hS hl => lv_iconst hC.x hC.b d hv (k H locs ls hR hS hl)
theorem v_bipush {z : Int} {v : Int32} (hC : Cx X G own cc nL n mc ms) (d : decode cc pc = .ok (.bipush z, 2)) (hv : (Int8.ofInt z).toInt32 = v) (k : V X G kc ks ok ad σ l (pc + 2) (.int v :: st)) : V X G kc ks ok ad σ l pc st := fun H locs ls hR hS hl => lv_bipush hC.x hC.b d hv (k H locs ls hR hS hl)
theorem v_sipush {z : Int} {v : Int32} (hC : Cx X G own cc nL n mc ms) (d : decode cc pc = .ok (.sipush z, 3)) (hv : (Int16.ofInt z).toInt32 = v) (k : V X G kc ks ok ad σ l (pc + 3) (.int v :: st)) : V X G kc ks ok ad σ l pc st := fun H locs ls hR hS hl => lv_sipush hC.x hC.b d hv (k H locs ls hR hS hl)
theorem v_lconst {z : Fin 2} {v : Int64} (hC : Cx X G own cc nL n mc ms) (d : decode cc pc = .ok (.lconst z, 1)) (hv : Int64.ofNat (z : Nat) = v) (k : V X G kc ks ok ad σ l (pc + 1) (.long v :: st)) : V X G kc ks ok ad σ l pc st := fun H locs ls hR hS hl => lv_lconst hC.x hC.b d hv (k H locs ls hR hS hl)
theorem v_null  (hC : Cx X G own cc nL n mc ms) (d : decode cc pc = .ok (.aconst_null, 1))  (k : V X G kc ks ok ad σ l (pc + 1) (.null :: st)) : V X G kc ks ok ad σ l pc st := fun H locs ls hR hS hl => lv_null hC.x hC.b d (k H locs ls hR hS hl)
theorem v_ldcw {ix : Nat} {v : Int32} (hC : Cx X G own cc nL n mc ms) (d : decode cc pc = .ok (.ldc_w ix, 3)) (hw : Cond.constant own ix v ∈ lw_good) (k : V X G kc ks ok ad σ l (pc + 3) (.int v :: st)) : V X G kc ks ok ad σ l pc st := fun H locs ls hR hS hl => lv_ldcw hC.x hC.b hC.ow (hC.ts _ hw) d (k H locs ls hR hS hl)
theorem v_ldc2 {ix : Nat} {v : Int64} (hC : Cx X G own cc nL n mc ms) (d : decode cc pc = .ok (.ldc2_w ix, 3)) (hw : Cond.constantLong own ix v ∈ lw_good) (k : V X G kc ks ok ad σ l (pc + 3) (.long v :: st)) : V X G kc ks ok ad σ l pc st := fun H locs ls hR hS hl => lv_ldc2 hC.x hC.b hC.ow (hC.ts _ hw) d (k H locs ls hR hS hl)
theorem v_iload_n {q : Fin 4} {x : Int32} (hC : Cx X G own cc nL n mc ms) (d : decode cc pc = .ok (.iload_n q, 1)) (h : lvg l (q : Nat) = some (.int x)) (k : V X G kc ks ok ad σ l (pc + 1) (.int x :: st)) : V X G kc ks ok ad σ l pc st := fun H locs ls hR hS hl => lv_iload_n hC.x hC.b d rfl (lvg_has hl h) (k H locs ls hR hS hl)
theorem v_lload_n {q : Fin 4} {x : Int64} (hC : Cx X G own cc nL n mc ms) (d : decode cc pc = .ok (.lload_n q, 1)) (h : lvg l (q : Nat) = some (.long x)) (k : V X G kc ks ok ad σ l (pc + 1) (.long x :: st)) : V X G kc ks ok ad σ l pc st := fun H locs ls hR hS hl => lv_lload_n hC.x hC.b d rfl (lvg_has hl h) (k H locs ls hR hS hl)
theorem v_aload_n {q : Fin 4} {x : Nat} (hC : Cx X G own cc nL n mc ms) (d : decode cc pc = .ok (.aload_n q, 1)) (h : lvg l (q : Nat) = some (.ref x)) (k : V X G kc ks ok ad σ l (pc + 1) (.ref x :: st)) : V X G kc ks ok ad σ l pc st := fun H locs ls hR hS hl => lv_aload_n hC.x hC.b d rfl (lvg_has hl h) (k H locs ls hR hS hl)
theorem v_iload {i : Nat} {x : Int32} (hC : Cx X G own cc nL n mc ms) (d : decode cc pc = .ok (.iload i, 2)) (h : lvg l i = some (.int x)) (k : V X G kc ks ok ad σ l (pc + 2) (.int x :: st)) : V X G kc ks ok ad σ l pc st := fun H locs ls hR hS hl => lv_iload hC.x hC.b d (lvg_has hl h) (k H locs ls hR hS hl)
theorem v_lload {i : Nat} {x : Int64} (hC : Cx X G own cc nL n mc ms) (d : decode cc pc = .ok (.lload i, 2)) (h : lvg l i = some (.long x)) (k : V X G kc ks ok ad σ l (pc + 2) (.long x :: st)) : V X G kc ks ok ad σ l pc st := fun H locs ls hR hS hl => lv_lload hC.x hC.b d (lvg_has hl h) (k H locs ls hR hS hl)
theorem v_aload {i : Nat} {x : Nat} (hC : Cx X G own cc nL n mc ms) (d : decode cc pc = .ok (.aload i, 2)) (h : lvg l i = some (.ref x)) (k : V X G kc ks ok ad σ l (pc + 2) (.ref x :: st)) : V X G kc ks ok ad σ l pc st := fun H locs ls hR hS hl => lv_aload hC.x hC.b d (lvg_has hl h) (k H locs ls hR hS hl)
theorem v_fload {i : Nat} {x : UInt32} (hC : Cx X G own cc nL n mc ms) (d : decode cc pc = .ok (.fload i, 2)) (h : lvg l i = some (.float x)) (k : V X G kc ks ok ad σ l (pc + 2) (.float x :: st)) : V X G kc ks ok ad σ l pc st := fun H locs ls hR hS hl => lv_fload hC.x hC.b d (lvg_has hl h) (k H locs ls hR hS hl)
theorem v_dload {i : Nat} {x : UInt64} (hC : Cx X G own cc nL n mc ms) (d : decode cc pc = .ok (.dload i, 2)) (h : lvg l i = some (.double x)) (k : V X G kc ks ok ad σ l (pc + 2) (.double x :: st)) : V X G kc ks ok ad σ l pc st := fun H locs ls hR hS hl => lv_dload hC.x hC.b d (lvg_has hl h) (k H locs ls hR hS hl)
theorem v_aloadN_n {q : Fin 4} (hC : Cx X G own cc nL n mc ms) (d : decode cc pc = .ok (.aload_n q, 1)) (h : lvg l (q : Nat) = some .null) (k : V X G kc ks ok ad σ l (pc + 1) (.null :: st)) : V X G kc ks ok ad σ l pc st := fun H locs ls hR hS hl => lv_aload_nN hC.x hC.b d rfl (lvg_has hl h) (k H locs ls hR hS hl)
theorem v_aloadN {i : Nat} (hC : Cx X G own cc nL n mc ms) (d : decode cc pc = .ok (.aload i, 2)) (h : lvg l i = some .null) (k : V X G kc ks ok ad σ l (pc + 2) (.null :: st)) : V X G kc ks ok ad σ l pc st := fun H locs ls hR hS hl => lv_aloadN hC.x hC.b d (lvg_has hl h) (k H locs ls hR hS hl)
theorem v_istore_n {q : Fin 4} {x : Int32} (hC : Cx X G own cc nL n mc ms) (d : decode cc pc = .ok (.istore_n q, 1)) (hn : (q : Nat) < nL) (k : V X G kc ks ok ad σ (lvp l (q : Nat) (.int x)) (pc + 1) st) : V X G kc ks ok ad σ l pc (.int x :: st) := fun H locs ls hR hS hl => lv_istore_n hC.x hC.b d rfl hl (by rw [hC.ml]; exact hn) rfl (fun ls1 hl1 => k H locs ls1 hR hS hl1)
theorem v_istore {i : Nat} {x : Int32} (hC : Cx X G own cc nL n mc ms) (d : decode cc pc = .ok (.istore i, 2)) (hn : i < nL) (k : V X G kc ks ok ad σ (lvp l i (.int x)) (pc + 2) st) : V X G kc ks ok ad σ l pc (.int x :: st) := fun H locs ls hR hS hl => lv_istore hC.x hC.b d  hl (by rw [hC.ml]; exact hn) rfl (fun ls1 hl1 => k H locs ls1 hR hS hl1)
theorem v_lstore_n {q : Fin 4} {x : Int64} (hC : Cx X G own cc nL n mc ms) (d : decode cc pc = .ok (.lstore_n q, 1)) (hn : (q : Nat) + 1 < nL) (k : V X G kc ks ok ad σ (lvp2 l (q : Nat) (.long x)) (pc + 1) st) : V X G kc ks ok ad σ l pc (.long x :: st) := fun H locs ls hR hS hl => lv_lstore_n hC.x hC.b d rfl hl (by rw [hC.ml]; exact hn) rfl (fun ls1 hl1 => k H locs ls1 hR hS hl1)
theorem v_lstore {i : Nat} {x : Int64} (hC : Cx X G own cc nL n mc ms) (d : decode cc pc = .ok (.lstore i, 2)) (hn : i + 1 < nL) (k : V X G kc ks ok ad σ (lvp2 l i (.long x)) (pc + 2) st) : V X G kc ks ok ad σ l pc (.long x :: st) := fun H locs ls hR hS hl => lv_lstore hC.x hC.b d  hl (by rw [hC.ml]; exact hn) rfl (fun ls1 hl1 => k H locs ls1 hR hS hl1)
theorem v_astore_n {q : Fin 4} {x : Nat} (hC : Cx X G own cc nL n mc ms) (d : decode cc pc = .ok (.astore_n q, 1)) (hn : (q : Nat) < nL) (k : V X G kc ks ok ad σ (lvp l (q : Nat) (.ref x)) (pc + 1) st) : V X G kc ks ok ad σ l pc (.ref x :: st) := fun H locs ls hR hS hl => lv_astore_n hC.x hC.b d rfl hl (by rw [hC.ml]; exact hn) rfl (fun ls1 hl1 => k H locs ls1 hR hS hl1)
theorem v_astore {i : Nat} {x : Nat} (hC : Cx X G own cc nL n mc ms) (d : decode cc pc = .ok (.astore i, 2)) (hn : i < nL) (k : V X G kc ks ok ad σ (lvp l i (.ref x)) (pc + 2) st) : V X G kc ks ok ad σ l pc (.ref x :: st) := fun H locs ls hR hS hl => lv_astore hC.x hC.b d  hl (by rw [hC.ml]; exact hn) rfl (fun ls1 hl1 => k H locs ls1 hR hS hl1)
theorem v_fstore {i : Nat} {x : UInt32} (hC : Cx X G own cc nL n mc ms) (d : decode cc pc = .ok (.fstore i, 2)) (hn : i < nL) (k : V X G kc ks ok ad σ (lvp l i (.float x)) (pc + 2) st) : V X G kc ks ok ad σ l pc (.float x :: st) := fun H locs ls hR hS hl => lv_fstore hC.x hC.b d  hl (by rw [hC.ml]; exact hn) rfl (fun ls1 hl1 => k H locs ls1 hR hS hl1)
theorem v_dstore {i : Nat} {x : UInt64} (hC : Cx X G own cc nL n mc ms) (d : decode cc pc = .ok (.dstore i, 2)) (hn : i + 1 < nL) (k : V X G kc ks ok ad σ (lvp2 l i (.double x)) (pc + 2) st) : V X G kc ks ok ad σ l pc (.double x :: st) := fun H locs ls hR hS hl => lv_dstore hC.x hC.b d  hl (by rw [hC.ml]; exact hn) rfl (fun ls1 hl1 => k H locs ls1 hR hS hl1)
theorem v_astoreN_n {q : Fin 4}  (hC : Cx X G own cc nL n mc ms) (d : decode cc pc = .ok (.astore_n q, 1)) (hn : (q : Nat) < nL) (k : V X G kc ks ok ad σ (lvp l (q : Nat) (.null)) (pc + 1) st) : V X G kc ks ok ad σ l pc (.null :: st) := fun H locs ls hR hS hl => lv_astore_nN hC.x hC.b d rfl hl (by rw [hC.ml]; exact hn) rfl (fun ls1 hl1 => k H locs ls1 hR hS hl1)
theorem v_astoreN {i : Nat}  (hC : Cx X G own cc nL n mc ms) (d : decode cc pc = .ok (.astore i, 2)) (hn : i < nL) (k : V X G kc ks ok ad σ (lvp l i (.null)) (pc + 2) st) : V X G kc ks ok ad σ l pc (.null :: st) := fun H locs ls hR hS hl => lv_astoreN hC.x hC.b d  hl (by rw [hC.ml]; exact hn) rfl (fun ls1 hl1 => k H locs ls1 hR hS hl1)
theorem lvg_place : ∀ {l : List (Nat × Value)} {i : Nat} {v : Value}, lvg l i = some v → ∃ k : Nat, l[k]? = some (i, v) := fun h => List.getElem?_of_mem (lvg_mem h)
theorem v_iinc {i : Nat} {z : Int} {x v : Int32} (hC : Cx X G own cc nL n mc ms) (d : decode cc pc = .ok (.iinc i z, 3)) (h : lvg l i = some (.int x)) (hv : x + Int32.ofInt z = v) (hn : i < nL) (k : V X G kc ks ok ad σ (lvp l i (.int v)) (pc + 3) st) : V X G kc ks ok ad σ l pc st := fun H locs ls hR hS hl => by
  obtain ⟨q, hq⟩ := lvg_place h
  exact lv_iinc hC.x hC.b d hl hq hv (by rw [hC.ml]; exact hn) rfl (fun ls1 hl1 => k H locs ls1 hR hS hl1)
theorem v_iincN {i a : Nat} (hC : Cx X G own cc nL n mc ms) (d : decode cc pc = .ok (.iinc i 1, 3)) (h : lvg l i = some (iv a)) (hn : i < nL) (k : V X G kc ks ok ad σ (lvp l i (iv (a + 1))) (pc + 3) st) : V X G kc ks ok ad σ l pc st := v_iinc hC d h (nI_1 a) hn k
theorem v_iadd {x y : Int32} (hC : Cx X G own cc nL n mc ms) (d : decode cc pc = .ok (.iadd, 1))  (k : V X G kc ks ok ad σ l (pc + 1) (.int (x + y) :: st)) : V X G kc ks ok ad σ l pc (.int y :: .int x :: st) := fun H locs ls hR hS hl => lv_iadd hC.x hC.b d (k H locs ls hR hS hl)
theorem v_isub {x y : Int32} (hC : Cx X G own cc nL n mc ms) (d : decode cc pc = .ok (.isub, 1))  (k : V X G kc ks ok ad σ l (pc + 1) (.int (x - y) :: st)) : V X G kc ks ok ad σ l pc (.int y :: .int x :: st) := fun H locs ls hR hS hl => lv_isub hC.x hC.b d (k H locs ls hR hS hl)
theorem v_imul {x y : Int32} (hC : Cx X G own cc nL n mc ms) (d : decode cc pc = .ok (.imul, 1))  (k : V X G kc ks ok ad σ l (pc + 1) (.int (x * y) :: st)) : V X G kc ks ok ad σ l pc (.int y :: .int x :: st) := fun H locs ls hR hS hl => lv_imul hC.x hC.b d (k H locs ls hR hS hl)
theorem v_iand {x y : Int32} (hC : Cx X G own cc nL n mc ms) (d : decode cc pc = .ok (.iand, 1))  (k : V X G kc ks ok ad σ l (pc + 1) (.int (x &&& y) :: st)) : V X G kc ks ok ad σ l pc (.int y :: .int x :: st) := fun H locs ls hR hS hl => lv_iand hC.x hC.b d (k H locs ls hR hS hl)
theorem v_ior {x y : Int32} (hC : Cx X G own cc nL n mc ms) (d : decode cc pc = .ok (.ior, 1))  (k : V X G kc ks ok ad σ l (pc + 1) (.int (x ||| y) :: st)) : V X G kc ks ok ad σ l pc (.int y :: .int x :: st) := fun H locs ls hR hS hl => lv_ior hC.x hC.b d (k H locs ls hR hS hl)
theorem v_ixor {x y : Int32} (hC : Cx X G own cc nL n mc ms) (d : decode cc pc = .ok (.ixor, 1))  (k : V X G kc ks ok ad σ l (pc + 1) (.int (x ^^^ y) :: st)) : V X G kc ks ok ad σ l pc (.int y :: .int x :: st) := fun H locs ls hR hS hl => lv_ixor hC.x hC.b d (k H locs ls hR hS hl)
theorem v_ishl {x y : Int32} (hC : Cx X G own cc nL n mc ms) (d : decode cc pc = .ok (.ishl, 1))  (k : V X G kc ks ok ad σ l (pc + 1) (.int (x <<< (y &&& 31)) :: st)) : V X G kc ks ok ad σ l pc (.int y :: .int x :: st) := fun H locs ls hR hS hl => lv_ishl hC.x hC.b d (k H locs ls hR hS hl)
theorem v_ishr {x y : Int32} (hC : Cx X G own cc nL n mc ms) (d : decode cc pc = .ok (.ishr, 1))  (k : V X G kc ks ok ad σ l (pc + 1) (.int (x >>> (y &&& 31)) :: st)) : V X G kc ks ok ad σ l pc (.int y :: .int x :: st) := fun H locs ls hR hS hl => lv_ishr hC.x hC.b d (k H locs ls hR hS hl)
theorem v_iushr {x y v : Int32} (hC : Cx X G own cc nL n mc ms) (d : decode cc pc = .ok (.iushr, 1)) (hv : (x.toUInt32 >>> (y.toUInt32 &&& Int32.toUInt32 31)).toInt32 = v) (k : V X G kc ks ok ad σ l (pc + 1) (.int v :: st)) : V X G kc ks ok ad σ l pc (.int y :: .int x :: st) := fun H locs ls hR hS hl => lv_iushr hC.x hC.b d hv (k H locs ls hR hS hl)
theorem v_idiv {x y : Int32} (hC : Cx X G own cc nL n mc ms) (d : decode cc pc = .ok (.idiv, 1)) (hne : ¬ y = 0) (k : V X G kc ks ok ad σ l (pc + 1) (.int (x / y) :: st)) : V X G kc ks ok ad σ l pc (.int y :: .int x :: st) := fun H locs ls hR hS hl => lv_idiv hC.x hC.b d hne (k H locs ls hR hS hl)
theorem v_ladd {x y : Int64} (hC : Cx X G own cc nL n mc ms) (d : decode cc pc = .ok (.ladd, 1))  (k : V X G kc ks ok ad σ l (pc + 1) (.long (x + y) :: st)) : V X G kc ks ok ad σ l pc (.long y :: .long x :: st) := fun H locs ls hR hS hl => lv_ladd hC.x hC.b d (k H locs ls hR hS hl)
theorem v_lsub {x y : Int64} (hC : Cx X G own cc nL n mc ms) (d : decode cc pc = .ok (.lsub, 1))  (k : V X G kc ks ok ad σ l (pc + 1) (.long (x - y) :: st)) : V X G kc ks ok ad σ l pc (.long y :: .long x :: st) := fun H locs ls hR hS hl => lv_lsub hC.x hC.b d (k H locs ls hR hS hl)
theorem v_land {x y : Int64} (hC : Cx X G own cc nL n mc ms) (d : decode cc pc = .ok (.land, 1))  (k : V X G kc ks ok ad σ l (pc + 1) (.long (x &&& y) :: st)) : V X G kc ks ok ad σ l pc (.long y :: .long x :: st) := fun H locs ls hR hS hl => lv_land hC.x hC.b d (k H locs ls hR hS hl)
theorem v_lor {x y : Int64} (hC : Cx X G own cc nL n mc ms) (d : decode cc pc = .ok (.lor, 1))  (k : V X G kc ks ok ad σ l (pc + 1) (.long (x ||| y) :: st)) : V X G kc ks ok ad σ l pc (.long y :: .long x :: st) := fun H locs ls hR hS hl => lv_lor hC.x hC.b d (k H locs ls hR hS hl)
theorem v_lxor {x y : Int64} (hC : Cx X G own cc nL n mc ms) (d : decode cc pc = .ok (.lxor, 1))  (k : V X G kc ks ok ad σ l (pc + 1) (.long (x ^^^ y) :: st)) : V X G kc ks ok ad σ l pc (.long y :: .long x :: st) := fun H locs ls hR hS hl => lv_lxor hC.x hC.b d (k H locs ls hR hS hl)
theorem v_lshl {x v : Int64} {y : Int32} (hC : Cx X G own cc nL n mc ms) (d : decode cc pc = .ok (.lshl, 1)) (hv : x <<< (y.toInt64 &&& 63) = v) (k : V X G kc ks ok ad σ l (pc + 1) (.long v :: st)) : V X G kc ks ok ad σ l pc (.int y :: .long x :: st) := fun H locs ls hR hS hl => lv_lshl hC.x hC.b d hv (k H locs ls hR hS hl)
theorem v_lushr {x v : Int64} {y : Int32} (hC : Cx X G own cc nL n mc ms) (d : decode cc pc = .ok (.lushr, 1)) (hv : (x.toUInt64 >>> (y.toInt64.toUInt64 &&& Int64.toUInt64 63)).toInt64 = v) (k : V X G kc ks ok ad σ l (pc + 1) (.long v :: st)) : V X G kc ks ok ad σ l pc (.int y :: .long x :: st) := fun H locs ls hR hS hl => lv_lushr hC.x hC.b d hv (k H locs ls hR hS hl)
theorem v_i2l {x : Int32} {v : Int64} (hC : Cx X G own cc nL n mc ms) (d : decode cc pc = .ok (.i2l, 1)) (hv : x.toInt64 = v) (k : V X G kc ks ok ad σ l (pc + 1) (.long v :: st)) : V X G kc ks ok ad σ l pc (.int x :: st) := fun H locs ls hR hS hl => lv_i2l hC.x hC.b d hv (k H locs ls hR hS hl)
theorem v_l2i {x : Int64} {v : Int32} (hC : Cx X G own cc nL n mc ms) (d : decode cc pc = .ok (.l2i, 1)) (hv : x.toInt32 = v) (k : V X G kc ks ok ad σ l (pc + 1) (.int v :: st)) : V X G kc ks ok ad σ l pc (.long x :: st) := fun H locs ls hR hS hl => lv_l2i hC.x hC.b d hv (k H locs ls hR hS hl)
theorem v_i2c {x v : Int32} (hC : Cx X G own cc nL n mc ms) (d : decode cc pc = .ok (.i2c, 1)) (hv : (x.toUInt32 % 65536).toInt32 = v) (k : V X G kc ks ok ad σ l (pc + 1) (.int v :: st)) : V X G kc ks ok ad σ l pc (.int x :: st) := fun H locs ls hR hS hl => lv_i2c hC.x hC.b d hv (k H locs ls hR hS hl)
theorem v_l2f {x : Int64} (hC : Cx X G own cc nL n mc ms) (d : decode cc pc = .ok (.l2f, 1))  (k : V X G kc ks ok ad σ l (pc + 1) (.float (FP.l2f x) :: st)) : V X G kc ks ok ad σ l pc (.long x :: st) := fun H locs ls hR hS hl => lv_l2f hC.x hC.b d (k H locs ls hR hS hl)
theorem v_i2f {x : Int32} (hC : Cx X G own cc nL n mc ms) (d : decode cc pc = .ok (.i2f, 1))  (k : V X G kc ks ok ad σ l (pc + 1) (.float (FP.i2f x) :: st)) : V X G kc ks ok ad σ l pc (.int x :: st) := fun H locs ls hR hS hl => lv_i2f hC.x hC.b d (k H locs ls hR hS hl)
theorem v_i2d {x : Int32} (hC : Cx X G own cc nL n mc ms) (d : decode cc pc = .ok (.i2d, 1))  (k : V X G kc ks ok ad σ l (pc + 1) (.double (FP.i2d x) :: st)) : V X G kc ks ok ad σ l pc (.int x :: st) := fun H locs ls hR hS hl => lv_i2d hC.x hC.b d (k H locs ls hR hS hl)
theorem v_f2d {x : UInt32} (hC : Cx X G own cc nL n mc ms) (d : decode cc pc = .ok (.f2d, 1)) (hne : vf_n64 (FP.f2d x)) (k : V X G kc ks ok ad σ l (pc + 1) (.double (FP.f2d x) :: st)) : V X G kc ks ok ad σ l pc (.float x :: st) := fun H locs ls hR hS hl => lv_f2d hC.x hC.b d hne (k H locs ls hR hS hl)
theorem v_fdiv {x y : UInt32} (hC : Cx X G own cc nL n mc ms) (d : decode cc pc = .ok (.fdiv, 1)) (hne : vf_n32 (FP.fdiv x y)) (k : V X G kc ks ok ad σ l (pc + 1) (.float (FP.fdiv x y) :: st)) : V X G kc ks ok ad σ l pc (.float y :: .float x :: st) := fun H locs ls hR hS hl => lv_fdiv hC.x hC.b d hne (k H locs ls hR hS hl)
theorem v_ddiv {x y : UInt64} (hC : Cx X G own cc nL n mc ms) (d : decode cc pc = .ok (.ddiv, 1)) (hne : vf_n64 (FP.ddiv x y)) (k : V X G kc ks ok ad σ l (pc + 1) (.double (FP.ddiv x y) :: st)) : V X G kc ks ok ad σ l pc (.double y :: .double x :: st) := fun H locs ls hR hS hl => lv_ddiv hC.x hC.b d hne (k H locs ls hR hS hl)
theorem v_lcmp {x y : Int64} (hC : Cx X G own cc nL n mc ms) (d : decode cc pc = .ok (.lcmp, 1))  (k : V X G kc ks ok ad σ l (pc + 1) (.int (lg_cmp x y) :: st)) : V X G kc ks ok ad σ l pc (.long y :: .long x :: st) := fun H locs ls hR hS hl => W.lcmp hC.x hC.b d (k H locs ls hR hS hl)
theorem v_fcmp {x y : UInt32} {op : CmpOp} (hC : Cx X G own cc nL n mc ms) (d : decode cc pc = .ok (.fcmp op, 1))  (k : V X G kc ks ok ad σ l (pc + 1) (.int (Op.cmpValue (FP.fcmp x y) op) :: st)) : V X G kc ks ok ad σ l pc (.float y :: .float x :: st) := fun H locs ls hR hS hl => lv_fcmp hC.x hC.b d (k H locs ls hR hS hl)
theorem v_dcmp {x y : UInt64} {op : CmpOp} (hC : Cx X G own cc nL n mc ms) (d : decode cc pc = .ok (.dcmp op, 1))  (k : V X G kc ks ok ad σ l (pc + 1) (.int (Op.cmpValue (FP.dcmp x y) op) :: st)) : V X G kc ks ok ad σ l pc (.double y :: .double x :: st) := fun H locs ls hR hS hl => lv_dcmp hC.x hC.b d (k H locs ls hR hS hl)
theorem v_dup {a : Value} (hC : Cx X G own cc nL n mc ms) (d : decode cc pc = .ok (.dup, 1)) (ha : a.category = 1) (k : V X G kc ks ok ad σ l (pc + 1) (a :: a :: st)) : V X G kc ks ok ad σ l pc (a :: st) := fun H locs ls hR hS hl => lv_dup hC.x hC.b d ha (k H locs ls hR hS hl)
theorem v_dup_x1 {a b : Value} (hC : Cx X G own cc nL n mc ms) (d : decode cc pc = .ok (.dup_x1, 1)) (ha : a.category = 1) (hb : b.category = 1) (k : V X G kc ks ok ad σ l (pc + 1) (a :: b :: a :: st)) : V X G kc ks ok ad σ l pc (a :: b :: st) := fun H locs ls hR hS hl => lv_dup_x1 hC.x hC.b d ha hb (k H locs ls hR hS hl)
theorem v_dup2 {a b : Value} (hC : Cx X G own cc nL n mc ms) (d : decode cc pc = .ok (.dup2, 1)) (ha : a.category = 1) (hb : b.category = 1) (k : V X G kc ks ok ad σ l (pc + 1) (a :: b :: a :: b :: st)) : V X G kc ks ok ad σ l pc (a :: b :: st) := fun H locs ls hR hS hl => lv_dup2_11 hC.x hC.b d ha hb (k H locs ls hR hS hl)
theorem v_pop {a : Value} (hC : Cx X G own cc nL n mc ms) (d : decode cc pc = .ok (.pop, 1)) (ha : a.category = 1) (k : V X G kc ks ok ad σ l (pc + 1) st) : V X G kc ks ok ad σ l pc (a :: st) := fun H locs ls hR hS hl => lv_pop hC.x hC.b d ha (k H locs ls hR hS hl)
theorem v_goto {off : Int} {tgt : Nat} (hC : Cx X G own cc nL n mc ms) (d : decode cc pc = .ok (.goto off, 3)) (ht : (pc : Int) + off = (tgt : Int)) (k : V X G kc ks ok ad σ l tgt st) : V X G kc ks ok ad σ l pc st := fun H locs ls hR hS hl => lv_goto hC.x hC.b d ht (k H locs ls hR hS hl)
theorem v_ifnull {x : Nat} {off : Int} (hC : Cx X G own cc nL n mc ms) (d : decode cc pc = .ok (.ifnull off, 3)) (k : V X G kc ks ok ad σ l (pc + 3) st) : V X G kc ks ok ad σ l pc (.ref x :: st) := fun H locs ls hR hS hl => lv_ifnull hC.x hC.b d (k H locs ls hR hS hl)
theorem v_ifnullN {off : Int} {tgt : Nat} (hC : Cx X G own cc nL n mc ms) (d : decode cc pc = .ok (.ifnull off, 3)) (ht : (pc : Int) + off = (tgt : Int)) (k : V X G kc ks ok ad σ l tgt st) : V X G kc ks ok ad σ l pc (.null :: st) := fun H locs ls hR hS hl => lv_ifnullN hC.x hC.b d ht (k H locs ls hR hS hl)
theorem v_ifnonnull {x : Nat} {off : Int} {tgt : Nat} (hC : Cx X G own cc nL n mc ms) (d : decode cc pc = .ok (.ifnonnull off, 3)) (ht : (pc : Int) + off = (tgt : Int)) (k : V X G kc ks ok ad σ l tgt st) : V X G kc ks ok ad σ l pc (.ref x :: st) := fun H locs ls hR hS hl => lv_ifnonnull hC.x hC.b d ht (k H locs ls hR hS hl)
theorem v_ifnonnullN {off : Int} (hC : Cx X G own cc nL n mc ms) (d : decode cc pc = .ok (.ifnonnull off, 3)) (k : V X G kc ks ok ad σ l (pc + 3) st) : V X G kc ks ok ad σ l pc (.null :: st) := fun H locs ls hR hS hl => lv_ifnonnullN hC.x hC.b d (k H locs ls hR hS hl)
theorem v_if_eq {x : Int32} {off : Int} {tgt : Nat} (hC : Cx X G own cc nL n mc ms) (d : decode cc pc = .ok (.ifCond .eq off, 3)) (ht : (pc : Int) + off = (tgt : Int)) (kt : x = 0 → V X G kc ks ok ad σ l tgt st) (kf : ¬ x = 0 → V X G kc ks ok ad σ l (pc + 3) st) : V X G kc ks ok ad σ l pc (.int x :: st) := fun H locs ls hR hS hl => lv_if_eq hC.x hC.b d ht (fun q => kt q H locs ls hR hS hl) (fun q => kf q H locs ls hR hS hl)
theorem v_if_ne {x : Int32} {off : Int} {tgt : Nat} (hC : Cx X G own cc nL n mc ms) (d : decode cc pc = .ok (.ifCond .ne off, 3)) (ht : (pc : Int) + off = (tgt : Int)) (kt : ¬ x = 0 → V X G kc ks ok ad σ l tgt st) (kf : x = 0 → V X G kc ks ok ad σ l (pc + 3) st) : V X G kc ks ok ad σ l pc (.int x :: st) := fun H locs ls hR hS hl => lv_if_ne hC.x hC.b d ht (fun q => kt q H locs ls hR hS hl) (fun q => kf q H locs ls hR hS hl)
theorem v_if_lt {x : Int32} {off : Int} {tgt : Nat} (hC : Cx X G own cc nL n mc ms) (d : decode cc pc = .ok (.ifCond .lt off, 3)) (ht : (pc : Int) + off = (tgt : Int)) (kt : x < 0 → V X G kc ks ok ad σ l tgt st) (kf : ¬ x < 0 → V X G kc ks ok ad σ l (pc + 3) st) : V X G kc ks ok ad σ l pc (.int x :: st) := fun H locs ls hR hS hl => lv_if_lt hC.x hC.b d ht (fun q => kt q H locs ls hR hS hl) (fun q => kf q H locs ls hR hS hl)
theorem v_if_ge {x : Int32} {off : Int} {tgt : Nat} (hC : Cx X G own cc nL n mc ms) (d : decode cc pc = .ok (.ifCond .ge off, 3)) (ht : (pc : Int) + off = (tgt : Int)) (kt : 0 ≤ x → V X G kc ks ok ad σ l tgt st) (kf : ¬ 0 ≤ x → V X G kc ks ok ad σ l (pc + 3) st) : V X G kc ks ok ad σ l pc (.int x :: st) := fun H locs ls hR hS hl => lv_if_ge hC.x hC.b d ht (fun q => kt q H locs ls hR hS hl) (fun q => kf q H locs ls hR hS hl)
theorem v_if_gt {x : Int32} {off : Int} {tgt : Nat} (hC : Cx X G own cc nL n mc ms) (d : decode cc pc = .ok (.ifCond .gt off, 3)) (ht : (pc : Int) + off = (tgt : Int)) (kt : 0 < x → V X G kc ks ok ad σ l tgt st) (kf : ¬ 0 < x → V X G kc ks ok ad σ l (pc + 3) st) : V X G kc ks ok ad σ l pc (.int x :: st) := fun H locs ls hR hS hl => lv_if_gt hC.x hC.b d ht (fun q => kt q H locs ls hR hS hl) (fun q => kf q H locs ls hR hS hl)
theorem v_if_le {x : Int32} {off : Int} {tgt : Nat} (hC : Cx X G own cc nL n mc ms) (d : decode cc pc = .ok (.ifCond .le off, 3)) (ht : (pc : Int) + off = (tgt : Int)) (kt : x ≤ 0 → V X G kc ks ok ad σ l tgt st) (kf : ¬ x ≤ 0 → V X G kc ks ok ad σ l (pc + 3) st) : V X G kc ks ok ad σ l pc (.int x :: st) := fun H locs ls hR hS hl => lv_if_le hC.x hC.b d ht (fun q => kt q H locs ls hR hS hl) (fun q => kf q H locs ls hR hS hl)
theorem v_icmp_eq {x y : Int32} {off : Int} {tgt : Nat} (hC : Cx X G own cc nL n mc ms) (d : decode cc pc = .ok (.if_icmp .eq off, 3)) (ht : (pc : Int) + off = (tgt : Int)) (kt : x = y → V X G kc ks ok ad σ l tgt st) (kf : ¬ x = y → V X G kc ks ok ad σ l (pc + 3) st) : V X G kc ks ok ad σ l pc (.int y :: .int x :: st) := fun H locs ls hR hS hl => lv_icmp_eq hC.x hC.b d ht (fun q => kt q H locs ls hR hS hl) (fun q => kf q H locs ls hR hS hl)
theorem v_icmp_ne {x y : Int32} {off : Int} {tgt : Nat} (hC : Cx X G own cc nL n mc ms) (d : decode cc pc = .ok (.if_icmp .ne off, 3)) (ht : (pc : Int) + off = (tgt : Int)) (kt : ¬ x = y → V X G kc ks ok ad σ l tgt st) (kf : x = y → V X G kc ks ok ad σ l (pc + 3) st) : V X G kc ks ok ad σ l pc (.int y :: .int x :: st) := fun H locs ls hR hS hl => lv_icmp_ne hC.x hC.b d ht (fun q => kt q H locs ls hR hS hl) (fun q => kf q H locs ls hR hS hl)
theorem v_icmp_lt {x y : Int32} {off : Int} {tgt : Nat} (hC : Cx X G own cc nL n mc ms) (d : decode cc pc = .ok (.if_icmp .lt off, 3)) (ht : (pc : Int) + off = (tgt : Int)) (kt : x < y → V X G kc ks ok ad σ l tgt st) (kf : ¬ x < y → V X G kc ks ok ad σ l (pc + 3) st) : V X G kc ks ok ad σ l pc (.int y :: .int x :: st) := fun H locs ls hR hS hl => lv_icmp_lt hC.x hC.b d ht (fun q => kt q H locs ls hR hS hl) (fun q => kf q H locs ls hR hS hl)
theorem v_icmp_ge {x y : Int32} {off : Int} {tgt : Nat} (hC : Cx X G own cc nL n mc ms) (d : decode cc pc = .ok (.if_icmp .ge off, 3)) (ht : (pc : Int) + off = (tgt : Int)) (kt : y ≤ x → V X G kc ks ok ad σ l tgt st) (kf : ¬ y ≤ x → V X G kc ks ok ad σ l (pc + 3) st) : V X G kc ks ok ad σ l pc (.int y :: .int x :: st) := fun H locs ls hR hS hl => lv_icmp_ge hC.x hC.b d ht (fun q => kt q H locs ls hR hS hl) (fun q => kf q H locs ls hR hS hl)
theorem v_icmp_gt {x y : Int32} {off : Int} {tgt : Nat} (hC : Cx X G own cc nL n mc ms) (d : decode cc pc = .ok (.if_icmp .gt off, 3)) (ht : (pc : Int) + off = (tgt : Int)) (kt : y < x → V X G kc ks ok ad σ l tgt st) (kf : ¬ y < x → V X G kc ks ok ad σ l (pc + 3) st) : V X G kc ks ok ad σ l pc (.int y :: .int x :: st) := fun H locs ls hR hS hl => lv_icmp_gt hC.x hC.b d ht (fun q => kt q H locs ls hR hS hl) (fun q => kf q H locs ls hR hS hl)
theorem v_icmp_le {x y : Int32} {off : Int} {tgt : Nat} (hC : Cx X G own cc nL n mc ms) (d : decode cc pc = .ok (.if_icmp .le off, 3)) (ht : (pc : Int) + off = (tgt : Int)) (kt : x ≤ y → V X G kc ks ok ad σ l tgt st) (kf : ¬ x ≤ y → V X G kc ks ok ad σ l (pc + 3) st) : V X G kc ks ok ad σ l pc (.int y :: .int x :: st) := fun H locs ls hR hS hl => lv_icmp_le hC.x hC.b d ht (fun q => kt q H locs ls hR hS hl) (fun q => kf q H locs ls hR hS hl)
theorem v_acmp_eq {rx ry : Option Nat} {off : Int} {tgt : Nat} (hC : Cx X G own cc nL n mc ms) (d : decode cc pc = .ok (.if_acmp .eq off, 3)) (ht : (pc : Int) + off = (tgt : Int)) (kt : rx = ry → V X G kc ks ok ad σ l tgt st) (kf : ¬ rx = ry → V X G kc ks ok ad σ l (pc + 3) st) : V X G kc ks ok ad σ l pc (va_rf ry :: va_rf rx :: st) := fun H locs ls hR hS hl => lv_acmp_eq hC.x hC.b d ht (fun q => kt q H locs ls hR hS hl) (fun q => kf q H locs ls hR hS hl)
theorem v_acmp_ne {rx ry : Option Nat} {off : Int} {tgt : Nat} (hC : Cx X G own cc nL n mc ms) (d : decode cc pc = .ok (.if_acmp .ne off, 3)) (ht : (pc : Int) + off = (tgt : Int)) (kt : ¬ rx = ry → V X G kc ks ok ad σ l tgt st) (kf : rx = ry → V X G kc ks ok ad σ l (pc + 3) st) : V X G kc ks ok ad σ l pc (va_rf ry :: va_rf rx :: st) := fun H locs ls hR hS hl => lv_acmp_ne hC.x hC.b d ht (fun q => kt q H locs ls hR hS hl) (fun q => kf q H locs ls hR hS hl)
theorem v_tableIn {dflt lo hi : Int} {offs : Array Int} {len : Nat} {x : Int32} {off : Int} {tgt : Nat} (hC : Cx X G own cc nL n mc ms) (d : decode cc pc = .ok (.tableswitch dflt lo hi offs, len)) (h1 : ¬ x.toInt < lo) (h2 : ¬ hi < x.toInt) (ho : offs[(x.toInt - lo).toNat]? = some off) (ht : (pc : Int) + off = (tgt : Int)) (k : V X G kc ks ok ad σ l tgt st) : V X G kc ks ok ad σ l pc (.int x :: st) := fun H locs ls hR hS hl => lv_tableIn hC.x hC.b d h1 h2 ho ht (k H locs ls hR hS hl)
theorem v_tableOut {dflt lo hi : Int} {offs : Array Int} {len : Nat} {x : Int32} {tgt : Nat} (hC : Cx X G own cc nL n mc ms) (d : decode cc pc = .ok (.tableswitch dflt lo hi offs, len)) (h : x.toInt < lo ∨ hi < x.toInt) (ht : (pc : Int) + dflt = (tgt : Int)) (k : V X G kc ks ok ad σ l tgt st) : V X G kc ks ok ad σ l pc (.int x :: st) := fun H locs ls hR hS hl => lv_tableOut hC.x hC.b d h ht (k H locs ls hR hS hl)
theorem v_iaddN {a b : Nat} (hC : Cx X G own cc nL n mc ms) (d : decode cc pc = .ok (.iadd, 1)) (k : V X G kc ks ok ad σ l (pc + 1) (iv (a + b) :: st)) : V X G kc ks ok ad σ l pc (iv b :: iv a :: st) := v_iadd hC d (by rw [nI_add]; exact k)
theorem v_isubN {a b : Nat} (hC : Cx X G own cc nL n mc ms) (d : decode cc pc = .ok (.isub, 1)) (h : b ≤ a) (k : V X G kc ks ok ad σ l (pc + 1) (iv (a - b) :: st)) : V X G kc ks ok ad σ l pc (iv b :: iv a :: st) := v_isub hC d (by rw [pk_sub h]; exact k)
theorem v_imulN {a b : Nat} (hC : Cx X G own cc nL n mc ms) (d : decode cc pc = .ok (.imul, 1)) (k : V X G kc ks ok ad σ l (pc + 1) (iv (a * b) :: st)) : V X G kc ks ok ad σ l pc (iv b :: iv a :: st) := v_imul hC d (by rw [pk_mul]; exact k)
theorem v_idivN {a b : Nat} (hC : Cx X G own cc nL n mc ms) (d : decode cc pc = .ok (.idiv, 1)) (ha : a < 2 ^ 31) (h0 : 0 < b) (hb : b < 2 ^ 31) (k : V X G kc ks ok ad σ l (pc + 1) (iv (a / b) :: st)) : V X G kc ks ok ad σ l pc (iv b :: iv a :: st) := v_idiv hC d (nI_ne0 h0 hb) (by rw [pk_div ha h0 hb]; exact k)
theorem v_icmp_eqN {a b : Nat} {off : Int} {tgt : Nat} (hC : Cx X G own cc nL n mc ms) (d : decode cc pc = .ok (.if_icmp .eq off, 3)) (ht : (pc : Int) + off = (tgt : Int)) (ha : a < 2 ^ 31) (hb : b < 2 ^ 31) (kt : a = b → V X G kc ks ok ad σ l tgt st) (kf : a ≠ b → V X G kc ks ok ad σ l (pc + 3) st) : V X G kc ks ok ad σ l pc (iv b :: iv a :: st) := v_icmp_eq hC d ht (fun q => kt ((nI_eq ha hb).mp q)) (fun q => kf (fun e => q ((nI_eq ha hb).mpr e)))
theorem v_icmp_neN {a b : Nat} {off : Int} {tgt : Nat} (hC : Cx X G own cc nL n mc ms) (d : decode cc pc = .ok (.if_icmp .ne off, 3)) (ht : (pc : Int) + off = (tgt : Int)) (ha : a < 2 ^ 31) (hb : b < 2 ^ 31) (kt : a ≠ b → V X G kc ks ok ad σ l tgt st) (kf : a = b → V X G kc ks ok ad σ l (pc + 3) st) : V X G kc ks ok ad σ l pc (iv b :: iv a :: st) := v_icmp_ne hC d ht (fun q => kt (fun e => q ((nI_eq ha hb).mpr e))) (fun q => kf ((nI_eq ha hb).mp q))
theorem v_icmp_ltN {a b : Nat} {off : Int} {tgt : Nat} (hC : Cx X G own cc nL n mc ms) (d : decode cc pc = .ok (.if_icmp .lt off, 3)) (ht : (pc : Int) + off = (tgt : Int)) (ha : a < 2 ^ 31) (hb : b < 2 ^ 31) (kt : a < b → V X G kc ks ok ad σ l tgt st) (kf : b ≤ a → V X G kc ks ok ad σ l (pc + 3) st) : V X G kc ks ok ad σ l pc (iv b :: iv a :: st) := v_icmp_lt hC d ht (fun q => kt ((nI_ltI ha hb).mp q)) (fun q => kf (Nat.le_of_not_lt fun e => q ((nI_ltI ha hb).mpr e)))
theorem v_icmp_geN {a b : Nat} {off : Int} {tgt : Nat} (hC : Cx X G own cc nL n mc ms) (d : decode cc pc = .ok (.if_icmp .ge off, 3)) (ht : (pc : Int) + off = (tgt : Int)) (ha : a < 2 ^ 31) (hb : b < 2 ^ 31) (kt : b ≤ a → V X G kc ks ok ad σ l tgt st) (kf : a < b → V X G kc ks ok ad σ l (pc + 3) st) : V X G kc ks ok ad σ l pc (iv b :: iv a :: st) := v_icmp_ge hC d ht (fun q => kt ((nI_leI hb ha).mp q)) (fun q => kf (Nat.lt_of_not_le fun e => q ((nI_leI hb ha).mpr e)))
theorem v_icmp_gtN {a b : Nat} {off : Int} {tgt : Nat} (hC : Cx X G own cc nL n mc ms) (d : decode cc pc = .ok (.if_icmp .gt off, 3)) (ht : (pc : Int) + off = (tgt : Int)) (ha : a < 2 ^ 31) (hb : b < 2 ^ 31) (kt : b < a → V X G kc ks ok ad σ l tgt st) (kf : a ≤ b → V X G kc ks ok ad σ l (pc + 3) st) : V X G kc ks ok ad σ l pc (iv b :: iv a :: st) := v_icmp_gt hC d ht (fun q => kt ((nI_ltI hb ha).mp q)) (fun q => kf (Nat.le_of_not_lt fun e => q ((nI_ltI hb ha).mpr e)))
theorem v_icmp_leN {a b : Nat} {off : Int} {tgt : Nat} (hC : Cx X G own cc nL n mc ms) (d : decode cc pc = .ok (.if_icmp .le off, 3)) (ht : (pc : Int) + off = (tgt : Int)) (ha : a < 2 ^ 31) (hb : b < 2 ^ 31) (kt : a ≤ b → V X G kc ks ok ad σ l tgt st) (kf : b < a → V X G kc ks ok ad σ l (pc + 3) st) : V X G kc ks ok ad σ l pc (iv b :: iv a :: st) := v_icmp_le hC d ht (fun q => kt ((nI_leI ha hb).mp q)) (fun q => kf (Nat.lt_of_not_le fun e => q ((nI_leI ha hb).mpr e)))
theorem nI_z (a : Nat) (ha : a < 2 ^ 31) : nI a = 0 ↔ a = 0 := ⟨fun q => (nI_eq ha (by decide)).mp (q.trans nI_0.symm), fun q => by subst q; exact nI_0⟩
theorem v_if_eqN {a : Nat} {off : Int} {tgt : Nat} (hC : Cx X G own cc nL n mc ms) (d : decode cc pc = .ok (.ifCond .eq off, 3)) (ht : (pc : Int) + off = (tgt : Int)) (ha : a < 2 ^ 31) (kt : a = 0 → V X G kc ks ok ad σ l tgt st) (kf : a ≠ 0 → V X G kc ks ok ad σ l (pc + 3) st) : V X G kc ks ok ad σ l pc (iv a :: st) := v_if_eq hC d ht (fun q => kt ((nI_z a ha).mp q)) (fun q => kf fun e => q ((nI_z a ha).mpr e))
theorem v_if_neN {a : Nat} {off : Int} {tgt : Nat} (hC : Cx X G own cc nL n mc ms) (d : decode cc pc = .ok (.ifCond .ne off, 3)) (ht : (pc : Int) + off = (tgt : Int)) (ha : a < 2 ^ 31) (kt : a ≠ 0 → V X G kc ks ok ad σ l tgt st) (kf : a = 0 → V X G kc ks ok ad σ l (pc + 3) st) : V X G kc ks ok ad σ l pc (iv a :: st) := v_if_ne hC d ht (fun q => kt fun e => q ((nI_z a ha).mpr e)) (fun q => kf ((nI_z a ha).mp q))
theorem v_if_ltN {a : Nat} {off : Int} {tgt : Nat} (hC : Cx X G own cc nL n mc ms) (d : decode cc pc = .ok (.ifCond .lt off, 3)) (ht : (pc : Int) + off = (tgt : Int)) (ha : a < 2 ^ 31) (kf : V X G kc ks ok ad σ l (pc + 3) st) : V X G kc ks ok ad σ l pc (iv a :: st) := v_if_lt hC d ht (fun q => absurd q (nI_pos ha)) (fun _ => kf)
theorem v_if_geN {a : Nat} {off : Int} {tgt : Nat} (hC : Cx X G own cc nL n mc ms) (d : decode cc pc = .ok (.ifCond .ge off, 3)) (ht : (pc : Int) + off = (tgt : Int)) (ha : a < 2 ^ 31) (kt : V X G kc ks ok ad σ l tgt st) : V X G kc ks ok ad σ l pc (iv a :: st) := v_if_ge hC d ht (fun _ => kt) (fun q => absurd (nI_pos' ha) q)
theorem v_if_gtN {a : Nat} {off : Int} {tgt : Nat} (hC : Cx X G own cc nL n mc ms) (d : decode cc pc = .ok (.ifCond .gt off, 3)) (ht : (pc : Int) + off = (tgt : Int)) (ha : a < 2 ^ 31) (kt : 0 < a → V X G kc ks ok ad σ l tgt st) (kf : a = 0 → V X G kc ks ok ad σ l (pc + 3) st) : V X G kc ks ok ad σ l pc (iv a :: st) := v_if_gt hC d ht (fun q => kt (Nat.pos_of_ne_zero fun e => by subst e; exact absurd q (by rw [nI_0]; decide))) (fun q => kf (Classical.byContradiction fun e => q (by have h := nI_lt (a := 0) (b := a) (Nat.pos_of_ne_zero e) ha; rw [nI_0] at h; exact h)))
theorem v_if_leN {a : Nat} {off : Int} {tgt : Nat} (hC : Cx X G own cc nL n mc ms) (d : decode cc pc = .ok (.ifCond .le off, 3)) (ht : (pc : Int) + off = (tgt : Int)) (ha : a < 2 ^ 31) (kt : a = 0 → V X G kc ks ok ad σ l tgt st) (kf : 0 < a → V X G kc ks ok ad σ l (pc + 3) st) : V X G kc ks ok ad σ l pc (iv a :: st) := v_if_le hC d ht (fun q => kt (Classical.byContradiction fun e => nI_nle (Nat.pos_of_ne_zero e) ha q)) (fun q => kf (Nat.pos_of_ne_zero fun e => q (by subst e; rw [nI_0]; decide)))
theorem dm_lt (a : Nat) (ha : a < 2 ^ 31) : dm a < 0 ↔ a = 0 := by
  cases a with
  | zero => exact ⟨fun _ => rfl, fun _ => by decide⟩
  | succ a => exact ⟨fun q => absurd q (nI_pos (n := a) (by omega)), fun q => by cases q⟩
theorem dm_inj {a b : Nat} (ha : a < 2 ^ 31) (hb : b < 2 ^ 31) : dm a = dm b ↔ a = b := by
  refine ⟨fun q => ?_, fun q => by rw [q]⟩
  cases a with
  | zero =>
    cases b with
    | zero => rfl
    | succ b => exact absurd ((dm_lt 0 (by decide)).mpr rfl) (by rw [q]; exact nI_pos (n := b) (by omega))
  | succ a =>
    cases b with
    | zero => exact absurd ((dm_lt 0 (by decide)).mpr rfl) (by rw [← q]; exact nI_pos (n := a) (by omega))
    | succ b => rw [(nI_eq (a := a) (b := b) (by omega) (by omega)).mp q]
theorem v_if_ltM {a : Nat} {off : Int} {tgt : Nat} (hC : Cx X G own cc nL n mc ms) (d : decode cc pc = .ok (.ifCond .lt off, 3)) (ht : (pc : Int) + off = (tgt : Int)) (ha : a < 2 ^ 31) (kt : a = 0 → V X G kc ks ok ad σ l tgt st) (kf : a ≠ 0 → V X G kc ks ok ad σ l (pc + 3) st) : V X G kc ks ok ad σ l pc (.int (dm a) :: st) := v_if_lt hC d ht (fun q => kt ((dm_lt a ha).mp q)) (fun q => kf fun e => q ((dm_lt a ha).mpr e))
theorem v_if_geM {a : Nat} {off : Int} {tgt : Nat} (hC : Cx X G own cc nL n mc ms) (d : decode cc pc = .ok (.ifCond .ge off, 3)) (ht : (pc : Int) + off = (tgt : Int)) (ha : a < 2 ^ 31) (kt : a ≠ 0 → V X G kc ks ok ad σ l tgt st) (kf : a = 0 → V X G kc ks ok ad σ l (pc + 3) st) : V X G kc ks ok ad σ l pc (.int (dm a) :: st) := v_if_ge hC d ht (fun q => kt fun e => absurd ((dm_lt a ha).mpr e) (Int32.not_lt.mpr q)) (fun q => kf ((dm_lt a ha).mp (Int32.not_le.mp q)))
theorem v_sub {l1 : List (Nat × Value)} (h : l1.map (fun q => lvg l q.1) = l1.map (fun q => some q.2)) (k : V X G kc ks ok ad σ l1 pc st) : V X G kc ks ok ad σ l pc st := fun H locs ls hR hS hl => k H locs ls hR hS ⟨hl.1, hl.2.1, fun q hq => by
  obtain ⟨i, hi⟩ := List.getElem?_of_mem hq
  have e := congrArg (fun t => t[i]?) h
  simp only [List.getElem?_map, hi, Option.map_some] at e
  exact lvg_has hl (Option.some.inj e)⟩
theorem v_wide {kc1 ks1 : Nat} (h1 : kc ≤ kc1) (h2 : ks ≤ ks1) (k : V X G kc1 ks1 ok ad σ l pc st) : V X G kc ks ok ad σ l pc st := fun H locs ls hR hS hl => W.widen h1 h2 (k H locs ls hR hS hl)
theorem v_st {st1 : List Value} (h : st = st1) (k : V X G kc ks ok ad σ l pc st1) : V X G kc ks ok ad σ l pc st := by rw [h]; exact k
theorem v_sg {σ1 : SG} (h : ∀ k i j, ok k i j → σ k i j = σ1 k i j) (k : V X G kc ks ok ad σ1 l pc st) : V X G kc ks ok ad σ l pc st := fun H locs ls hR hS hl => k H locs ls ⟨fun a i j q => by
  have := hR.1 a i j q
  rw [h a i j q] at this
  exact this, hR.2⟩ hS hl
theorem v_ok {ok1 : KF} (h : ∀ k i j, ok1 k i j → ok k i j) (k : V X G kc ks ok1 ad σ l pc st) : V X G kc ks ok ad σ l pc st := fun H locs ls hR hS hl => k H locs ls (hR.weak h) hS hl
end ROWS
end
section
theorem st_i {H1 : Heap} {a : Addr} {c : ClassId} {n i : Nat} {x : Int32} {f f1 : Nat → Int32} (e : H1[a]? = some ((vp_cell c (n, .inl f)).setSlot i (.int x))) (h : ∀ j, f1 j = if j = i then x else f j) : H1[a]? = some (vp_cell c (n, .inl f1)) := by
  rw [e, vp_cell_i, vp_cell_i, arrV_store]
  congr 2
  funext q
  rw [h q]
  by_cases hq : q = i <;> simp [updV, hq]
theorem st_l {H1 : Heap} {a : Addr} {c : ClassId} {n i : Nat} {x : Int64} {f f1 : Nat → Int64} (e : H1[a]? = some ((vp_cell c (n, .inr (.inl f))).setSlot i (.long x))) (h : ∀ j, f1 j = if j = i then x else f j) : H1[a]? = some (vp_cell c (n, .inr (.inl f1))) := by
  rw [e, vp_cell_l, vp_cell_l, arrV_store]
  congr 2
  funext q
  rw [h q]
  by_cases hq : q = i <;> simp [updV, hq]
theorem st_d {H1 : Heap} {a : Addr} {c : ClassId} {n i : Nat} {x : UInt64} {f f1 : Nat → UInt64} (e : H1[a]? = some ((vp_cell c (n, .inr (.inr (.inr (.inl f))))).setSlot i (.double x))) (h : ∀ j, f1 j = if j = i then x else f j) : H1[a]? = some (vp_cell c (n, .inr (.inr (.inr (.inl f1))))) := by
  rw [e, vp_cell_d, vp_cell_d, arrV_store]
  congr 2
  funext q
  rw [h q]
  by_cases hq : q = i <;> simp [updV, hq]
theorem st_q {H1 : Heap} {a : Addr} {c : ClassId} {n i : Nat} {x : Option Nat} {f f1 : Nat → Option Nat} (e : H1[a]? = some ((vp_cell c (n, .inr (.inr (.inr (.inr f))))).setSlot i (va_rf x))) (h : ∀ j, f1 j = if j = i then x else f j) : H1[a]? = some (vp_cell c (n, .inr (.inr (.inr (.inr f1))))) := by
  rw [e, vp_cell_q, vp_cell_q, arrV_store]
  congr 2
  funext q
  rw [h q]
  by_cases hq : q = i <;> simp [updV, hq]
theorem nar_z {v : Nat} (h : v < 2) : narrow .boolean (.int (nI v)) = .int (nI v) := by
  rcases (show v = 0 ∨ v = 1 by omega) with rfl | rfl <;> rfl
theorem nar_c {v : Nat} (h : v < 65536) : narrow .char (.int (nI v)) = .int (nI v) := (pk_charN h).1
section HEAP
variable {X : XT} {G : GT} {own : String} {cc : ByteArray} {nL n mc ms : Nat} {kc ks : Nat} {ok : KF} {ad : AD} {σ σ1 : SG} {l : List (Nat × Value)} {pc : Nat} {st : List Value} {k i j : Nat}
/-! fields -/
theorem v_get {ref C : String} {T : u_T} {N ci ix : Nat} {fs : List Value} {v : Value} (hC : Cx X G own cc nL n mc ms) (d : decode cc pc = .ok (.getfield ix, 3)) (hk : ok k i j) (he : enck G.2.2.1 ad k i j (σ k i j) = .inr (ci, fs)) (hc : CL[ci]? = some (C, T, N)) (hin : ∀ w ∈ u_ws C T N, w ∈ lw_good) (f : Nat) (hf : f < N)
    (hlink : (Cond.fieldLink own ix ref (T f).2.1 (T f).2.2.1).before (xa X) (xs X) = true) (hsame : ∀ x, (xs X).fieldFound? (T f).1 (T f).2.1 (T f).2.2.1 = some x → (xs X).fieldFound? ref (T f).2.1 (T f).2.2.1 = some x) (hv : fs[f]? = some v) (kk : V X G kc ks ok ad σ l (pc + 3) (v :: st)) : V X G kc ks ok ad σ l pc (.ref (ad k i j) :: st) := fun H locs ls hR hS hl =>
  va_get hC.x hC.b hC.ts hin hC.ow hC.K (hR.one hk he) 0 rfl hc f hf hlink hsame hv d (kk H locs ls hR hS hl)
theorem v_getN {ref C host : String} {T : u_T} {N ci ix : Nat} {fs : List Value} {v : Value} (hC : Cx X G own cc nL n mc ms) (d : decode cc pc = .ok (.getfield ix, 3)) (hk : ok k i j) (he : enck G.2.2.1 ad k i j (σ k i j) = .inr (ci, fs)) (hc : CL[ci]? = some (C, T, N)) (hin : ∀ w ∈ u_ws C T N, w ∈ lw_good) (f : Nat) (hf : f < N)
    (hlink : (Cond.fieldLinkNest own ix ref (T f).2.1 (T f).2.2.1 host).before (xa X) (xs X) = true) (hsame : ∀ x, (xs X).fieldFound? (T f).1 (T f).2.1 (T f).2.2.1 = some x → (xs X).fieldFound? ref (T f).2.1 (T f).2.2.1 = some x) (hv : fs[f]? = some v) (kk : V X G kc ks ok ad σ l (pc + 3) (v :: st)) : V X G kc ks ok ad σ l pc (.ref (ad k i j) :: st) := fun H locs ls hR hS hl =>
  va_getN hC.x hC.b hC.ts hin hC.ow hC.K (hR.one hk he) 0 rfl hc f hf hlink hsame hv d (kk H locs ls hR hS hl)
theorem v_put {ref C : String} {T : u_T} {N ci ix : Nat} {fs : List Value} {v : Value} {ty : FieldType} (hC : Cx X G own cc nL n mc ms) (d : decode cc pc = .ok (.putfield ix, 3)) (hk : ok k i j) (he : enck G.2.2.1 ad k i j (σ k i j) = .inr (ci, fs)) (hc : CL[ci]? = some (C, T, N)) (hin : ∀ w ∈ u_ws C T N, w ∈ lw_good) (ty0 : Nat → FieldType) (hty : ∀ k, k < N → parseFieldDescriptor (T k).2.2.1 = some (ty0 k)) (hnm : ∀ a, a < N → ∀ b, b < N → a ≠ b → (T a).2.1 ≠ (T b).2.1) (f : Nat) (hf : f < N)
    (hlink : (Cond.fieldLink own ix ref (T f).2.1 (T f).2.2.1).before (xa X) (xs X) = true) (hsame : ∀ x, (xs X).fieldFound? (T f).1 (T f).2.1 (T f).2.2.1 = some x → (xs X).fieldFound? ref (T f).2.1 (T f).2.2.1 = some x) (hfin : (T f).2.2.2 = false) (hd : parseFieldDescriptor (T f).2.2.1 = some ty) (hn : narrow ty v = v) (hfit : fits ty v = true) (hl : f < fs.length)
    (ho : ∀ k' i' j', ¬ (k' = k ∧ i' = i ∧ j' = j) → σ1 k' i' j' = σ k' i' j') (he1 : enck G.2.2.1 ad k i j (σ1 k i j) = .inr (ci, fs.set f v)) (kk : V X G kc ks ok ad σ1 l (pc + 3) st) : V X G kc ks ok ad σ l pc (v :: .ref (ad k i j) :: st) := fun H locs ls hR hS hls => by
  have hap := va_apart (own := own) hC.ts hin ty0 hty hnm hC.K hc
  obtain ⟨r, h1, cell, q1, q2, q3, q4⟩ := hR.one hk he 0 _ rfl
  have hr : r = (C, T, N) := Option.some.inj (h1.symm.trans hc)
  subst hr
  obtain ⟨hSl, hfc, kC, hkC, hkind⟩ := hC.K.1 ci _ hc
  obtain ⟨cf, kf, fi, fd, hi, hsl⟩ := hSl f hf
  have hlay := hC.ts _ (hin _ (u_in_lay hf))
  unfold u_lay at hlay
  rw [if_neg (by rw [hfin]; decide)] at hlay
  have hst := (u_facts hfc hkC (u_lays hC.ts hin hf) hi).1
  have h6 := u_store hfc hkC hkind hlay hi hd hn hfit
  refine W.putK hC.x hC.b (f := fd) ⟨hC.ow, hlink, ⟨_, _, _, hsame _ hi⟩, hst⟩ (by rw [q2]; exact h6) q1 q3 (by rw [hsl]; exact k2_hasslot (q4 f hf)) rfl rfl d fun H' e1 e2 e3 => ?_
  rw [hsl] at e1 ⊢
  refine kk H' _ ls (hR.set hk ?_ e3 ho) (hS.put e2 e3 (hR.ge hk)) hls
  rw [he1]
  exact ⟨_, hc, t_OB.to (V := updV (vp_V fs) f v) ⟨_, e1, q2, q3, t_set q4 hap hf v⟩ (fun j _ => vp_updV_set hl v j)⟩
theorem v_putN {ref C host : String} {T : u_T} {N ci ix : Nat} {fs : List Value} {v : Value} {ty : FieldType} (hC : Cx X G own cc nL n mc ms) (d : decode cc pc = .ok (.putfield ix, 3)) (hk : ok k i j) (he : enck G.2.2.1 ad k i j (σ k i j) = .inr (ci, fs)) (hc : CL[ci]? = some (C, T, N)) (hin : ∀ w ∈ u_ws C T N, w ∈ lw_good) (ty0 : Nat → FieldType) (hty : ∀ k, k < N → parseFieldDescriptor (T k).2.2.1 = some (ty0 k)) (hnm : ∀ a, a < N → ∀ b, b < N → a ≠ b → (T a).2.1 ≠ (T b).2.1) (f : Nat) (hf : f < N)
    (hlink : (Cond.fieldLinkNest own ix ref (T f).2.1 (T f).2.2.1 host).before (xa X) (xs X) = true) (hsame : ∀ x, (xs X).fieldFound? (T f).1 (T f).2.1 (T f).2.2.1 = some x → (xs X).fieldFound? ref (T f).2.1 (T f).2.2.1 = some x) (hfin : (T f).2.2.2 = false) (hd : parseFieldDescriptor (T f).2.2.1 = some ty) (hn : narrow ty v = v) (hfit : fits ty v = true) (hl : f < fs.length)
    (ho : ∀ k' i' j', ¬ (k' = k ∧ i' = i ∧ j' = j) → σ1 k' i' j' = σ k' i' j') (he1 : enck G.2.2.1 ad k i j (σ1 k i j) = .inr (ci, fs.set f v)) (kk : V X G kc ks ok ad σ1 l (pc + 3) st) : V X G kc ks ok ad σ l pc (v :: .ref (ad k i j) :: st) := fun H locs ls hR hS hls => by
  have hap := va_apart (own := own) hC.ts hin ty0 hty hnm hC.K hc
  obtain ⟨r, h1, cell, q1, q2, q3, q4⟩ := hR.one hk he 0 _ rfl
  have hr : r = (C, T, N) := Option.some.inj (h1.symm.trans hc)
  subst hr
  obtain ⟨hSl, hfc, kC, hkC, hkind⟩ := hC.K.1 ci _ hc
  obtain ⟨cf, kf, fi, fd, hi, hsl⟩ := hSl f hf
  have hlay := hC.ts _ (hin _ (u_in_lay hf))
  unfold u_lay at hlay
  rw [if_neg (by rw [hfin]; decide)] at hlay
  have hst := (u_facts hfc hkC (u_lays hC.ts hin hf) hi).1
  have h6 := u_store hfc hkC hkind hlay hi hd hn hfit
  refine va_WputK hC.x hC.b (f := fd) hC.ow hlink (hsame _ hi) hst (by rw [q2]; exact h6) q1 q3 (by rw [hsl]; exact k2_hasslot (q4 f hf)) rfl rfl d fun H' e1 e2 e3 => ?_
  rw [hsl] at e1 ⊢
  refine kk H' _ ls (hR.set hk ?_ e3 ho) (hS.put e2 e3 (hR.ge hk)) hls
  rw [he1]
  exact ⟨_, hc, t_OB.to (V := updV (vp_V fs) f v) ⟨_, e1, q2, q3, t_set q4 hap hf v⟩ (fun j _ => vp_updV_set hl v j)⟩
/-- a final field, in its class's constructor -/
theorem v_putF {ref C : String} {T : u_T} {N ci ix : Nat} {fs : List Value} {v : Value} {ty : FieldType} (hC : Cx X G own cc nL n mc ms) (hin2 : (xk X).name = "<init>") (d : decode cc pc = .ok (.putfield ix, 3)) (hk : ok k i j) (he : enck G.2.2.1 ad k i j (σ k i j) = .inr (ci, fs)) (hc : CL[ci]? = some (C, T, N)) (hin : ∀ w ∈ u_ws C T N, w ∈ lw_good) (ty0 : Nat → FieldType) (hty : ∀ k, k < N → parseFieldDescriptor (T k).2.2.1 = some (ty0 k)) (hnm : ∀ a, a < N → ∀ b, b < N → a ≠ b → (T a).2.1 ≠ (T b).2.1) (f : Nat) (hf : f < N)
    (hlink : (Cond.fieldLink own ix ref (T f).2.1 (T f).2.2.1).before (xa X) (xs X) = true) (hsame : ∀ x, (xs X).fieldFound? (T f).1 (T f).2.1 (T f).2.2.1 = some x → (xs X).fieldFound? ref (T f).2.1 (T f).2.2.1 = some x) (hfin : (T f).2.2.2 = true) (hdecl : (T f).1 = own) (hd : parseFieldDescriptor (T f).2.2.1 = some ty) (hn : narrow ty v = v) (hfit : fits ty v = true) (hl : f < fs.length)
    (ho : ∀ k' i' j', ¬ (k' = k ∧ i' = i ∧ j' = j) → σ1 k' i' j' = σ k' i' j') (he1 : enck G.2.2.1 ad k i j (σ1 k i j) = .inr (ci, fs.set f v)) (kk : V X G kc ks ok ad σ1 l (pc + 3) st) : V X G kc ks ok ad σ l pc (v :: .ref (ad k i j) :: st) := fun H locs ls hR hS hls => by
  have hap := va_apart (own := own) hC.ts hin ty0 hty hnm hC.K hc
  obtain ⟨r, h1, cell, q1, q2, q3, q4⟩ := hR.one hk he 0 _ rfl
  have hr : r = (C, T, N) := Option.some.inj (h1.symm.trans hc)
  subst hr
  obtain ⟨hSl, hfc, kC, hkC, hkind⟩ := hC.K.1 ci _ hc
  obtain ⟨cf, kf, fi, fd, hi, hsl⟩ := hSl f hf
  have hlay := hC.ts _ (hin _ (u_in_lay hf))
  unfold u_lay at hlay
  rw [if_pos hfin] at hlay
  have hst := (u_facts hfc hkC (u_lays hC.ts hin hf) hi).1
  have hcf : (xm X).cls = cf := by
    obtain ⟨_, _, c', _, _, _, -, -, hf', -, -, -, hown2, -⟩ := Cond.laysFinal_spec hlay
    have e1 : c' = cf := by have := hi.symm.trans hf'; simp at this; exact this.1.symm
    rw [hdecl] at hown2
    rw [← e1]; exact Option.some.inj (hC.ow.symm.trans hown2)
  have h6 := u_fits hfc hkC hkind (Or.inr hlay) hi hd hn hfit
  refine W.putFinK hC.x hC.b hC.ow hlink (hsame _ hi) hst hcf hin2 (by rw [q2]; exact h6) q1 q3 (by rw [hsl]; exact k2_hasslot (q4 f hf)) rfl rfl d fun H' e1 e2 e3 => ?_
  rw [hsl] at e1 ⊢
  refine kk H' _ ls (hR.set hk ?_ e3 ho) (hS.put e2 e3 (hR.ge hk)) hls
  rw [he1]
  exact ⟨_, hc, t_OB.to (V := updV (vp_V fs) f v) ⟨_, e1, q2, q3, t_set q4 hap hf v⟩ (fun j _ => vp_updV_set hl v j)⟩
/-! arrays: reads -/
variable {N x : Nat} {c : ClassId}
theorem v_iald {f : Nat → Int32} (hC : Cx X G own cc nL n mc ms) (d : decode cc pc = .ok (.iaload, 1)) (hk : ok k i j) (he : enck G.2.2.1 ad k i j (σ k i j) = .inl (G.2.2.1 0, N, .inl f)) (hx : x < N) (hN : N < 2 ^ 31) (kk : V X G kc ks ok ad σ l (pc + 1) (.int (f x) :: st)) : V X G kc ks ok ad σ l pc (iv x :: .ref (ad k i j) :: st) := fun H locs ls hR hS hl =>
  va_iald hC.x hC.b hC.K (hR.one hk he) 0 0 rfl rfl (vp_in_nI hx hN) d (by rw [nI_clamp (Nat.lt_trans hx hN)]; exact kk H locs ls hR hS hl)
theorem v_zald {f : Nat → Int32} (hC : Cx X G own cc nL n mc ms) (d : decode cc pc = .ok (.baload, 1)) (hk : ok k i j) (he : enck G.2.2.1 ad k i j (σ k i j) = .inl (G.2.2.1 1, N, .inl f)) (hx : x < N) (hN : N < 2 ^ 31) (kk : V X G kc ks ok ad σ l (pc + 1) (.int (f x) :: st)) : V X G kc ks ok ad σ l pc (iv x :: .ref (ad k i j) :: st) := fun H locs ls hR hS hl =>
  va_zald hC.x hC.b hC.K (hR.one hk he) 0 1 rfl rfl (vp_in_nI hx hN) d (by rw [nI_clamp (Nat.lt_trans hx hN)]; exact kk H locs ls hR hS hl)
theorem v_cald {f : Nat → Int32} (hC : Cx X G own cc nL n mc ms) (d : decode cc pc = .ok (.caload, 1)) (hk : ok k i j) (he : enck G.2.2.1 ad k i j (σ k i j) = .inl (G.2.2.1 2, N, .inl f)) (hx : x < N) (hN : N < 2 ^ 31) (kk : V X G kc ks ok ad σ l (pc + 1) (.int (f x) :: st)) : V X G kc ks ok ad σ l pc (iv x :: .ref (ad k i j) :: st) := fun H locs ls hR hS hl =>
  va_cald hC.x hC.b hC.K (hR.one hk he) 0 2 rfl rfl (vp_in_nI hx hN) d (by rw [nI_clamp (Nat.lt_trans hx hN)]; exact kk H locs ls hR hS hl)
theorem v_lald {f : Nat → Int64} (hC : Cx X G own cc nL n mc ms) (d : decode cc pc = .ok (.laload, 1)) (hk : ok k i j) (he : enck G.2.2.1 ad k i j (σ k i j) = .inl (G.2.2.1 3, N, .inr (.inl f))) (hx : x < N) (hN : N < 2 ^ 31) (kk : V X G kc ks ok ad σ l (pc + 1) (.long (f x) :: st)) : V X G kc ks ok ad σ l pc (iv x :: .ref (ad k i j) :: st) := fun H locs ls hR hS hl =>
  va_lald hC.x hC.b hC.K (hR.one hk he) 0 3 rfl rfl (vp_in_nI hx hN) d (by rw [nI_clamp (Nat.lt_trans hx hN)]; exact kk H locs ls hR hS hl)
theorem v_dald {f : Nat → UInt64} (hC : Cx X G own cc nL n mc ms) (d : decode cc pc = .ok (.daload, 1)) (hk : ok k i j) (he : enck G.2.2.1 ad k i j (σ k i j) = .inl (G.2.2.1 4, N, .inr (.inr (.inr (.inl f))))) (hx : x < N) (hN : N < 2 ^ 31) (kk : V X G kc ks ok ad σ l (pc + 1) (.double (f x) :: st)) : V X G kc ks ok ad σ l pc (iv x :: .ref (ad k i j) :: st) := fun H locs ls hR hS hl =>
  va_dald hC.x hC.b hC.K (hR.one hk he) 0 4 rfl rfl (vp_in_nI hx hN) d (by rw [nI_clamp (Nat.lt_trans hx hN)]; exact kk H locs ls hR hS hl)
theorem v_aald {f : Nat → Option Nat} (t0 : Nat) {ty : FieldType} (ht : (TYS G.2.2.1)[t0]? = some (c, ty)) (hty : ty.isReference = true) (hC : Cx X G own cc nL n mc ms) (d : decode cc pc = .ok (.aaload, 1)) (hk : ok k i j) (he : enck G.2.2.1 ad k i j (σ k i j) = .inl (c, N, .inr (.inr (.inr (.inr f))))) (hx : x < N) (hN : N < 2 ^ 31) (kk : V X G kc ks ok ad σ l (pc + 1) (va_rf (f x) :: st)) : V X G kc ks ok ad σ l pc (iv x :: .ref (ad k i j) :: st) := fun H locs ls hR hS hl => by
  have hc : (nI x).toNatClampNeg = x := nI_clamp (Nat.lt_trans hx hN)
  exact W.aald (v := va_rf (f x)) (ty := ty) hC.x hC.b (hR.one hk he 0 _ rfl) ((hC.K.2 t0 _ ht).1 N (fun j => va_rf (f j))) hty (fun q => by cases q) (by show ¬ (nI x < 0 ∨ (arrV _ _ _).slots.size ≤ _); rw [arrV_size]; exact vp_in_nI hx hN) (by show (arrV _ _ _).slots[_]? = _; rw [hc, arrV_read _ _ hx]) rfl rfl d (kk H locs ls hR hS hl)
theorem v_alen {a : vp_A} (t0 : Nat) {ty : FieldType} (ht : (TYS G.2.2.1)[t0]? = some (c, ty)) (hC : Cx X G own cc nL n mc ms) (d : decode cc pc = .ok (.arraylength, 1)) (hk : ok k i j) (he : enck G.2.2.1 ad k i j (σ k i j) = .inl (c, a)) (kk : V X G kc ks ok ad σ l (pc + 1) (iv a.1 :: st)) : V X G kc ks ok ad σ l pc (.ref (ad k i j) :: st) := fun H locs ls hR hS hl =>
  va_alen hC.x hC.b hC.K (hR.one hk he) 0 t0 rfl ht rfl d (kk H locs ls hR hS hl)
/-! arrays: stores -/
theorem v_iast {f f1 : Nat → Int32} {y : Int32} (hC : Cx X G own cc nL n mc ms) (d : decode cc pc = .ok (.iastore, 1)) (hk : ok k i j) (he : enck G.2.2.1 ad k i j (σ k i j) = .inl (G.2.2.1 0, N, .inl f)) (hx : x < N) (hN : N < 2 ^ 31)
    (ho : ∀ k' i' j', ¬ (k' = k ∧ i' = i ∧ j' = j) → σ1 k' i' j' = σ k' i' j') (he1 : enck G.2.2.1 ad k i j (σ1 k i j) = .inl (G.2.2.1 0, N, .inl f1)) (hf : ∀ a, f1 a = if a = x then y else f a) (kk : V X G kc ks ok ad σ1 l (pc + 1) st) : V X G kc ks ok ad σ l pc (.int y :: iv x :: .ref (ad k i j) :: st) := fun H locs ls hR hS hl => by
  have hc : (nI x).toNatClampNeg = x := nI_clamp (Nat.lt_trans hx hN)
  refine W.iast hC.x hC.b (hR.one hk he 0 _ rfl) ((hC.K.2 0 _ rfl).1 N (fun j => .int (f j))) (fun q => by cases q) (by show ¬ (nI x < 0 ∨ (arrV _ _ _).slots.size ≤ _); rw [arrV_size]; exact vp_in_nI hx hN) rfl rfl d fun H1 e z oq => ?_
  rw [hc] at e
  exact kk H1 _ ls (hR.set hk (by rw [he1]; exact st_i e hf) oq ho) (hS.put z oq (hR.ge hk)) hl
theorem v_zast {f f1 : Nat → Int32} {y : Int32} (hC : Cx X G own cc nL n mc ms) (d : decode cc pc = .ok (.bastore, 1)) (hk : ok k i j) (he : enck G.2.2.1 ad k i j (σ k i j) = .inl (G.2.2.1 1, N, .inl f)) (hx : x < N) (hN : N < 2 ^ 31) (hy : narrow .boolean (.int y) = .int y)
    (ho : ∀ k' i' j', ¬ (k' = k ∧ i' = i ∧ j' = j) → σ1 k' i' j' = σ k' i' j') (he1 : enck G.2.2.1 ad k i j (σ1 k i j) = .inl (G.2.2.1 1, N, .inl f1)) (hf : ∀ a, f1 a = if a = x then y else f a) (kk : V X G kc ks ok ad σ1 l (pc + 1) st) : V X G kc ks ok ad σ l pc (.int y :: iv x :: .ref (ad k i j) :: st) := fun H locs ls hR hS hl => by
  have hc : (nI x).toNatClampNeg = x := nI_clamp (Nat.lt_trans hx hN)
  refine W.zast hC.x hC.b (hR.one hk he 0 _ rfl) ((hC.K.2 1 _ rfl).1 N (fun j => .int (f j))) (fun q => by cases q) (by show ¬ (nI x < 0 ∨ (arrV _ _ _).slots.size ≤ _); rw [arrV_size]; exact vp_in_nI hx hN) rfl rfl d fun H1 e z oq => ?_
  rw [hc, hy] at e
  exact kk H1 _ ls (hR.set hk (by rw [he1]; exact st_i e hf) oq ho) (hS.put z oq (hR.ge hk)) hl
theorem v_cast {f f1 : Nat → Int32} {y : Int32} (hC : Cx X G own cc nL n mc ms) (d : decode cc pc = .ok (.castore, 1)) (hk : ok k i j) (he : enck G.2.2.1 ad k i j (σ k i j) = .inl (G.2.2.1 2, N, .inl f)) (hx : x < N) (hN : N < 2 ^ 31) (hy : narrow .char (.int y) = .int y)
    (ho : ∀ k' i' j', ¬ (k' = k ∧ i' = i ∧ j' = j) → σ1 k' i' j' = σ k' i' j') (he1 : enck G.2.2.1 ad k i j (σ1 k i j) = .inl (G.2.2.1 2, N, .inl f1)) (hf : ∀ a, f1 a = if a = x then y else f a) (kk : V X G kc ks ok ad σ1 l (pc + 1) st) : V X G kc ks ok ad σ l pc (.int y :: iv x :: .ref (ad k i j) :: st) := fun H locs ls hR hS hl => by
  have hc : (nI x).toNatClampNeg = x := nI_clamp (Nat.lt_trans hx hN)
  refine W.cast hC.x hC.b (hR.one hk he 0 _ rfl) ((hC.K.2 2 _ rfl).1 N (fun j => .int (f j))) (fun q => by cases q) (by show ¬ (nI x < 0 ∨ (arrV _ _ _).slots.size ≤ _); rw [arrV_size]; exact vp_in_nI hx hN) rfl rfl d fun H1 e z oq => ?_
  rw [hc, hy] at e
  exact kk H1 _ ls (hR.set hk (by rw [he1]; exact st_i e hf) oq ho) (hS.put z oq (hR.ge hk)) hl
theorem v_last {f f1 : Nat → Int64} {y : Int64} (hC : Cx X G own cc nL n mc ms) (d : decode cc pc = .ok (.lastore, 1)) (hk : ok k i j) (he : enck G.2.2.1 ad k i j (σ k i j) = .inl (G.2.2.1 3, N, .inr (.inl f))) (hx : x < N) (hN : N < 2 ^ 31)
    (ho : ∀ k' i' j', ¬ (k' = k ∧ i' = i ∧ j' = j) → σ1 k' i' j' = σ k' i' j') (he1 : enck G.2.2.1 ad k i j (σ1 k i j) = .inl (G.2.2.1 3, N, .inr (.inl f1))) (hf : ∀ a, f1 a = if a = x then y else f a) (kk : V X G kc ks ok ad σ1 l (pc + 1) st) : V X G kc ks ok ad σ l pc (.long y :: iv x :: .ref (ad k i j) :: st) := fun H locs ls hR hS hl => by
  have hc : (nI x).toNatClampNeg = x := nI_clamp (Nat.lt_trans hx hN)
  refine W.last hC.x hC.b (hR.one hk he 0 _ rfl) ((hC.K.2 3 _ rfl).1 N (fun j => .long (f j))) (fun q => by cases q) (by show ¬ (nI x < 0 ∨ (arrV _ _ _).slots.size ≤ _); rw [arrV_size]; exact vp_in_nI hx hN) rfl rfl d fun H1 e z oq => ?_
  rw [hc] at e
  exact kk H1 _ ls (hR.set hk (by rw [he1]; exact st_l e hf) oq ho) (hS.put z oq (hR.ge hk)) hl
theorem v_dast {f f1 : Nat → UInt64} {y : UInt64} (hC : Cx X G own cc nL n mc ms) (d : decode cc pc = .ok (.dastore, 1)) (hk : ok k i j) (he : enck G.2.2.1 ad k i j (σ k i j) = .inl (G.2.2.1 4, N, .inr (.inr (.inr (.inl f))))) (hx : x < N) (hN : N < 2 ^ 31)
    (ho : ∀ k' i' j', ¬ (k' = k ∧ i' = i ∧ j' = j) → σ1 k' i' j' = σ k' i' j') (he1 : enck G.2.2.1 ad k i j (σ1 k i j) = .inl (G.2.2.1 4, N, .inr (.inr (.inr (.inl f1))))) (hf : ∀ a, f1 a = if a = x then y else f a) (kk : V X G kc ks ok ad σ1 l (pc + 1) st) : V X G kc ks ok ad σ l pc (.double y :: iv x :: .ref (ad k i j) :: st) := fun H locs ls hR hS hl => by
  have hc : (nI x).toNatClampNeg = x := nI_clamp (Nat.lt_trans hx hN)
  refine W.dast hC.x hC.b (hR.one hk he 0 _ rfl) ((hC.K.2 4 _ rfl).1 N (fun j => .double (f j))) (fun q => by cases q) (by show ¬ (nI x < 0 ∨ (arrV _ _ _).slots.size ≤ _); rw [arrV_size]; exact vp_in_nI hx hN) rfl rfl d fun H1 e z oq => ?_
  rw [hc] at e
  exact kk H1 _ ls (hR.set hk (by rw [he1]; exact st_d e hf) oq ho) (hS.put z oq (hR.ge hk)) hl
/-- null into a row of objects -/
theorem v_aastN {f f1 : Nat → Option Nat} (t0 : Nat) {E : String} (ht : (TYS G.2.2.1)[t0]? = some (c, .object E)) (hC : Cx X G own cc nL n mc ms) (d : decode cc pc = .ok (.aastore, 1)) (hk : ok k i j) (he : enck G.2.2.1 ad k i j (σ k i j) = .inl (c, N, .inr (.inr (.inr (.inr f))))) (hx : x < N) (hN : N < 2 ^ 31)
    (ho : ∀ k' i' j', ¬ (k' = k ∧ i' = i ∧ j' = j) → σ1 k' i' j' = σ k' i' j') (he1 : enck G.2.2.1 ad k i j (σ1 k i j) = .inl (c, N, .inr (.inr (.inr (.inr f1))))) (hf : ∀ a, f1 a = if a = x then none else f a) (kk : V X G kc ks ok ad σ1 l (pc + 1) st) : V X G kc ks ok ad σ l pc (.null :: iv x :: .ref (ad k i j) :: st) := fun H locs ls hR hS hl => by
  have hc : (nI x).toNatClampNeg = x := nI_clamp (Nat.lt_trans hx hN)
  refine va_WaastN (C := E) hC.x hC.b (hR.one hk he 0 _ rfl) ((hC.K.2 t0 _ ht).1 N (fun j => va_rf (f j))) (fun q => by cases q) (by show ¬ (nI x < 0 ∨ (arrV _ _ _).slots.size ≤ _); rw [arrV_size]; exact vp_in_nI hx hN) rfl rfl d fun H1 e z oq => ?_
  rw [hc] at e
  exact kk H1 _ ls (hR.set hk (by rw [he1]; exact st_q (x := none) e hf) oq ho) (hS.put z oq (hR.ge hk)) hl
/-- an object or an array that may lie in a row of E -/
theorem v_aast {f f1 : Nat → Option Nat} (t0 : Nat) {E : String} {v : Nat} (ht : (TYS G.2.2.1)[t0]? = some (c, .object E)) (hC : Cx X G own cc nL n mc ms) (d : decode cc pc = .ok (.aastore, 1)) (hk : ok k i j) (he : enck G.2.2.1 ad k i j (σ k i j) = .inl (c, N, .inr (.inr (.inr (.inr f))))) (hx : x < N) (hN : N < 2 ^ 31)
    (hr : ∀ H : Heap, Rep G ok ad σ H → va_Any E (xs X) H v)
    (ho : ∀ k' i' j', ¬ (k' = k ∧ i' = i ∧ j' = j) → σ1 k' i' j' = σ k' i' j') (he1 : enck G.2.2.1 ad k i j (σ1 k i j) = .inl (c, N, .inr (.inr (.inr (.inr f1))))) (hf : ∀ a, f1 a = if a = x then some v else f a) (kk : V X G kc ks ok ad σ1 l (pc + 1) st) : V X G kc ks ok ad σ l pc (.ref v :: iv x :: .ref (ad k i j) :: st) := fun H locs ls hR hS hl => by
  have hc : (nI x).toNatClampNeg = x := nI_clamp (Nat.lt_trans hx hN)
  obtain ⟨cellV, g1, g3, ⟨kC, hkC⟩, hasg⟩ := hr H hR
  obtain ⟨kA, comp, k1, k2, k3, -⟩ := (hC.K.2 t0 _ ht).2
  obtain ⟨kE, hkE, -⟩ := Vm.findClass_spec k3
  refine W.aast hC.x hC.b (hR.one hk he 0 _ rfl) (fun q h => by cases h) (fun h => by cases h) k1 k2 rfl hkE ⟨nI_pos (Nat.lt_trans hx hN), by show _ < (arrV _ _ _).slots.size; rw [arrV_size, hc]; exact hx⟩ g1 (fun q h => by rw [h] at g3; cases g3) hkC (hasg _ k3) rfl rfl d fun H1 e z oq => ?_
  rw [hc] at e
  exact kk H1 _ ls (hR.set hk (by rw [he1]; exact st_q (x := some v) e hf) oq ho) (hS.put z oq (hR.ge hk)) hl
/-- objects of E itself -/
theorem any_own {ci v : Nat} {fs : List Value} {r : vw_C} (hC : Cx X G own cc nL n mc ms) (hc : CL[ci]? = some r) (hk : ok k i j) (he : enck G.2.2.1 ad k i j (σ k i j) = .inr (ci, fs)) (hv : v = ad k i j) : ∀ H : Heap, Rep G ok ad σ H → va_Any r.1 (xs X) H v := fun H hR => by
  subst hv
  exact va_rAny hC.K (hR.one hk he) (q0 := 0) (ci := ci) (fs := fs) rfl hc (fun comp c0 h1 h2 => by
    have e1 := Option.some.inj (h1.symm.trans (hC.K.1 ci r hc).2.1)
    have e2 := Option.some.inj (h2.symm.trans (hC.K.1 ci r hc).2.1)
    rw [e1, e2]
    exact va_assign (hC.K.1 ci r hc).2)
end HEAP
end
section
/-! which keys stand for good: the class's, the model's -/
def okc (k i j : Nat) : Bool := match k with
  | 0 => i == 0 && j == 0
  | 1 => i == 0 && j == 0
  | 2 => i == 0 && j == 0
  | 3 => i == 0 && j == 0
  | 4 => i == 0 && j == 0
  | 5 => i == 0 && j == 0
  | 6 => decide (i < 16) && j == 0
  | 7 => decide (i < 16) && j == 0
  | 8 => decide (i < 16) && j == 0
  | 9 => decide (i < 16) && j == 0
  | 10 => decide (i < 16) && j == 0
  | 11 => decide (i < 16) && decide (j < 6)
  | 12 => decide (i < 2) && j == 0
  | 13 => decide (i < 2) && j == 0
  | 14 => i == 0 && j == 0
  | 15 => decide (i < 2) && j == 0
  | 16 => i == 0 && j == 0
  | 17 => i == 0 && j == 0
  | 18 => decide (i < 12) && j == 0
  | 19 => i == 0 && j == 0
  | 20 => i == 0 && j == 0
  | _ => false
def okm (k i j : Nat) : Bool := match k with
  | 30 => i == 0 && j == 0
  | 31 => i == 0 && j == 0
  | 32 => i == 0 && j == 0
  | 33 => i == 0 && j == 0
  | 34 => i == 0 && j == 0
  | 35 => i == 0 && j == 0
  | 36 => i == 0 && j == 0
  | 37 => i == 0 && j == 0
  | 38 => i == 0 && j == 0
  | 39 => i == 0 && j == 0
  | 40 => i == 0 && j == 0
  | 41 => decide (i < 16) && j == 0
  | 42 => i == 0 && j == 0
  | 43 => decide (i < 16) && j == 0
  | 44 => i == 0 && j == 0
  | 45 => decide (i < 16) && j == 0
  | 46 => i == 0 && j == 0
  | 47 => decide (i < 16) && j == 0
  | 48 => decide (i < 16) && decide (j < 6)
  | 49 => i == 0 && j == 0
  | 50 => i == 0 && j == 0
  | 51 => i == 0 && j == 0
  | 52 => i == 0 && j == 0
  | 53 => i == 0 && j == 0
  | 54 => i == 0 && j == 0
  | _ => false
def OKC (ok : KF) : Prop := ∀ k i j, okc k i j = true → ok k i j
def OKM (ok : KF) : Prop := ∀ k i j, okm k i j = true → ok k i j
theorem OKC.k0 {ok : KF} (h : OKC ok) : ok 0 0 0 := h 0 0 0 rfl
theorem OKC.k1 {ok : KF} (h : OKC ok) : ok 1 0 0 := h 1 0 0 rfl
theorem OKC.k2 {ok : KF} (h : OKC ok) : ok 2 0 0 := h 2 0 0 rfl
theorem OKC.k3 {ok : KF} (h : OKC ok) : ok 3 0 0 := h 3 0 0 rfl
theorem OKC.k4 {ok : KF} (h : OKC ok) : ok 4 0 0 := h 4 0 0 rfl
theorem OKC.k5 {ok : KF} (h : OKC ok) : ok 5 0 0 := h 5 0 0 rfl
theorem OKC.k6 {ok : KF} (h : OKC ok) {i : Nat} (hi : i < 16) : ok 6 i 0 := h 6 i 0 (by simp [okc, hi])
theorem OKC.k7 {ok : KF} (h : OKC ok) {i : Nat} (hi : i < 16) : ok 7 i 0 := h 7 i 0 (by simp [okc, hi])
theorem OKC.k8 {ok : KF} (h : OKC ok) {i : Nat} (hi : i < 16) : ok 8 i 0 := h 8 i 0 (by simp [okc, hi])
theorem OKC.k9 {ok : KF} (h : OKC ok) {i : Nat} (hi : i < 16) : ok 9 i 0 := h 9 i 0 (by simp [okc, hi])
theorem OKC.k10 {ok : KF} (h : OKC ok) {i : Nat} (hi : i < 16) : ok 10 i 0 := h 10 i 0 (by simp [okc, hi])
theorem OKC.k11 {ok : KF} (h : OKC ok) {i j : Nat} (hi : i < 16) (hj : j < 6) : ok 11 i j := h 11 i j (by simp [okc, hi, hj])
theorem OKC.k12 {ok : KF} (h : OKC ok) {i : Nat} (hi : i < 2) : ok 12 i 0 := h 12 i 0 (by simp [okc, hi])
theorem OKC.k13 {ok : KF} (h : OKC ok) {i : Nat} (hi : i < 2) : ok 13 i 0 := h 13 i 0 (by simp [okc, hi])
theorem OKC.k14 {ok : KF} (h : OKC ok) : ok 14 0 0 := h 14 0 0 rfl
theorem OKC.k15 {ok : KF} (h : OKC ok) {i : Nat} (hi : i < 2) : ok 15 i 0 := h 15 i 0 (by simp [okc, hi])
theorem OKC.k16 {ok : KF} (h : OKC ok) : ok 16 0 0 := h 16 0 0 rfl
theorem OKC.k17 {ok : KF} (h : OKC ok) : ok 17 0 0 := h 17 0 0 rfl
theorem OKC.k18 {ok : KF} (h : OKC ok) {i : Nat} (hi : i < 12) : ok 18 i 0 := h 18 i 0 (by simp [okc, hi])
theorem OKC.k19 {ok : KF} (h : OKC ok) : ok 19 0 0 := h 19 0 0 rfl
theorem OKC.k20 {ok : KF} (h : OKC ok) : ok 20 0 0 := h 20 0 0 rfl
theorem OKM.k30 {ok : KF} (h : OKM ok) : ok 30 0 0 := h 30 0 0 rfl
theorem OKM.k31 {ok : KF} (h : OKM ok) : ok 31 0 0 := h 31 0 0 rfl
theorem OKM.k32 {ok : KF} (h : OKM ok) : ok 32 0 0 := h 32 0 0 rfl
theorem OKM.k33 {ok : KF} (h : OKM ok) : ok 33 0 0 := h 33 0 0 rfl
theorem OKM.k34 {ok : KF} (h : OKM ok) : ok 34 0 0 := h 34 0 0 rfl
theorem OKM.k35 {ok : KF} (h : OKM ok) : ok 35 0 0 := h 35 0 0 rfl
theorem OKM.k36 {ok : KF} (h : OKM ok) : ok 36 0 0 := h 36 0 0 rfl
theorem OKM.k37 {ok : KF} (h : OKM ok) : ok 37 0 0 := h 37 0 0 rfl
theorem OKM.k38 {ok : KF} (h : OKM ok) : ok 38 0 0 := h 38 0 0 rfl
theorem OKM.k39 {ok : KF} (h : OKM ok) : ok 39 0 0 := h 39 0 0 rfl
theorem OKM.k40 {ok : KF} (h : OKM ok) : ok 40 0 0 := h 40 0 0 rfl
theorem OKM.k41 {ok : KF} (h : OKM ok) {i : Nat} (hi : i < 16) : ok 41 i 0 := h 41 i 0 (by simp [okm, hi])
theorem OKM.k42 {ok : KF} (h : OKM ok) : ok 42 0 0 := h 42 0 0 rfl
theorem OKM.k43 {ok : KF} (h : OKM ok) {i : Nat} (hi : i < 16) : ok 43 i 0 := h 43 i 0 (by simp [okm, hi])
theorem OKM.k44 {ok : KF} (h : OKM ok) : ok 44 0 0 := h 44 0 0 rfl
theorem OKM.k45 {ok : KF} (h : OKM ok) {i : Nat} (hi : i < 16) : ok 45 i 0 := h 45 i 0 (by simp [okm, hi])
theorem OKM.k46 {ok : KF} (h : OKM ok) : ok 46 0 0 := h 46 0 0 rfl
theorem OKM.k47 {ok : KF} (h : OKM ok) {i : Nat} (hi : i < 16) : ok 47 i 0 := h 47 i 0 (by simp [okm, hi])
theorem OKM.k48 {ok : KF} (h : OKM ok) {i j : Nat} (hi : i < 16) (hj : j < 6) : ok 48 i j := h 48 i j (by simp [okm, hi, hj])
theorem OKM.k49 {ok : KF} (h : OKM ok) : ok 49 0 0 := h 49 0 0 rfl
theorem OKM.k50 {ok : KF} (h : OKM ok) : ok 50 0 0 := h 50 0 0 rfl
theorem OKM.k51 {ok : KF} (h : OKM ok) : ok 51 0 0 := h 51 0 0 rfl
theorem OKM.k52 {ok : KF} (h : OKM ok) : ok 52 0 0 := h 52 0 0 rfl
theorem OKM.k53 {ok : KF} (h : OKM ok) : ok 53 0 0 := h 53 0 0 rfl
theorem OKM.k54 {ok : KF} (h : OKM ok) : ok 54 0 0 := h 54 0 0 rfl
theorem gin_X5 : ∀ w ∈ u_ws RX5 TX5 12, w ∈ lw_good := by decide +kernel
theorem gin_X1 : ∀ w ∈ u_ws RX1 TX1 9, w ∈ lw_good := by decide +kernel
theorem gin_X2 : ∀ w ∈ u_ws RX2 TX2 2, w ∈ lw_good := by decide +kernel
theorem gin_X3 : ∀ w ∈ u_ws RX3 TX3 4, w ∈ lw_good := by decide +kernel
theorem gin_X4 : ∀ w ∈ u_ws RX4 TX4 7, w ∈ lw_good := by decide +kernel
theorem gin_X0 : ∀ w ∈ u_ws RX0 TX0 3, w ∈ lw_good := by decide +kernel
theorem gin_X6 : ∀ w ∈ u_ws RX6 TX6 26, w ∈ lw_good := by decide +kernel
theorem gin_Jx4a65c : ∀ w ∈ u_ws RJx4a65c TJx4a65c 3, w ∈ lw_good := by decide +kernel
theorem gin_Jx35411 : ∀ w ∈ u_ws RJx35411 TJx35411 4, w ∈ lw_good := by decide +kernel
section FIELDS
variable {X : XT} {G : GT} {cc : ByteArray} {nL n mc ms : Nat} {kc ks : Nat} {ok : KF} {ad : AD} {σ : SG} {l : List (Nat × Value)} {pc : Nat} {st : List Value} {i j x v : Nat}
theorem up_ne {σ : SG} {k i j x v : Nat} : ∀ k' i' j', ¬ (k' = k ∧ i' = i ∧ j' = j) → up σ k i j x v k' i' j' = σ k' i' j' := fun _ _ _ h => up_off σ x v h
theorem wf_X5_9 : Cond.fieldLink "Branchyard" 9 "Branchyard" "owners" "[I" ∈ lw_good := gd_at 223 (by decide +kernel) (by decide +kernel)
theorem gf_X5_9 (hC : Cx X G "Branchyard" cc nL n mc ms) (d : decode cc pc = .ok (.getfield 9, 3)) (hO : OKC ok) (k : V X G kc ks ok ad σ l (pc + 3) (.ref (ad 1 0 0) :: st)) : V X G kc ks ok ad σ l pc (.ref (ad 0 0 0) :: st) := v_get (C := RX5) (T := TX5) (N := 12) (ci := 0) hC d hO.k0 rfl rfl gin_X5 0 (by decide) (hC.ts _ wf_X5_9) (fun _ h => h) rfl k
theorem wf_X5_13 : Cond.fieldLink "Branchyard" 13 "Branchyard" "standIns" "[I" ∈ lw_good := gd_at 224 (by decide +kernel) (by decide +kernel)
theorem gf_X5_13 (hC : Cx X G "Branchyard" cc nL n mc ms) (d : decode cc pc = .ok (.getfield 13, 3)) (hO : OKC ok) (k : V X G kc ks ok ad σ l (pc + 3) (.ref (ad 2 0 0) :: st)) : V X G kc ks ok ad σ l pc (.ref (ad 0 0 0) :: st) := v_get (C := RX5) (T := TX5) (N := 12) (ci := 0) hC d hO.k0 rfl rfl gin_X5 1 (by decide) (hC.ts _ wf_X5_13) (fun _ h => h) rfl k
theorem wf_X5_16 : Cond.fieldLink "Branchyard" 16 "Branchyard" "frozen" "[Z" ∈ lw_good := gd_at 225 (by decide +kernel) (by decide +kernel)
theorem gf_X5_16 (hC : Cx X G "Branchyard" cc nL n mc ms) (d : decode cc pc = .ok (.getfield 16, 3)) (hO : OKC ok) (k : V X G kc ks ok ad σ l (pc + 3) (.ref (ad 3 0 0) :: st)) : V X G kc ks ok ad σ l pc (.ref (ad 0 0 0) :: st) := v_get (C := RX5) (T := TX5) (N := 12) (ci := 0) hC d hO.k0 rfl rfl gin_X5 2 (by decide) (hC.ts _ wf_X5_16) (fun _ h => h) rfl k
theorem wf_X5_20 : Cond.fieldLink "Branchyard" 20 "Branchyard" "away" "[Z" ∈ lw_good := gd_at 226 (by decide +kernel) (by decide +kernel)
theorem gf_X5_20 (hC : Cx X G "Branchyard" cc nL n mc ms) (d : decode cc pc = .ok (.getfield 20, 3)) (hO : OKC ok) (k : V X G kc ks ok ad σ l (pc + 3) (.ref (ad 4 0 0) :: st)) : V X G kc ks ok ad σ l pc (.ref (ad 0 0 0) :: st) := v_get (C := RX5) (T := TX5) (N := 12) (ci := 0) hC d hO.k0 rfl rfl gin_X5 3 (by decide) (hC.ts _ wf_X5_20) (fun _ h => h) rfl k
theorem wf_X5_25 : Cond.fieldLink "Branchyard" 25 "Branchyard" "changes" "[LBranchyard$Change;" ∈ lw_good := gd_at 227 (by decide +kernel) (by decide +kernel)
theorem gf_X5_25 (hC : Cx X G "Branchyard" cc nL n mc ms) (d : decode cc pc = .ok (.getfield 25, 3)) (hO : OKC ok) (k : V X G kc ks ok ad σ l (pc + 3) (.ref (ad 5 0 0) :: st)) : V X G kc ks ok ad σ l pc (.ref (ad 0 0 0) :: st) := v_get (C := RX5) (T := TX5) (N := 12) (ci := 0) hC d hO.k0 rfl rfl gin_X5 4 (by decide) (hC.ts _ wf_X5_25) (fun _ h => h) rfl k
theorem wf_X5_32 : Cond.fieldLink "Branchyard" 32 "Branchyard" "queued" "LBranchyard$Order;" ∈ lw_good := gd_at 229 (by decide +kernel) (by decide +kernel)
theorem gf_X5_32 (hC : Cx X G "Branchyard" cc nL n mc ms) (d : decode cc pc = .ok (.getfield 32, 3)) (hO : OKC ok) (k : V X G kc ks ok ad σ l (pc + 3) (.ref (ad 12 0 0) :: st)) : V X G kc ks ok ad σ l pc (.ref (ad 0 0 0) :: st) := v_get (C := RX5) (T := TX5) (N := 12) (ci := 0) hC d hO.k0 rfl rfl gin_X5 6 (by decide) (hC.ts _ wf_X5_32) (fun _ h => h) rfl k
theorem wf_X5_36 : Cond.fieldLink "Branchyard" 36 "Branchyard" "merged" "LBranchyard$Order;" ∈ lw_good := gd_at 230 (by decide +kernel) (by decide +kernel)
theorem gf_X5_36 (hC : Cx X G "Branchyard" cc nL n mc ms) (d : decode cc pc = .ok (.getfield 36, 3)) (hO : OKC ok) (k : V X G kc ks ok ad σ l (pc + 3) (.ref (ad 12 1 0) :: st)) : V X G kc ks ok ad σ l pc (.ref (ad 0 0 0) :: st) := v_get (C := RX5) (T := TX5) (N := 12) (ci := 0) hC d hO.k0 rfl rfl gin_X5 7 (by decide) (hC.ts _ wf_X5_36) (fun _ h => h) rfl k
theorem wf_X5_39 : Cond.fieldLink "Branchyard" 39 "Branchyard" "batch" "[I" ∈ lw_good := gd_at 231 (by decide +kernel) (by decide +kernel)
theorem gf_X5_39 (hC : Cx X G "Branchyard" cc nL n mc ms) (d : decode cc pc = .ok (.getfield 39, 3)) (hO : OKC ok) (k : V X G kc ks ok ad σ l (pc + 3) (.ref (ad 14 0 0) :: st)) : V X G kc ks ok ad σ l pc (.ref (ad 0 0 0) :: st) := v_get (C := RX5) (T := TX5) (N := 12) (ci := 0) hC d hO.k0 rfl rfl gin_X5 8 (by decide) (hC.ts _ wf_X5_39) (fun _ h => h) rfl k
theorem wf_X5_42 : Cond.fieldLink "Branchyard" 42 "Branchyard" "trunk" "[I" ∈ lw_good := gd_at 232 (by decide +kernel) (by decide +kernel)
theorem gf_X5_42 (hC : Cx X G "Branchyard" cc nL n mc ms) (d : decode cc pc = .ok (.getfield 42, 3)) (hO : OKC ok) (k : V X G kc ks ok ad σ l (pc + 3) (.ref (ad 15 0 0) :: st)) : V X G kc ks ok ad σ l pc (.ref (ad 0 0 0) :: st) := v_get (C := RX5) (T := TX5) (N := 12) (ci := 0) hC d hO.k0 rfl rfl gin_X5 9 (by decide) (hC.ts _ wf_X5_42) (fun _ h => h) rfl k
theorem wf_X5_45 : Cond.fieldLink "Branchyard" 45 "Branchyard" "candidate" "[I" ∈ lw_good := gd_at 233 (by decide +kernel) (by decide +kernel)
theorem gf_X5_45 (hC : Cx X G "Branchyard" cc nL n mc ms) (d : decode cc pc = .ok (.getfield 45, 3)) (hO : OKC ok) (k : V X G kc ks ok ad σ l (pc + 3) (.ref (ad 15 1 0) :: st)) : V X G kc ks ok ad σ l pc (.ref (ad 0 0 0) :: st) := v_get (C := RX5) (T := TX5) (N := 12) (ci := 0) hC d hO.k0 rfl rfl gin_X5 10 (by decide) (hC.ts _ wf_X5_45) (fun _ h => h) rfl k
theorem wf_X5_51 : Cond.fieldLink "Branchyard" 51 "Branchyard" "works" "LBranchyard$Works;" ∈ lw_good := gd_at 234 (by decide +kernel) (by decide +kernel)
theorem gf_X5_51 (hC : Cx X G "Branchyard" cc nL n mc ms) (d : decode cc pc = .ok (.getfield 51, 3)) (hO : OKC ok) (k : V X G kc ks ok ad σ l (pc + 3) (.ref (ad 16 0 0) :: st)) : V X G kc ks ok ad σ l pc (.ref (ad 0 0 0) :: st) := v_get (C := RX5) (T := TX5) (N := 12) (ci := 0) hC d hO.k0 rfl rfl gin_X5 11 (by decide) (hC.ts _ wf_X5_51) (fun _ h => h) rfl k
theorem wf_X5_70 : Cond.fieldLink "Branchyard" 70 "Branchyard" "changeCount" "I" ∈ lw_good := gd_at 228 (by decide +kernel) (by decide +kernel)
theorem gf_X5_70 (hC : Cx X G "Branchyard" cc nL n mc ms) (d : decode cc pc = .ok (.getfield 70, 3)) (hO : OKC ok) (k : V X G kc ks ok ad σ l (pc + 3) (iv (σ 0 0 0 0) :: st)) : V X G kc ks ok ad σ l pc (.ref (ad 0 0 0) :: st) := v_get (C := RX5) (T := TX5) (N := 12) (ci := 0) hC d hO.k0 rfl rfl gin_X5 5 (by decide) (hC.ts _ wf_X5_70) (fun _ h => h) rfl k
theorem pf_X5_70 (hC : Cx X G "Branchyard" cc nL n mc ms) (d : decode cc pc = .ok (.putfield 70, 3)) (hO : OKC ok)  (k : V X G kc ks ok ad (up σ 0 0 0 0 v) l (pc + 3) st) : V X G kc ks ok ad σ l pc (iv v :: .ref (ad 0 0 0) :: st) := v_put (C := RX5) (T := TX5) (N := 12) (ci := 0) (ty := .int) hC d hO.k0 rfl rfl gin_X5 tyX5 tyX5_ok nmX5 5 (by decide) (hC.ts _ wf_X5_70) (fun _ h => h) rfl (by decide +kernel) rfl rfl (Nat.le_of_ble_eq_true rfl) up_ne (by rw [up_row]; rfl) k
theorem wf_X5_79 : Cond.fieldLinkNest "Branchyard" 79 "Branchyard$Change" "author" "I" "Branchyard" ∈ lw_ng := ng_at 190 (by decide +kernel) (by decide +kernel)
theorem gf_X5_79 (hC : Cx X G "Branchyard" cc nL n mc ms) (d : decode cc pc = .ok (.getfield 79, 3)) (hO : OKC ok) (hi : i < 16) (k : V X G kc ks ok ad σ l (pc + 3) (iv (σ 6 i 0 0) :: st)) : V X G kc ks ok ad σ l pc (.ref (ad 6 i 0) :: st) := v_getN (C := RX1) (T := TX1) (N := 9) (ci := 1) hC d (hO.k6 hi) rfl rfl gin_X1 0 (by decide) (hC.ng wf_X5_79) (fun _ h => h) rfl k
theorem pf_X5_79 (hC : Cx X G "Branchyard" cc nL n mc ms) (d : decode cc pc = .ok (.putfield 79, 3)) (hO : OKC ok) (hi : i < 16)  (k : V X G kc ks ok ad (up σ 6 i 0 0 v) l (pc + 3) st) : V X G kc ks ok ad σ l pc (iv v :: .ref (ad 6 i 0) :: st) := v_putN (C := RX1) (T := TX1) (N := 9) (ci := 1) (ty := .int) hC d (hO.k6 hi) rfl rfl gin_X1 tyX1 tyX1_ok nmX1 0 (by decide) (hC.ng wf_X5_79) (fun _ h => h) rfl (by decide +kernel) rfl rfl (Nat.le_of_ble_eq_true rfl) up_ne (by rw [up_row]; rfl) k
theorem wf_X5_113 : Cond.fieldLinkNest "Branchyard" 113 "Branchyard$Change" "state" "C" "Branchyard" ∈ lw_ng := ng_at 192 (by decide +kernel) (by decide +kernel)
theorem gf_X5_113 (hC : Cx X G "Branchyard" cc nL n mc ms) (d : decode cc pc = .ok (.getfield 113, 3)) (hO : OKC ok) (hi : i < 16) (k : V X G kc ks ok ad σ l (pc + 3) (iv (σ 6 i 0 1) :: st)) : V X G kc ks ok ad σ l pc (.ref (ad 6 i 0) :: st) := v_getN (C := RX1) (T := TX1) (N := 9) (ci := 1) hC d (hO.k6 hi) rfl rfl gin_X1 1 (by decide) (hC.ng wf_X5_113) (fun _ h => h) rfl k
theorem pf_X5_113 (hC : Cx X G "Branchyard" cc nL n mc ms) (d : decode cc pc = .ok (.putfield 113, 3)) (hO : OKC ok) (hi : i < 16) (hv : v < 65536) (k : V X G kc ks ok ad (up σ 6 i 0 1 v) l (pc + 3) st) : V X G kc ks ok ad σ l pc (iv v :: .ref (ad 6 i 0) :: st) := v_putN (C := RX1) (T := TX1) (N := 9) (ci := 1) (ty := .char) hC d (hO.k6 hi) rfl rfl gin_X1 tyX1 tyX1_ok nmX1 1 (by decide) (hC.ng wf_X5_113) (fun _ h => h) rfl (by decide +kernel) (pk_charN hv).1 (pk_charN hv).2 (Nat.le_of_ble_eq_true rfl) up_ne (by rw [up_row]; rfl) k
theorem wf_X5_142 : Cond.fieldLinkNest "Branchyard" 142 "Branchyard$Change" "edits" "J" "Branchyard" ∈ lw_ng := ng_at 195 (by decide +kernel) (by decide +kernel)
theorem gf_X5_142 (hC : Cx X G "Branchyard" cc nL n mc ms) (d : decode cc pc = .ok (.getfield 142, 3)) (hO : OKC ok) (hi : i < 16) (k : V X G kc ks ok ad σ l (pc + 3) (jv (σ 6 i 0 3) :: st)) : V X G kc ks ok ad σ l pc (.ref (ad 6 i 0) :: st) := v_getN (C := RX1) (T := TX1) (N := 9) (ci := 1) hC d (hO.k6 hi) rfl rfl gin_X1 3 (by decide) (hC.ng wf_X5_142) (fun _ h => h) rfl k
theorem wf_X5_146 : Cond.fieldLinkNest "Branchyard" 146 "Branchyard$Change" "clashing" "J" "Branchyard" ∈ lw_ng := ng_at 197 (by decide +kernel) (by decide +kernel)
theorem gf_X5_146 (hC : Cx X G "Branchyard" cc nL n mc ms) (d : decode cc pc = .ok (.getfield 146, 3)) (hO : OKC ok) (hi : i < 16) (k : V X G kc ks ok ad σ l (pc + 3) (jv (σ 6 i 0 4) :: st)) : V X G kc ks ok ad σ l pc (.ref (ad 6 i 0) :: st) := v_getN (C := RX1) (T := TX1) (N := 9) (ci := 1) hC d (hO.k6 hi) rfl rfl gin_X1 4 (by decide) (hC.ng wf_X5_146) (fun _ h => h) rfl k
theorem pf_X5_146 (hC : Cx X G "Branchyard" cc nL n mc ms) (d : decode cc pc = .ok (.putfield 146, 3)) (hO : OKC ok) (hi : i < 16)  (k : V X G kc ks ok ad (up σ 6 i 0 4 v) l (pc + 3) st) : V X G kc ks ok ad σ l pc (jv v :: .ref (ad 6 i 0) :: st) := v_putN (C := RX1) (T := TX1) (N := 9) (ci := 1) (ty := .long) hC d (hO.k6 hi) rfl rfl gin_X1 tyX1 tyX1_ok nmX1 4 (by decide) (hC.ng wf_X5_146) (fun _ h => h) rfl (by decide +kernel) rfl rfl (Nat.le_of_ble_eq_true rfl) up_ne (by rw [up_row]; rfl) k
theorem wf_X5_159 : Cond.fieldLinkNest "Branchyard" 159 "Branchyard$Order" "size" "I" "Branchyard" ∈ lw_ng := ng_at 116 (by decide +kernel) (by decide +kernel)
theorem gf_X5_159 (hC : Cx X G "Branchyard" cc nL n mc ms) (d : decode cc pc = .ok (.getfield 159, 3)) (hO : OKC ok) (hi : i < 2) (k : V X G kc ks ok ad σ l (pc + 3) (iv (σ 12 i 0 0) :: st)) : V X G kc ks ok ad σ l pc (.ref (ad 12 i 0) :: st) := v_getN (C := RX2) (T := TX2) (N := 2) (ci := 2) hC d (hO.k12 hi) rfl rfl gin_X2 1 (by decide) (hC.ng wf_X5_159) (fun _ h => h) rfl k
theorem wf_X5_184 : Cond.fieldLinkNest "Branchyard" 184 "Branchyard$Change" "failed" "Z" "Branchyard" ∈ lw_ng := ng_at 193 (by decide +kernel) (by decide +kernel)
theorem gf_X5_184 (hC : Cx X G "Branchyard" cc nL n mc ms) (d : decode cc pc = .ok (.getfield 184, 3)) (hO : OKC ok) (hi : i < 16) (k : V X G kc ks ok ad σ l (pc + 3) (iv (σ 6 i 0 2) :: st)) : V X G kc ks ok ad σ l pc (.ref (ad 6 i 0) :: st) := v_getN (C := RX1) (T := TX1) (N := 9) (ci := 1) hC d (hO.k6 hi) rfl rfl gin_X1 2 (by decide) (hC.ng wf_X5_184) (fun _ h => h) rfl k
theorem fit_z {v : Nat} (h : v < 2) : fits .boolean (.int (nI v)) = true := by
  rcases (show v = 0 ∨ v = 1 by omega) with rfl | rfl <;> rfl
theorem pf_X5_184 (hC : Cx X G "Branchyard" cc nL n mc ms) (d : decode cc pc = .ok (.putfield 184, 3)) (hO : OKC ok) (hi : i < 16) (hv : v < 2) (k : V X G kc ks ok ad (up σ 6 i 0 2 v) l (pc + 3) st) : V X G kc ks ok ad σ l pc (iv v :: .ref (ad 6 i 0) :: st) := v_putN (C := RX1) (T := TX1) (N := 9) (ci := 1) (ty := .boolean) hC d (hO.k6 hi) rfl rfl gin_X1 tyX1 tyX1_ok nmX1 2 (by decide) (hC.ng wf_X5_184) (fun _ h => h) rfl (by decide +kernel) (nar_z hv) (fit_z hv) (Nat.le_of_ble_eq_true rfl) up_ne (by rw [up_row]; rfl) k
theorem wf_X5_196 : Cond.fieldLinkNest "Branchyard" 196 "Branchyard$Works" "added" "I" "Branchyard" ∈ lw_ng := ng_at 160 (by decide +kernel) (by decide +kernel)
theorem gf_X5_196 (hC : Cx X G "Branchyard" cc nL n mc ms) (d : decode cc pc = .ok (.getfield 196, 3)) (hO : OKC ok) (k : V X G kc ks ok ad σ l (pc + 3) (iv (σ 16 0 0 0) :: st)) : V X G kc ks ok ad σ l pc (.ref (ad 16 0 0) :: st) := v_getN (C := RX4) (T := TX4) (N := 7) (ci := 4) hC d hO.k16 rfl rfl gin_X4 1 (by decide) (hC.ng wf_X5_196) (fun _ h => h) rfl k
theorem wf_X5_206 : Cond.fieldLinkNest "Branchyard" 206 "Branchyard$Works" "tests" "[LBranchyard$Test;" "Branchyard" ∈ lw_ng := ng_at 158 (by decide +kernel) (by decide +kernel)
theorem gf_X5_206 (hC : Cx X G "Branchyard" cc nL n mc ms) (d : decode cc pc = .ok (.getfield 206, 3)) (hO : OKC ok) (k : V X G kc ks ok ad σ l (pc + 3) (.ref (ad 17 0 0) :: st)) : V X G kc ks ok ad σ l pc (.ref (ad 16 0 0) :: st) := v_getN (C := RX4) (T := TX4) (N := 7) (ci := 4) hC d hO.k16 rfl rfl gin_X4 0 (by decide) (hC.ng wf_X5_206) (fun _ h => h) rfl k
theorem wf_X5_210 : Cond.fieldLinkNest "Branchyard" 210 "Branchyard$Test" "counts" "Z" "Branchyard" ∈ lw_ng := ng_at 147 (by decide +kernel) (by decide +kernel)
theorem gf_X5_210 (hC : Cx X G "Branchyard" cc nL n mc ms) (d : decode cc pc = .ok (.getfield 210, 3)) (hO : OKC ok) (hi : i < 12) (k : V X G kc ks ok ad σ l (pc + 3) (iv (σ 18 i 0 3) :: st)) : V X G kc ks ok ad σ l pc (.ref (ad 18 i 0) :: st) := v_getN (C := RX3) (T := TX3) (N := 4) (ci := 3) hC d (hO.k18 hi) rfl rfl gin_X3 3 (by decide) (hC.ng wf_X5_210) (fun _ h => h) rfl k
theorem wf_X5_223 : Cond.fieldLinkNest "Branchyard" 223 "Branchyard$Change" "values" "[I" "Branchyard" ∈ lw_ng := ng_at 199 (by decide +kernel) (by decide +kernel)
theorem gf_X5_223 (hC : Cx X G "Branchyard" cc nL n mc ms) (d : decode cc pc = .ok (.getfield 223, 3)) (hO : OKC ok) (hi : i < 16) (k : V X G kc ks ok ad σ l (pc + 3) (.ref (ad 7 i 0) :: st)) : V X G kc ks ok ad σ l pc (.ref (ad 6 i 0) :: st) := v_getN (C := RX1) (T := TX1) (N := 9) (ci := 1) hC d (hO.k6 hi) rfl rfl gin_X1 5 (by decide) (hC.ng wf_X5_223) (fun _ h => h) rfl k
theorem wf_X5_255 : Cond.fieldLinkNest "Branchyard" 255 "Branchyard$Works" "buildsRun" "I" "Branchyard" ∈ lw_ng := ng_at 165 (by decide +kernel) (by decide +kernel)
theorem gf_X5_255 (hC : Cx X G "Branchyard" cc nL n mc ms) (d : decode cc pc = .ok (.getfield 255, 3)) (hO : OKC ok) (k : V X G kc ks ok ad σ l (pc + 3) (iv (σ 16 0 0 2) :: st)) : V X G kc ks ok ad σ l pc (.ref (ad 16 0 0) :: st) := v_getN (C := RX4) (T := TX4) (N := 7) (ci := 4) hC d hO.k16 rfl rfl gin_X4 5 (by decide) (hC.ng wf_X5_255) (fun _ h => h) rfl k
theorem wf_X5_258 : Cond.fieldLinkNest "Branchyard" 258 "Branchyard$Works" "takenFromCells" "J" "Branchyard" ∈ lw_ng := ng_at 167 (by decide +kernel) (by decide +kernel)
theorem gf_X5_258 (hC : Cx X G "Branchyard" cc nL n mc ms) (d : decode cc pc = .ok (.getfield 258, 3)) (hO : OKC ok) (k : V X G kc ks ok ad σ l (pc + 3) (jv (σ 16 0 0 3) :: st)) : V X G kc ks ok ad σ l pc (.ref (ad 16 0 0) :: st) := v_getN (C := RX4) (T := TX4) (N := 7) (ci := 4) hC d hO.k16 rfl rfl gin_X4 6 (by decide) (hC.ng wf_X5_258) (fun _ h => h) rfl k
theorem wf_X0_7 : Cond.fieldLink "Branchyard$Cell" 7 "Branchyard$Cell" "inputs" "[I" ∈ lw_good := gd_at 713 (by decide +kernel) (by decide +kernel)
theorem gf_X0_7 (hC : Cx X G "Branchyard$Cell" cc nL n mc ms) (d : decode cc pc = .ok (.getfield 7, 3)) (hk : ok 21 i 0) (k : V X G kc ks ok ad σ l (pc + 3) (.ref (ad 22 i 0) :: st)) : V X G kc ks ok ad σ l pc (.ref (ad 21 i 0) :: st) := v_get (C := RX0) (T := TX0) (N := 3) (ci := 5) hC d hk rfl rfl gin_X0 0 (by decide) (hC.ts _ wf_X0_7) (fun _ h => h) rfl k
theorem wf_X0_13 : Cond.fieldLink "Branchyard$Cell" 13 "Branchyard$Cell" "good" "Z" ∈ lw_good := gd_at 714 (by decide +kernel) (by decide +kernel)
theorem wf_X0_17 : Cond.fieldLink "Branchyard$Cell" 17 "Branchyard$Cell" "next" "LBranchyard$Cell;" ∈ lw_good := gd_at 716 (by decide +kernel) (by decide +kernel)
theorem wf_X1_9 : Cond.fieldLink "Branchyard$Change" 9 "Branchyard$Change" "state" "C" ∈ lw_good := gd_at 191 (by decide +kernel) (by decide +kernel)
theorem pf_X1_9 (hC : Cx X G "Branchyard$Change" cc nL n mc ms) (d : decode cc pc = .ok (.putfield 9, 3)) (hO : OKC ok) (hi : i < 16) (hv : v < 65536) (k : V X G kc ks ok ad (up σ 6 i 0 1 v) l (pc + 3) st) : V X G kc ks ok ad σ l pc (iv v :: .ref (ad 6 i 0) :: st) := v_put (C := RX1) (T := TX1) (N := 9) (ci := 1) (ty := .char) hC d (hO.k6 hi) rfl rfl gin_X1 tyX1 tyX1_ok nmX1 1 (by decide) (hC.ts _ wf_X1_9) (fun _ h => h) rfl (by decide +kernel) (pk_charN hv).1 (pk_charN hv).2 (Nat.le_of_ble_eq_true rfl) up_ne (by rw [up_row]; rfl) k
theorem wf_X1_15 : Cond.fieldLink "Branchyard$Change" 15 "Branchyard$Change" "values" "[I" ∈ lw_good := gd_at 198 (by decide +kernel) (by decide +kernel)
theorem gf_X1_15 (hC : Cx X G "Branchyard$Change" cc nL n mc ms) (d : decode cc pc = .ok (.getfield 15, 3)) (hO : OKC ok) (hi : i < 16) (k : V X G kc ks ok ad σ l (pc + 3) (.ref (ad 7 i 0) :: st)) : V X G kc ks ok ad σ l pc (.ref (ad 6 i 0) :: st) := v_get (C := RX1) (T := TX1) (N := 9) (ci := 1) hC d (hO.k6 hi) rfl rfl gin_X1 5 (by decide) (hC.ts _ wf_X1_15) (fun _ h => h) rfl k
theorem wf_X1_19 : Cond.fieldLink "Branchyard$Change" 19 "Branchyard$Change" "votes" "[I" ∈ lw_good := gd_at 200 (by decide +kernel) (by decide +kernel)
theorem gf_X1_19 (hC : Cx X G "Branchyard$Change" cc nL n mc ms) (d : decode cc pc = .ok (.getfield 19, 3)) (hO : OKC ok) (hi : i < 16) (k : V X G kc ks ok ad σ l (pc + 3) (.ref (ad 8 i 0) :: st)) : V X G kc ks ok ad σ l pc (.ref (ad 6 i 0) :: st) := v_get (C := RX1) (T := TX1) (N := 9) (ci := 1) hC d (hO.k6 hi) rfl rfl gin_X1 6 (by decide) (hC.ts _ wf_X1_19) (fun _ h => h) rfl k
theorem wf_X1_22 : Cond.fieldLink "Branchyard$Change" 22 "Branchyard$Change" "coveredPlaces" "[J" ∈ lw_good := gd_at 201 (by decide +kernel) (by decide +kernel)
theorem gf_X1_22 (hC : Cx X G "Branchyard$Change" cc nL n mc ms) (d : decode cc pc = .ok (.getfield 22, 3)) (hO : OKC ok) (hi : i < 16) (k : V X G kc ks ok ad σ l (pc + 3) (.ref (ad 9 i 0) :: st)) : V X G kc ks ok ad σ l pc (.ref (ad 6 i 0) :: st) := v_get (C := RX1) (T := TX1) (N := 9) (ci := 1) hC d (hO.k6 hi) rfl rfl gin_X1 7 (by decide) (hC.ts _ wf_X1_22) (fun _ h => h) rfl k
theorem wf_X1_28 : Cond.fieldLink "Branchyard$Change" 28 "Branchyard$Change" "coveredValues" "[[I" ∈ lw_good := gd_at 202 (by decide +kernel) (by decide +kernel)
theorem gf_X1_28 (hC : Cx X G "Branchyard$Change" cc nL n mc ms) (d : decode cc pc = .ok (.getfield 28, 3)) (hO : OKC ok) (hi : i < 16) (k : V X G kc ks ok ad σ l (pc + 3) (.ref (ad 10 i 0) :: st)) : V X G kc ks ok ad σ l pc (.ref (ad 6 i 0) :: st) := v_get (C := RX1) (T := TX1) (N := 9) (ci := 1) hC d (hO.k6 hi) rfl rfl gin_X1 8 (by decide) (hC.ts _ wf_X1_28) (fun _ h => h) rfl k
theorem wf_X1_31 : Cond.fieldLink "Branchyard$Change" 31 "Branchyard$Change" "edits" "J" ∈ lw_good := gd_at 194 (by decide +kernel) (by decide +kernel)
theorem gf_X1_31 (hC : Cx X G "Branchyard$Change" cc nL n mc ms) (d : decode cc pc = .ok (.getfield 31, 3)) (hO : OKC ok) (hi : i < 16) (k : V X G kc ks ok ad σ l (pc + 3) (jv (σ 6 i 0 3) :: st)) : V X G kc ks ok ad σ l pc (.ref (ad 6 i 0) :: st) := v_get (C := RX1) (T := TX1) (N := 9) (ci := 1) hC d (hO.k6 hi) rfl rfl gin_X1 3 (by decide) (hC.ts _ wf_X1_31) (fun _ h => h) rfl k
theorem pf_X1_31 (hC : Cx X G "Branchyard$Change" cc nL n mc ms) (d : decode cc pc = .ok (.putfield 31, 3)) (hO : OKC ok) (hi : i < 16)  (k : V X G kc ks ok ad (up σ 6 i 0 3 v) l (pc + 3) st) : V X G kc ks ok ad σ l pc (jv v :: .ref (ad 6 i 0) :: st) := v_put (C := RX1) (T := TX1) (N := 9) (ci := 1) (ty := .long) hC d (hO.k6 hi) rfl rfl gin_X1 tyX1 tyX1_ok nmX1 3 (by decide) (hC.ts _ wf_X1_31) (fun _ h => h) rfl (by decide +kernel) rfl rfl (Nat.le_of_ble_eq_true rfl) up_ne (by rw [up_row]; rfl) k
theorem wf_X1_41 : Cond.fieldLink "Branchyard$Change" 41 "Branchyard$Change" "clashing" "J" ∈ lw_good := gd_at 196 (by decide +kernel) (by decide +kernel)
theorem gf_X1_41 (hC : Cx X G "Branchyard$Change" cc nL n mc ms) (d : decode cc pc = .ok (.getfield 41, 3)) (hO : OKC ok) (hi : i < 16) (k : V X G kc ks ok ad σ l (pc + 3) (jv (σ 6 i 0 4) :: st)) : V X G kc ks ok ad σ l pc (.ref (ad 6 i 0) :: st) := v_get (C := RX1) (T := TX1) (N := 9) (ci := 1) hC d (hO.k6 hi) rfl rfl gin_X1 4 (by decide) (hC.ts _ wf_X1_41) (fun _ h => h) rfl k
theorem pf_X1_41 (hC : Cx X G "Branchyard$Change" cc nL n mc ms) (d : decode cc pc = .ok (.putfield 41, 3)) (hO : OKC ok) (hi : i < 16)  (k : V X G kc ks ok ad (up σ 6 i 0 4 v) l (pc + 3) st) : V X G kc ks ok ad σ l pc (jv v :: .ref (ad 6 i 0) :: st) := v_put (C := RX1) (T := TX1) (N := 9) (ci := 1) (ty := .long) hC d (hO.k6 hi) rfl rfl gin_X1 tyX1 tyX1_ok nmX1 4 (by decide) (hC.ts _ wf_X1_41) (fun _ h => h) rfl (by decide +kernel) rfl rfl (Nat.le_of_ble_eq_true rfl) up_ne (by rw [up_row]; rfl) k
theorem wf_X2_9 : Cond.fieldLink "Branchyard$Order" 9 "Branchyard$Order" "numbers" "[I" ∈ lw_good := gd_at 114 (by decide +kernel) (by decide +kernel)
theorem gf_X2_9 (hC : Cx X G "Branchyard$Order" cc nL n mc ms) (d : decode cc pc = .ok (.getfield 9, 3)) (hO : OKC ok) (hi : i < 2) (k : V X G kc ks ok ad σ l (pc + 3) (.ref (ad 13 i 0) :: st)) : V X G kc ks ok ad σ l pc (.ref (ad 12 i 0) :: st) := v_get (C := RX2) (T := TX2) (N := 2) (ci := 2) hC d (hO.k12 hi) rfl rfl gin_X2 0 (by decide) (hC.ts _ wf_X2_9) (fun _ h => h) rfl k
theorem wf_X2_15 : Cond.fieldLink "Branchyard$Order" 15 "Branchyard$Order" "size" "I" ∈ lw_good := gd_at 115 (by decide +kernel) (by decide +kernel)
theorem gf_X2_15 (hC : Cx X G "Branchyard$Order" cc nL n mc ms) (d : decode cc pc = .ok (.getfield 15, 3)) (hO : OKC ok) (hi : i < 2) (k : V X G kc ks ok ad σ l (pc + 3) (iv (σ 12 i 0 0) :: st)) : V X G kc ks ok ad σ l pc (.ref (ad 12 i 0) :: st) := v_get (C := RX2) (T := TX2) (N := 2) (ci := 2) hC d (hO.k12 hi) rfl rfl gin_X2 1 (by decide) (hC.ts _ wf_X2_15) (fun _ h => h) rfl k
theorem pf_X2_15 (hC : Cx X G "Branchyard$Order" cc nL n mc ms) (d : decode cc pc = .ok (.putfield 15, 3)) (hO : OKC ok) (hi : i < 2)  (k : V X G kc ks ok ad (up σ 12 i 0 0 v) l (pc + 3) st) : V X G kc ks ok ad σ l pc (iv v :: .ref (ad 12 i 0) :: st) := v_put (C := RX2) (T := TX2) (N := 2) (ci := 2) (ty := .int) hC d (hO.k12 hi) rfl rfl gin_X2 tyX2 tyX2_ok nmX2 1 (by decide) (hC.ts _ wf_X2_15) (fun _ h => h) rfl (by decide +kernel) rfl rfl (Nat.le_of_ble_eq_true rfl) up_ne (by rw [up_row]; rfl) k
theorem wf_X3_9 : Cond.fieldLink "Branchyard$Test" 9 "Branchyard$Test" "counts" "Z" ∈ lw_good := gd_at 145 (by decide +kernel) (by decide +kernel)
theorem gf_X3_9 (hC : Cx X G "Branchyard$Test" cc nL n mc ms) (d : decode cc pc = .ok (.getfield 9, 3)) (hO : OKC ok) (hi : i < 12) (k : V X G kc ks ok ad σ l (pc + 3) (iv (σ 18 i 0 3) :: st)) : V X G kc ks ok ad σ l pc (.ref (ad 18 i 0) :: st) := v_get (C := RX3) (T := TX3) (N := 4) (ci := 3) hC d (hO.k18 hi) rfl rfl gin_X3 3 (by decide) (hC.ts _ wf_X3_9) (fun _ h => h) rfl k
theorem wf_X3_15 : Cond.fieldLink "Branchyard$Test" 15 "Branchyard$Test" "first" "I" ∈ lw_good := gd_at 139 (by decide +kernel) (by decide +kernel)
theorem gf_X3_15 (hC : Cx X G "Branchyard$Test" cc nL n mc ms) (d : decode cc pc = .ok (.getfield 15, 3)) (hO : OKC ok) (hi : i < 12) (k : V X G kc ks ok ad σ l (pc + 3) (iv (σ 18 i 0 0) :: st)) : V X G kc ks ok ad σ l pc (.ref (ad 18 i 0) :: st) := v_get (C := RX3) (T := TX3) (N := 4) (ci := 3) hC d (hO.k18 hi) rfl rfl gin_X3 0 (by decide) (hC.ts _ wf_X3_15) (fun _ h => h) rfl k
theorem wf_X3_19 : Cond.fieldLink "Branchyard$Test" 19 "Branchyard$Test" "second" "I" ∈ lw_good := gd_at 142 (by decide +kernel) (by decide +kernel)
theorem gf_X3_19 (hC : Cx X G "Branchyard$Test" cc nL n mc ms) (d : decode cc pc = .ok (.getfield 19, 3)) (hO : OKC ok) (hi : i < 12) (k : V X G kc ks ok ad σ l (pc + 3) (iv (σ 18 i 0 1) :: st)) : V X G kc ks ok ad σ l pc (.ref (ad 18 i 0) :: st) := v_get (C := RX3) (T := TX3) (N := 4) (ci := 3) hC d (hO.k18 hi) rfl rfl gin_X3 1 (by decide) (hC.ts _ wf_X3_19) (fun _ h => h) rfl k
theorem wf_X3_22 : Cond.fieldLink "Branchyard$Test" 22 "Branchyard$Test" "limit" "I" ∈ lw_good := gd_at 144 (by decide +kernel) (by decide +kernel)
theorem gf_X3_22 (hC : Cx X G "Branchyard$Test" cc nL n mc ms) (d : decode cc pc = .ok (.getfield 22, 3)) (hO : OKC ok) (hi : i < 12) (k : V X G kc ks ok ad σ l (pc + 3) (iv (σ 18 i 0 2) :: st)) : V X G kc ks ok ad σ l pc (.ref (ad 18 i 0) :: st) := v_get (C := RX3) (T := TX3) (N := 4) (ci := 3) hC d (hO.k18 hi) rfl rfl gin_X3 2 (by decide) (hC.ts _ wf_X3_22) (fun _ h => h) rfl k
theorem wf_X4_11 : Cond.fieldLink "Branchyard$Works" 11 "Branchyard$Works" "tests" "[LBranchyard$Test;" ∈ lw_good := gd_at 157 (by decide +kernel) (by decide +kernel)
theorem gf_X4_11 (hC : Cx X G "Branchyard$Works" cc nL n mc ms) (d : decode cc pc = .ok (.getfield 11, 3)) (hO : OKC ok) (k : V X G kc ks ok ad σ l (pc + 3) (.ref (ad 17 0 0) :: st)) : V X G kc ks ok ad σ l pc (.ref (ad 16 0 0) :: st) := v_get (C := RX4) (T := TX4) (N := 7) (ci := 4) hC d hO.k16 rfl rfl gin_X4 0 (by decide) (hC.ts _ wf_X4_11) (fun _ h => h) rfl k
theorem wf_X4_19 : Cond.fieldLink "Branchyard$Works" 19 "Branchyard$Works" "newest" "[LBranchyard$Cell;" ∈ lw_good := gd_at 161 (by decide +kernel) (by decide +kernel)
theorem gf_X4_19 (hC : Cx X G "Branchyard$Works" cc nL n mc ms) (d : decode cc pc = .ok (.getfield 19, 3)) (hO : OKC ok) (k : V X G kc ks ok ad σ l (pc + 3) (.ref (ad 19 0 0) :: st)) : V X G kc ks ok ad σ l pc (.ref (ad 16 0 0) :: st) := v_get (C := RX4) (T := TX4) (N := 7) (ci := 4) hC d hO.k16 rfl rfl gin_X4 2 (by decide) (hC.ts _ wf_X4_19) (fun _ h => h) rfl k
theorem wf_X4_23 : Cond.fieldLink "Branchyard$Works" 23 "Branchyard$Works" "inputs" "[I" ∈ lw_good := gd_at 163 (by decide +kernel) (by decide +kernel)
theorem gf_X4_23 (hC : Cx X G "Branchyard$Works" cc nL n mc ms) (d : decode cc pc = .ok (.getfield 23, 3)) (hO : OKC ok) (k : V X G kc ks ok ad σ l (pc + 3) (.ref (ad 20 0 0) :: st)) : V X G kc ks ok ad σ l pc (.ref (ad 16 0 0) :: st) := v_get (C := RX4) (T := TX4) (N := 7) (ci := 4) hC d hO.k16 rfl rfl gin_X4 4 (by decide) (hC.ts _ wf_X4_23) (fun _ h => h) rfl k
theorem wf_X4_28 : Cond.fieldLink "Branchyard$Works" 28 "Branchyard$Works" "added" "I" ∈ lw_good := gd_at 159 (by decide +kernel) (by decide +kernel)
theorem gf_X4_28 (hC : Cx X G "Branchyard$Works" cc nL n mc ms) (d : decode cc pc = .ok (.getfield 28, 3)) (hO : OKC ok) (k : V X G kc ks ok ad σ l (pc + 3) (iv (σ 16 0 0 0) :: st)) : V X G kc ks ok ad σ l pc (.ref (ad 16 0 0) :: st) := v_get (C := RX4) (T := TX4) (N := 7) (ci := 4) hC d hO.k16 rfl rfl gin_X4 1 (by decide) (hC.ts _ wf_X4_28) (fun _ h => h) rfl k
theorem pf_X4_28 (hC : Cx X G "Branchyard$Works" cc nL n mc ms) (d : decode cc pc = .ok (.putfield 28, 3)) (hO : OKC ok)  (k : V X G kc ks ok ad (up σ 16 0 0 0 v) l (pc + 3) st) : V X G kc ks ok ad σ l pc (iv v :: .ref (ad 16 0 0) :: st) := v_put (C := RX4) (T := TX4) (N := 7) (ci := 4) (ty := .int) hC d hO.k16 rfl rfl gin_X4 tyX4 tyX4_ok nmX4 1 (by decide) (hC.ts _ wf_X4_28) (fun _ h => h) rfl (by decide +kernel) rfl rfl (Nat.le_of_ble_eq_true rfl) up_ne (by rw [up_row]; rfl) k
theorem wf_X4_32 : Cond.fieldLinkNest "Branchyard$Works" 32 "Branchyard$Test" "first" "I" "Branchyard" ∈ lw_ng := ng_at 140 (by decide +kernel) (by decide +kernel)
theorem gf_X4_32 (hC : Cx X G "Branchyard$Works" cc nL n mc ms) (d : decode cc pc = .ok (.getfield 32, 3)) (hO : OKC ok) (hi : i < 12) (k : V X G kc ks ok ad σ l (pc + 3) (iv (σ 18 i 0 0) :: st)) : V X G kc ks ok ad σ l pc (.ref (ad 18 i 0) :: st) := v_getN (C := RX3) (T := TX3) (N := 4) (ci := 3) hC d (hO.k18 hi) rfl rfl gin_X3 0 (by decide) (hC.ng wf_X4_32) (fun _ h => h) rfl k
theorem pf_X4_32 (hC : Cx X G "Branchyard$Works" cc nL n mc ms) (d : decode cc pc = .ok (.putfield 32, 3)) (hO : OKC ok) (hi : i < 12)  (k : V X G kc ks ok ad (up σ 18 i 0 0 v) l (pc + 3) st) : V X G kc ks ok ad σ l pc (iv v :: .ref (ad 18 i 0) :: st) := v_putN (C := RX3) (T := TX3) (N := 4) (ci := 3) (ty := .int) hC d (hO.k18 hi) rfl rfl gin_X3 tyX3 tyX3_ok nmX3 0 (by decide) (hC.ng wf_X4_32) (fun _ h => h) rfl (by decide +kernel) rfl rfl (Nat.le_of_ble_eq_true rfl) up_ne (by rw [up_row]; rfl) k
theorem wf_X4_35 : Cond.fieldLinkNest "Branchyard$Works" 35 "Branchyard$Test" "second" "I" "Branchyard" ∈ lw_ng := ng_at 141 (by decide +kernel) (by decide +kernel)
theorem gf_X4_35 (hC : Cx X G "Branchyard$Works" cc nL n mc ms) (d : decode cc pc = .ok (.getfield 35, 3)) (hO : OKC ok) (hi : i < 12) (k : V X G kc ks ok ad σ l (pc + 3) (iv (σ 18 i 0 1) :: st)) : V X G kc ks ok ad σ l pc (.ref (ad 18 i 0) :: st) := v_getN (C := RX3) (T := TX3) (N := 4) (ci := 3) hC d (hO.k18 hi) rfl rfl gin_X3 1 (by decide) (hC.ng wf_X4_35) (fun _ h => h) rfl k
theorem pf_X4_35 (hC : Cx X G "Branchyard$Works" cc nL n mc ms) (d : decode cc pc = .ok (.putfield 35, 3)) (hO : OKC ok) (hi : i < 12)  (k : V X G kc ks ok ad (up σ 18 i 0 1 v) l (pc + 3) st) : V X G kc ks ok ad σ l pc (iv v :: .ref (ad 18 i 0) :: st) := v_putN (C := RX3) (T := TX3) (N := 4) (ci := 3) (ty := .int) hC d (hO.k18 hi) rfl rfl gin_X3 tyX3 tyX3_ok nmX3 1 (by decide) (hC.ng wf_X4_35) (fun _ h => h) rfl (by decide +kernel) rfl rfl (Nat.le_of_ble_eq_true rfl) up_ne (by rw [up_row]; rfl) k
theorem wf_X4_38 : Cond.fieldLinkNest "Branchyard$Works" 38 "Branchyard$Test" "limit" "I" "Branchyard" ∈ lw_ng := ng_at 143 (by decide +kernel) (by decide +kernel)
theorem pf_X4_38 (hC : Cx X G "Branchyard$Works" cc nL n mc ms) (d : decode cc pc = .ok (.putfield 38, 3)) (hO : OKC ok) (hi : i < 12)  (k : V X G kc ks ok ad (up σ 18 i 0 2 v) l (pc + 3) st) : V X G kc ks ok ad σ l pc (iv v :: .ref (ad 18 i 0) :: st) := v_putN (C := RX3) (T := TX3) (N := 4) (ci := 3) (ty := .int) hC d (hO.k18 hi) rfl rfl gin_X3 tyX3 tyX3_ok nmX3 2 (by decide) (hC.ng wf_X4_38) (fun _ h => h) rfl (by decide +kernel) rfl rfl (Nat.le_of_ble_eq_true rfl) up_ne (by rw [up_row]; rfl) k
theorem wf_X4_41 : Cond.fieldLinkNest "Branchyard$Works" 41 "Branchyard$Test" "counts" "Z" "Branchyard" ∈ lw_ng := ng_at 146 (by decide +kernel) (by decide +kernel)
theorem gf_X4_41 (hC : Cx X G "Branchyard$Works" cc nL n mc ms) (d : decode cc pc = .ok (.getfield 41, 3)) (hO : OKC ok) (hi : i < 12) (k : V X G kc ks ok ad σ l (pc + 3) (iv (σ 18 i 0 3) :: st)) : V X G kc ks ok ad σ l pc (.ref (ad 18 i 0) :: st) := v_getN (C := RX3) (T := TX3) (N := 4) (ci := 3) hC d (hO.k18 hi) rfl rfl gin_X3 3 (by decide) (hC.ng wf_X4_41) (fun _ h => h) rfl k
theorem pf_X4_41 (hC : Cx X G "Branchyard$Works" cc nL n mc ms) (d : decode cc pc = .ok (.putfield 41, 3)) (hO : OKC ok) (hi : i < 12) (hv : v < 2) (k : V X G kc ks ok ad (up σ 18 i 0 3 v) l (pc + 3) st) : V X G kc ks ok ad σ l pc (iv v :: .ref (ad 18 i 0) :: st) := v_putN (C := RX3) (T := TX3) (N := 4) (ci := 3) (ty := .boolean) hC d (hO.k18 hi) rfl rfl gin_X3 tyX3 tyX3_ok nmX3 3 (by decide) (hC.ng wf_X4_41) (fun _ h => h) rfl (by decide +kernel) (nar_z hv) (fit_z hv) (Nat.le_of_ble_eq_true rfl) up_ne (by rw [up_row]; rfl) k
theorem wf_X4_68 : Cond.fieldLink "Branchyard$Works" 68 "Branchyard$Works" "takenFromCells" "J" ∈ lw_good := gd_at 166 (by decide +kernel) (by decide +kernel)
theorem gf_X4_68 (hC : Cx X G "Branchyard$Works" cc nL n mc ms) (d : decode cc pc = .ok (.getfield 68, 3)) (hO : OKC ok) (k : V X G kc ks ok ad σ l (pc + 3) (jv (σ 16 0 0 3) :: st)) : V X G kc ks ok ad σ l pc (.ref (ad 16 0 0) :: st) := v_get (C := RX4) (T := TX4) (N := 7) (ci := 4) hC d hO.k16 rfl rfl gin_X4 6 (by decide) (hC.ts _ wf_X4_68) (fun _ h => h) rfl k
theorem pf_X4_68 (hC : Cx X G "Branchyard$Works" cc nL n mc ms) (d : decode cc pc = .ok (.putfield 68, 3)) (hO : OKC ok)  (k : V X G kc ks ok ad (up σ 16 0 0 3 v) l (pc + 3) st) : V X G kc ks ok ad σ l pc (jv v :: .ref (ad 16 0 0) :: st) := v_put (C := RX4) (T := TX4) (N := 7) (ci := 4) (ty := .long) hC d hO.k16 rfl rfl gin_X4 tyX4 tyX4_ok nmX4 6 (by decide) (hC.ts _ wf_X4_68) (fun _ h => h) rfl (by decide +kernel) rfl rfl (Nat.le_of_ble_eq_true rfl) up_ne (by rw [up_row]; rfl) k
theorem wf_X4_72 : Cond.fieldLinkNest "Branchyard$Works" 72 "Branchyard$Cell" "good" "Z" "Branchyard" ∈ lw_ng := ng_at 715 (by decide +kernel) (by decide +kernel)
theorem gf_X4_72 (hC : Cx X G "Branchyard$Works" cc nL n mc ms) (d : decode cc pc = .ok (.getfield 72, 3)) (hk : ok 21 i 0) (k : V X G kc ks ok ad σ l (pc + 3) (iv (σ 21 i 0 0) :: st)) : V X G kc ks ok ad σ l pc (.ref (ad 21 i 0) :: st) := v_getN (C := RX0) (T := TX0) (N := 3) (ci := 5) hC d hk rfl rfl gin_X0 1 (by decide) (hC.ng wf_X4_72) (fun _ h => h) rfl k
theorem wf_X4_75 : Cond.fieldLinkNest "Branchyard$Works" 75 "Branchyard$Cell" "next" "LBranchyard$Cell;" "Branchyard" ∈ lw_ng := ng_at 717 (by decide +kernel) (by decide +kernel)
theorem gf_X4_75 (hC : Cx X G "Branchyard$Works" cc nL n mc ms) (d : decode cc pc = .ok (.getfield 75, 3)) (hk : ok 21 i 0) (k : V X G kc ks ok ad σ l (pc + 3) (va_rf (rf (σ 21 i 0 1)) :: st)) : V X G kc ks ok ad σ l pc (.ref (ad 21 i 0) :: st) := v_getN (C := RX0) (T := TX0) (N := 3) (ci := 5) hC d hk rfl rfl gin_X0 2 (by decide) (hC.ng wf_X4_75) (fun _ h => h) rfl k
theorem wf_X4_79 : Cond.fieldLink "Branchyard$Works" 79 "Branchyard$Works" "buildsRun" "I" ∈ lw_good := gd_at 164 (by decide +kernel) (by decide +kernel)
theorem gf_X4_79 (hC : Cx X G "Branchyard$Works" cc nL n mc ms) (d : decode cc pc = .ok (.getfield 79, 3)) (hO : OKC ok) (k : V X G kc ks ok ad σ l (pc + 3) (iv (σ 16 0 0 2) :: st)) : V X G kc ks ok ad σ l pc (.ref (ad 16 0 0) :: st) := v_get (C := RX4) (T := TX4) (N := 7) (ci := 4) hC d hO.k16 rfl rfl gin_X4 5 (by decide) (hC.ts _ wf_X4_79) (fun _ h => h) rfl k
theorem pf_X4_79 (hC : Cx X G "Branchyard$Works" cc nL n mc ms) (d : decode cc pc = .ok (.putfield 79, 3)) (hO : OKC ok)  (k : V X G kc ks ok ad (up σ 16 0 0 2 v) l (pc + 3) st) : V X G kc ks ok ad σ l pc (iv v :: .ref (ad 16 0 0) :: st) := v_put (C := RX4) (T := TX4) (N := 7) (ci := 4) (ty := .int) hC d hO.k16 rfl rfl gin_X4 tyX4 tyX4_ok nmX4 5 (by decide) (hC.ts _ wf_X4_79) (fun _ h => h) rfl (by decide +kernel) rfl rfl (Nat.le_of_ble_eq_true rfl) up_ne (by rw [up_row]; rfl) k
theorem wf_X4_86 : Cond.fieldLink "Branchyard$Works" 86 "Branchyard$Works" "cellsMade" "I" ∈ lw_good := gd_at 162 (by decide +kernel) (by decide +kernel)
theorem gf_X4_86 (hC : Cx X G "Branchyard$Works" cc nL n mc ms) (d : decode cc pc = .ok (.getfield 86, 3)) (hO : OKC ok) (k : V X G kc ks ok ad σ l (pc + 3) (iv (σ 16 0 0 1) :: st)) : V X G kc ks ok ad σ l pc (.ref (ad 16 0 0) :: st) := v_get (C := RX4) (T := TX4) (N := 7) (ci := 4) hC d hO.k16 rfl rfl gin_X4 3 (by decide) (hC.ts _ wf_X4_86) (fun _ h => h) rfl k
theorem pf_X4_86 (hC : Cx X G "Branchyard$Works" cc nL n mc ms) (d : decode cc pc = .ok (.putfield 86, 3)) (hO : OKC ok)  (k : V X G kc ks ok ad (up σ 16 0 0 1 v) l (pc + 3) st) : V X G kc ks ok ad σ l pc (iv v :: .ref (ad 16 0 0) :: st) := v_put (C := RX4) (T := TX4) (N := 7) (ci := 4) (ty := .int) hC d hO.k16 rfl rfl gin_X4 tyX4 tyX4_ok nmX4 3 (by decide) (hC.ts _ wf_X4_86) (fun _ h => h) rfl (by decide +kernel) rfl rfl (Nat.le_of_ble_eq_true rfl) up_ne (by rw [up_row]; rfl) k
theorem wf_X6_1 : Cond.fieldLink "BranchyardModel" 1 "BranchyardModel" "thrown" "I" ∈ lw_good := gd_at 964 (by decide +kernel) (by decide +kernel)
theorem gf_X6_1 (hC : Cx X G "BranchyardModel" cc nL n mc ms) (d : decode cc pc = .ok (.getfield 1, 3)) (hO : OKM ok) (k : V X G kc ks ok ad σ l (pc + 3) (iv (σ 30 0 0 0) :: st)) : V X G kc ks ok ad σ l pc (.ref (ad 30 0 0) :: st) := v_get (C := RX6) (T := TX6) (N := 26) (ci := 6) hC d hO.k30 rfl rfl gin_X6 0 (by decide) (hC.ts _ wf_X6_1) (fun _ h => h) rfl k
theorem pf_X6_1 (hC : Cx X G "BranchyardModel" cc nL n mc ms) (d : decode cc pc = .ok (.putfield 1, 3)) (hO : OKM ok)  (k : V X G kc ks ok ad (up σ 30 0 0 0 v) l (pc + 3) st) : V X G kc ks ok ad σ l pc (iv v :: .ref (ad 30 0 0) :: st) := v_put (C := RX6) (T := TX6) (N := 26) (ci := 6) (ty := .int) hC d hO.k30 rfl rfl gin_X6 tyX6 tyX6_ok nmX6 0 (by decide) (hC.ts _ wf_X6_1) (fun _ h => h) rfl (by decide +kernel) rfl rfl (Nat.le_of_ble_eq_true rfl) up_ne (by rw [up_row]; rfl) k
theorem wf_X6_17 : Cond.fieldLink "BranchyardModel" 17 "BranchyardModel" "trunk" "[I" ∈ lw_good := gd_at 965 (by decide +kernel) (by decide +kernel)
theorem gf_X6_17 (hC : Cx X G "BranchyardModel" cc nL n mc ms) (d : decode cc pc = .ok (.getfield 17, 3)) (hO : OKM ok) (k : V X G kc ks ok ad σ l (pc + 3) (.ref (ad 31 0 0) :: st)) : V X G kc ks ok ad σ l pc (.ref (ad 30 0 0) :: st) := v_get (C := RX6) (T := TX6) (N := 26) (ci := 6) hC d hO.k30 rfl rfl gin_X6 1 (by decide) (hC.ts _ wf_X6_17) (fun _ h => h) rfl k
theorem wf_X6_21 : Cond.fieldLink "BranchyardModel" 21 "BranchyardModel" "firsts" "[I" ∈ lw_good := gd_at 966 (by decide +kernel) (by decide +kernel)
theorem gf_X6_21 (hC : Cx X G "BranchyardModel" cc nL n mc ms) (d : decode cc pc = .ok (.getfield 21, 3)) (hO : OKM ok) (k : V X G kc ks ok ad σ l (pc + 3) (.ref (ad 32 0 0) :: st)) : V X G kc ks ok ad σ l pc (.ref (ad 30 0 0) :: st) := v_get (C := RX6) (T := TX6) (N := 26) (ci := 6) hC d hO.k30 rfl rfl gin_X6 2 (by decide) (hC.ts _ wf_X6_21) (fun _ h => h) rfl k
theorem wf_X6_24 : Cond.fieldLink "BranchyardModel" 24 "BranchyardModel" "seconds" "[I" ∈ lw_good := gd_at 967 (by decide +kernel) (by decide +kernel)
theorem gf_X6_24 (hC : Cx X G "BranchyardModel" cc nL n mc ms) (d : decode cc pc = .ok (.getfield 24, 3)) (hO : OKM ok) (k : V X G kc ks ok ad σ l (pc + 3) (.ref (ad 33 0 0) :: st)) : V X G kc ks ok ad σ l pc (.ref (ad 30 0 0) :: st) := v_get (C := RX6) (T := TX6) (N := 26) (ci := 6) hC d hO.k30 rfl rfl gin_X6 3 (by decide) (hC.ts _ wf_X6_24) (fun _ h => h) rfl k
theorem wf_X6_27 : Cond.fieldLink "BranchyardModel" 27 "BranchyardModel" "limits" "[I" ∈ lw_good := gd_at 968 (by decide +kernel) (by decide +kernel)
theorem gf_X6_27 (hC : Cx X G "BranchyardModel" cc nL n mc ms) (d : decode cc pc = .ok (.getfield 27, 3)) (hO : OKM ok) (k : V X G kc ks ok ad σ l (pc + 3) (.ref (ad 34 0 0) :: st)) : V X G kc ks ok ad σ l pc (.ref (ad 30 0 0) :: st) := v_get (C := RX6) (T := TX6) (N := 26) (ci := 6) hC d hO.k30 rfl rfl gin_X6 4 (by decide) (hC.ts _ wf_X6_27) (fun _ h => h) rfl k
theorem wf_X6_30 : Cond.fieldLink "BranchyardModel" 30 "BranchyardModel" "isDropped" "[Z" ∈ lw_good := gd_at 969 (by decide +kernel) (by decide +kernel)
theorem gf_X6_30 (hC : Cx X G "BranchyardModel" cc nL n mc ms) (d : decode cc pc = .ok (.getfield 30, 3)) (hO : OKM ok) (k : V X G kc ks ok ad σ l (pc + 3) (.ref (ad 35 0 0) :: st)) : V X G kc ks ok ad σ l pc (.ref (ad 30 0 0) :: st) := v_get (C := RX6) (T := TX6) (N := 26) (ci := 6) hC d hO.k30 rfl rfl gin_X6 5 (by decide) (hC.ts _ wf_X6_30) (fun _ h => h) rfl k
theorem wf_X6_34 : Cond.fieldLink "BranchyardModel" 34 "BranchyardModel" "owners" "[I" ∈ lw_good := gd_at 971 (by decide +kernel) (by decide +kernel)
theorem gf_X6_34 (hC : Cx X G "BranchyardModel" cc nL n mc ms) (d : decode cc pc = .ok (.getfield 34, 3)) (hO : OKM ok) (k : V X G kc ks ok ad σ l (pc + 3) (.ref (ad 36 0 0) :: st)) : V X G kc ks ok ad σ l pc (.ref (ad 30 0 0) :: st) := v_get (C := RX6) (T := TX6) (N := 26) (ci := 6) hC d hO.k30 rfl rfl gin_X6 7 (by decide) (hC.ts _ wf_X6_34) (fun _ h => h) rfl k
theorem wf_X6_37 : Cond.fieldLink "BranchyardModel" 37 "BranchyardModel" "standIns" "[I" ∈ lw_good := gd_at 972 (by decide +kernel) (by decide +kernel)
theorem gf_X6_37 (hC : Cx X G "BranchyardModel" cc nL n mc ms) (d : decode cc pc = .ok (.getfield 37, 3)) (hO : OKM ok) (k : V X G kc ks ok ad σ l (pc + 3) (.ref (ad 37 0 0) :: st)) : V X G kc ks ok ad σ l pc (.ref (ad 30 0 0) :: st) := v_get (C := RX6) (T := TX6) (N := 26) (ci := 6) hC d hO.k30 rfl rfl gin_X6 8 (by decide) (hC.ts _ wf_X6_37) (fun _ h => h) rfl k
theorem wf_X6_40 : Cond.fieldLink "BranchyardModel" 40 "BranchyardModel" "isFrozen" "[Z" ∈ lw_good := gd_at 973 (by decide +kernel) (by decide +kernel)
theorem gf_X6_40 (hC : Cx X G "BranchyardModel" cc nL n mc ms) (d : decode cc pc = .ok (.getfield 40, 3)) (hO : OKM ok) (k : V X G kc ks ok ad σ l (pc + 3) (.ref (ad 38 0 0) :: st)) : V X G kc ks ok ad σ l pc (.ref (ad 30 0 0) :: st) := v_get (C := RX6) (T := TX6) (N := 26) (ci := 6) hC d hO.k30 rfl rfl gin_X6 9 (by decide) (hC.ts _ wf_X6_40) (fun _ h => h) rfl k
theorem wf_X6_43 : Cond.fieldLink "BranchyardModel" 43 "BranchyardModel" "isAway" "[Z" ∈ lw_good := gd_at 974 (by decide +kernel) (by decide +kernel)
theorem gf_X6_43 (hC : Cx X G "BranchyardModel" cc nL n mc ms) (d : decode cc pc = .ok (.getfield 43, 3)) (hO : OKM ok) (k : V X G kc ks ok ad σ l (pc + 3) (.ref (ad 39 0 0) :: st)) : V X G kc ks ok ad σ l pc (.ref (ad 30 0 0) :: st) := v_get (C := RX6) (T := TX6) (N := 26) (ci := 6) hC d hO.k30 rfl rfl gin_X6 10 (by decide) (hC.ts _ wf_X6_43) (fun _ h => h) rfl k
theorem wf_X6_48 : Cond.fieldLink "BranchyardModel" 48 "BranchyardModel" "edits" "[[I" ∈ lw_good := gd_at 975 (by decide +kernel) (by decide +kernel)
theorem gf_X6_48 (hC : Cx X G "BranchyardModel" cc nL n mc ms) (d : decode cc pc = .ok (.getfield 48, 3)) (hO : OKM ok) (k : V X G kc ks ok ad σ l (pc + 3) (.ref (ad 40 0 0) :: st)) : V X G kc ks ok ad σ l pc (.ref (ad 30 0 0) :: st) := v_get (C := RX6) (T := TX6) (N := 26) (ci := 6) hC d hO.k30 rfl rfl gin_X6 11 (by decide) (hC.ts _ wf_X6_48) (fun _ h => h) rfl k
theorem wf_X6_53 : Cond.fieldLink "BranchyardModel" 53 "BranchyardModel" "isClash" "[[Z" ∈ lw_good := gd_at 976 (by decide +kernel) (by decide +kernel)
theorem gf_X6_53 (hC : Cx X G "BranchyardModel" cc nL n mc ms) (d : decode cc pc = .ok (.getfield 53, 3)) (hO : OKM ok) (k : V X G kc ks ok ad σ l (pc + 3) (.ref (ad 42 0 0) :: st)) : V X G kc ks ok ad σ l pc (.ref (ad 30 0 0) :: st) := v_get (C := RX6) (T := TX6) (N := 26) (ci := 6) hC d hO.k30 rfl rfl gin_X6 12 (by decide) (hC.ts _ wf_X6_53) (fun _ h => h) rfl k
theorem wf_X6_58 : Cond.fieldLink "BranchyardModel" 58 "BranchyardModel" "votes" "[[C" ∈ lw_good := gd_at 977 (by decide +kernel) (by decide +kernel)
theorem gf_X6_58 (hC : Cx X G "BranchyardModel" cc nL n mc ms) (d : decode cc pc = .ok (.getfield 58, 3)) (hO : OKM ok) (k : V X G kc ks ok ad σ l (pc + 3) (.ref (ad 44 0 0) :: st)) : V X G kc ks ok ad σ l pc (.ref (ad 30 0 0) :: st) := v_get (C := RX6) (T := TX6) (N := 26) (ci := 6) hC d hO.k30 rfl rfl gin_X6 13 (by decide) (hC.ts _ wf_X6_58) (fun _ h => h) rfl k
theorem wf_X6_63 : Cond.fieldLink "BranchyardModel" 63 "BranchyardModel" "covers" "[[[I" ∈ lw_good := gd_at 978 (by decide +kernel) (by decide +kernel)
theorem gf_X6_63 (hC : Cx X G "BranchyardModel" cc nL n mc ms) (d : decode cc pc = .ok (.getfield 63, 3)) (hO : OKM ok) (k : V X G kc ks ok ad σ l (pc + 3) (.ref (ad 46 0 0) :: st)) : V X G kc ks ok ad σ l pc (.ref (ad 30 0 0) :: st) := v_get (C := RX6) (T := TX6) (N := 26) (ci := 6) hC d hO.k30 rfl rfl gin_X6 14 (by decide) (hC.ts _ wf_X6_63) (fun _ h => h) rfl k
theorem wf_X6_66 : Cond.fieldLink "BranchyardModel" 66 "BranchyardModel" "authors" "[I" ∈ lw_good := gd_at 979 (by decide +kernel) (by decide +kernel)
theorem gf_X6_66 (hC : Cx X G "BranchyardModel" cc nL n mc ms) (d : decode cc pc = .ok (.getfield 66, 3)) (hO : OKM ok) (k : V X G kc ks ok ad σ l (pc + 3) (.ref (ad 49 0 0) :: st)) : V X G kc ks ok ad σ l pc (.ref (ad 30 0 0) :: st) := v_get (C := RX6) (T := TX6) (N := 26) (ci := 6) hC d hO.k30 rfl rfl gin_X6 15 (by decide) (hC.ts _ wf_X6_66) (fun _ h => h) rfl k
theorem wf_X6_69 : Cond.fieldLink "BranchyardModel" 69 "BranchyardModel" "queue" "[I" ∈ lw_good := gd_at 980 (by decide +kernel) (by decide +kernel)
theorem gf_X6_69 (hC : Cx X G "BranchyardModel" cc nL n mc ms) (d : decode cc pc = .ok (.getfield 69, 3)) (hO : OKM ok) (k : V X G kc ks ok ad σ l (pc + 3) (.ref (ad 50 0 0) :: st)) : V X G kc ks ok ad σ l pc (.ref (ad 30 0 0) :: st) := v_get (C := RX6) (T := TX6) (N := 26) (ci := 6) hC d hO.k30 rfl rfl gin_X6 16 (by decide) (hC.ts _ wf_X6_69) (fun _ h => h) rfl k
theorem wf_X6_72 : Cond.fieldLink "BranchyardModel" 72 "BranchyardModel" "merged" "[I" ∈ lw_good := gd_at 981 (by decide +kernel) (by decide +kernel)
theorem gf_X6_72 (hC : Cx X G "BranchyardModel" cc nL n mc ms) (d : decode cc pc = .ok (.getfield 72, 3)) (hO : OKM ok) (k : V X G kc ks ok ad σ l (pc + 3) (.ref (ad 51 0 0) :: st)) : V X G kc ks ok ad σ l pc (.ref (ad 30 0 0) :: st) := v_get (C := RX6) (T := TX6) (N := 26) (ci := 6) hC d hO.k30 rfl rfl gin_X6 17 (by decide) (hC.ts _ wf_X6_72) (fun _ h => h) rfl k
theorem wf_X6_75 : Cond.fieldLink "BranchyardModel" 75 "BranchyardModel" "states" "[C" ∈ lw_good := gd_at 982 (by decide +kernel) (by decide +kernel)
theorem gf_X6_75 (hC : Cx X G "BranchyardModel" cc nL n mc ms) (d : decode cc pc = .ok (.getfield 75, 3)) (hO : OKM ok) (k : V X G kc ks ok ad σ l (pc + 3) (.ref (ad 52 0 0) :: st)) : V X G kc ks ok ad σ l pc (.ref (ad 30 0 0) :: st) := v_get (C := RX6) (T := TX6) (N := 26) (ci := 6) hC d hO.k30 rfl rfl gin_X6 18 (by decide) (hC.ts _ wf_X6_75) (fun _ h => h) rfl k
theorem wf_X6_79 : Cond.fieldLink "BranchyardModel" 79 "BranchyardModel" "hasFailed" "[Z" ∈ lw_good := gd_at 983 (by decide +kernel) (by decide +kernel)
theorem gf_X6_79 (hC : Cx X G "BranchyardModel" cc nL n mc ms) (d : decode cc pc = .ok (.getfield 79, 3)) (hO : OKM ok) (k : V X G kc ks ok ad σ l (pc + 3) (.ref (ad 53 0 0) :: st)) : V X G kc ks ok ad σ l pc (.ref (ad 30 0 0) :: st) := v_get (C := RX6) (T := TX6) (N := 26) (ci := 6) hC d hO.k30 rfl rfl gin_X6 19 (by decide) (hC.ts _ wf_X6_79) (fun _ h => h) rfl k
theorem wf_X6_85 : Cond.fieldLink "BranchyardModel" 85 "BranchyardModel" "cells" "Ljava/util/ArrayList;" ∈ lw_good := gd_at 989 (by decide +kernel) (by decide +kernel)
theorem gf_X6_85 (hC : Cx X G "BranchyardModel" cc nL n mc ms) (d : decode cc pc = .ok (.getfield 85, 3)) (hO : OKM ok) (k : V X G kc ks ok ad σ l (pc + 3) (.ref (ad 54 0 0) :: st)) : V X G kc ks ok ad σ l pc (.ref (ad 30 0 0) :: st) := v_get (C := RX6) (T := TX6) (N := 26) (ci := 6) hC d hO.k30 rfl rfl gin_X6 25 (by decide) (hC.ts _ wf_X6_85) (fun _ h => h) rfl k
theorem wf_X6_89 : Cond.fieldLink "BranchyardModel" 89 "BranchyardModel" "changes" "I" ∈ lw_good := gd_at 984 (by decide +kernel) (by decide +kernel)
theorem gf_X6_89 (hC : Cx X G "BranchyardModel" cc nL n mc ms) (d : decode cc pc = .ok (.getfield 89, 3)) (hO : OKM ok) (k : V X G kc ks ok ad σ l (pc + 3) (iv (σ 30 0 0 2) :: st)) : V X G kc ks ok ad σ l pc (.ref (ad 30 0 0) :: st) := v_get (C := RX6) (T := TX6) (N := 26) (ci := 6) hC d hO.k30 rfl rfl gin_X6 20 (by decide) (hC.ts _ wf_X6_89) (fun _ h => h) rfl k
theorem pf_X6_89 (hC : Cx X G "BranchyardModel" cc nL n mc ms) (d : decode cc pc = .ok (.putfield 89, 3)) (hO : OKM ok)  (k : V X G kc ks ok ad (up σ 30 0 0 2 v) l (pc + 3) st) : V X G kc ks ok ad σ l pc (iv v :: .ref (ad 30 0 0) :: st) := v_put (C := RX6) (T := TX6) (N := 26) (ci := 6) (ty := .int) hC d hO.k30 rfl rfl gin_X6 tyX6 tyX6_ok nmX6 20 (by decide) (hC.ts _ wf_X6_89) (fun _ h => h) rfl (by decide +kernel) rfl rfl (Nat.le_of_ble_eq_true rfl) up_ne (by rw [up_row]; rfl) k
theorem wf_X6_143 : Cond.fieldLink "BranchyardModel" 143 "BranchyardModel" "queued" "I" ∈ lw_good := gd_at 985 (by decide +kernel) (by decide +kernel)
theorem gf_X6_143 (hC : Cx X G "BranchyardModel" cc nL n mc ms) (d : decode cc pc = .ok (.getfield 143, 3)) (hO : OKM ok) (k : V X G kc ks ok ad σ l (pc + 3) (iv (σ 30 0 0 3) :: st)) : V X G kc ks ok ad σ l pc (.ref (ad 30 0 0) :: st) := v_get (C := RX6) (T := TX6) (N := 26) (ci := 6) hC d hO.k30 rfl rfl gin_X6 21 (by decide) (hC.ts _ wf_X6_143) (fun _ h => h) rfl k
theorem pf_X6_143 (hC : Cx X G "BranchyardModel" cc nL n mc ms) (d : decode cc pc = .ok (.putfield 143, 3)) (hO : OKM ok)  (k : V X G kc ks ok ad (up σ 30 0 0 3 v) l (pc + 3) st) : V X G kc ks ok ad σ l pc (iv v :: .ref (ad 30 0 0) :: st) := v_put (C := RX6) (T := TX6) (N := 26) (ci := 6) (ty := .int) hC d hO.k30 rfl rfl gin_X6 tyX6 tyX6_ok nmX6 21 (by decide) (hC.ts _ wf_X6_143) (fun _ h => h) rfl (by decide +kernel) rfl rfl (Nat.le_of_ble_eq_true rfl) up_ne (by rw [up_row]; rfl) k
theorem wf_X6_150 : Cond.fieldLink "BranchyardModel" 150 "BranchyardModel" "tests" "I" ∈ lw_good := gd_at 970 (by decide +kernel) (by decide +kernel)
theorem gf_X6_150 (hC : Cx X G "BranchyardModel" cc nL n mc ms) (d : decode cc pc = .ok (.getfield 150, 3)) (hO : OKM ok) (k : V X G kc ks ok ad σ l (pc + 3) (iv (σ 30 0 0 1) :: st)) : V X G kc ks ok ad σ l pc (.ref (ad 30 0 0) :: st) := v_get (C := RX6) (T := TX6) (N := 26) (ci := 6) hC d hO.k30 rfl rfl gin_X6 6 (by decide) (hC.ts _ wf_X6_150) (fun _ h => h) rfl k
theorem pf_X6_150 (hC : Cx X G "BranchyardModel" cc nL n mc ms) (d : decode cc pc = .ok (.putfield 150, 3)) (hO : OKM ok)  (k : V X G kc ks ok ad (up σ 30 0 0 1 v) l (pc + 3) st) : V X G kc ks ok ad σ l pc (iv v :: .ref (ad 30 0 0) :: st) := v_put (C := RX6) (T := TX6) (N := 26) (ci := 6) (ty := .int) hC d hO.k30 rfl rfl gin_X6 tyX6 tyX6_ok nmX6 6 (by decide) (hC.ts _ wf_X6_150) (fun _ h => h) rfl (by decide +kernel) rfl rfl (Nat.le_of_ble_eq_true rfl) up_ne (by rw [up_row]; rfl) k
theorem wf_X6_183 : Cond.fieldLink "BranchyardModel" 183 "BranchyardModel" "taken" "J" ∈ lw_good := gd_at 988 (by decide +kernel) (by decide +kernel)
theorem gf_X6_183 (hC : Cx X G "BranchyardModel" cc nL n mc ms) (d : decode cc pc = .ok (.getfield 183, 3)) (hO : OKM ok) (k : V X G kc ks ok ad σ l (pc + 3) (jv (σ 30 0 0 6) :: st)) : V X G kc ks ok ad σ l pc (.ref (ad 30 0 0) :: st) := v_get (C := RX6) (T := TX6) (N := 26) (ci := 6) hC d hO.k30 rfl rfl gin_X6 24 (by decide) (hC.ts _ wf_X6_183) (fun _ h => h) rfl k
theorem pf_X6_183 (hC : Cx X G "BranchyardModel" cc nL n mc ms) (d : decode cc pc = .ok (.putfield 183, 3)) (hO : OKM ok)  (k : V X G kc ks ok ad (up σ 30 0 0 6 v) l (pc + 3) st) : V X G kc ks ok ad σ l pc (jv v :: .ref (ad 30 0 0) :: st) := v_put (C := RX6) (T := TX6) (N := 26) (ci := 6) (ty := .long) hC d hO.k30 rfl rfl gin_X6 tyX6 tyX6_ok nmX6 24 (by decide) (hC.ts _ wf_X6_183) (fun _ h => h) rfl (by decide +kernel) rfl rfl (Nat.le_of_ble_eq_true rfl) up_ne (by rw [up_row]; rfl) k
theorem wf_X6_187 : Cond.fieldLink "BranchyardModel" 187 "BranchyardModel" "builds" "I" ∈ lw_good := gd_at 987 (by decide +kernel) (by decide +kernel)
theorem gf_X6_187 (hC : Cx X G "BranchyardModel" cc nL n mc ms) (d : decode cc pc = .ok (.getfield 187, 3)) (hO : OKM ok) (k : V X G kc ks ok ad σ l (pc + 3) (iv (σ 30 0 0 5) :: st)) : V X G kc ks ok ad σ l pc (.ref (ad 30 0 0) :: st) := v_get (C := RX6) (T := TX6) (N := 26) (ci := 6) hC d hO.k30 rfl rfl gin_X6 23 (by decide) (hC.ts _ wf_X6_187) (fun _ h => h) rfl k
theorem pf_X6_187 (hC : Cx X G "BranchyardModel" cc nL n mc ms) (d : decode cc pc = .ok (.putfield 187, 3)) (hO : OKM ok)  (k : V X G kc ks ok ad (up σ 30 0 0 5 v) l (pc + 3) st) : V X G kc ks ok ad σ l pc (iv v :: .ref (ad 30 0 0) :: st) := v_put (C := RX6) (T := TX6) (N := 26) (ci := 6) (ty := .int) hC d hO.k30 rfl rfl gin_X6 tyX6 tyX6_ok nmX6 23 (by decide) (hC.ts _ wf_X6_187) (fun _ h => h) rfl (by decide +kernel) rfl rfl (Nat.le_of_ble_eq_true rfl) up_ne (by rw [up_row]; rfl) k
theorem wf_X6_198 : Cond.fieldLink "BranchyardModel" 198 "BranchyardModel" "mergedMany" "I" ∈ lw_good := gd_at 986 (by decide +kernel) (by decide +kernel)
theorem gf_X6_198 (hC : Cx X G "BranchyardModel" cc nL n mc ms) (d : decode cc pc = .ok (.getfield 198, 3)) (hO : OKM ok) (k : V X G kc ks ok ad σ l (pc + 3) (iv (σ 30 0 0 4) :: st)) : V X G kc ks ok ad σ l pc (.ref (ad 30 0 0) :: st) := v_get (C := RX6) (T := TX6) (N := 26) (ci := 6) hC d hO.k30 rfl rfl gin_X6 22 (by decide) (hC.ts _ wf_X6_198) (fun _ h => h) rfl k
theorem pf_X6_198 (hC : Cx X G "BranchyardModel" cc nL n mc ms) (d : decode cc pc = .ok (.putfield 198, 3)) (hO : OKM ok)  (k : V X G kc ks ok ad (up σ 30 0 0 4 v) l (pc + 3) st) : V X G kc ks ok ad σ l pc (iv v :: .ref (ad 30 0 0) :: st) := v_put (C := RX6) (T := TX6) (N := 26) (ci := 6) (ty := .int) hC d hO.k30 rfl rfl gin_X6 tyX6 tyX6_ok nmX6 22 (by decide) (hC.ts _ wf_X6_198) (fun _ h => h) rfl (by decide +kernel) rfl rfl (Nat.le_of_ble_eq_true rfl) up_ne (by rw [up_row]; rfl) k
theorem wf_Jxc12de_7 : Cond.fieldLink "java/util/AbstractList" 7 "java/util/AbstractList" "modCount" "I" ∈ lw_good := gd_at 952 (by decide +kernel) (by decide +kernel)
theorem pf_Jxc12de_7 (hC : Cx X G "java/util/AbstractList" cc nL n mc ms) (d : decode cc pc = .ok (.putfield 7, 3)) (hO : OKM ok)  (k : V X G kc ks ok ad (up σ 54 0 0 0 v) l (pc + 3) st) : V X G kc ks ok ad σ l pc (iv v :: .ref (ad 54 0 0) :: st) := v_put (C := RJx4a65c) (T := TJx4a65c) (N := 3) (ci := 7) (ty := .int) hC d hO.k54 rfl rfl gin_Jx4a65c tyJx4a65c tyJx4a65c_ok nmJx4a65c 0 (by decide) (hC.ts _ wf_Jxc12de_7) (fun _ h => h) rfl (by decide +kernel) rfl rfl (Nat.le_of_ble_eq_true rfl) up_ne (by rw [up_row]; rfl) k
theorem wf_Jx4a65c_9 : Cond.fieldLink "java/util/ArrayList" 9 "java/util/ArrayList" "elementData" "[Ljava/lang/Object;" ∈ lw_good := gd_at 948 (by decide +kernel) (by decide +kernel)
theorem gf_Jx4a65c_9 (hC : Cx X G "java/util/ArrayList" cc nL n mc ms) (d : decode cc pc = .ok (.getfield 9, 3)) (hO : OKM ok) (k : V X G kc ks ok ad σ l (pc + 3) (va_rf (rf (σ 54 0 0 1)) :: st)) : V X G kc ks ok ad σ l pc (.ref (ad 54 0 0) :: st) := v_get (C := RJx4a65c) (T := TJx4a65c) (N := 3) (ci := 7) hC d hO.k54 rfl rfl gin_Jx4a65c 1 (by decide) (hC.ts _ wf_Jx4a65c_9) (fun _ h => h) rfl k
theorem pf_Jx4a65c_9 (hC : Cx X G "java/util/ArrayList" cc nL n mc ms) (d : decode cc pc = .ok (.putfield 9, 3)) (hO : OKM ok) (k : V X G kc ks ok ad (up σ 54 0 0 1 (v + 1)) l (pc + 3) st) : V X G kc ks ok ad σ l pc (.ref v :: .ref (ad 54 0 0) :: st) := v_put (C := RJx4a65c) (T := TJx4a65c) (N := 3) (ci := 7) (ty := .array (.object "java/lang/Object")) hC d hO.k54 rfl rfl gin_Jx4a65c tyJx4a65c tyJx4a65c_ok nmJx4a65c 1 (by decide) (hC.ts _ wf_Jx4a65c_9) (fun _ h => h) rfl (by decide +kernel) rfl rfl (Nat.le_of_ble_eq_true rfl) up_ne (by rw [up_row]; rfl) k
theorem wf_Jx4a65c_48 : Cond.fieldLink "java/util/ArrayList" 48 "java/util/ArrayList" "size" "I" ∈ lw_good := gd_at 951 (by decide +kernel) (by decide +kernel)
theorem gf_Jx4a65c_48 (hC : Cx X G "java/util/ArrayList" cc nL n mc ms) (d : decode cc pc = .ok (.getfield 48, 3)) (hO : OKM ok) (k : V X G kc ks ok ad σ l (pc + 3) (iv (σ 54 0 0 2) :: st)) : V X G kc ks ok ad σ l pc (.ref (ad 54 0 0) :: st) := v_get (C := RJx4a65c) (T := TJx4a65c) (N := 3) (ci := 7) hC d hO.k54 rfl rfl gin_Jx4a65c 2 (by decide) (hC.ts _ wf_Jx4a65c_48) (fun _ h => h) rfl k
theorem pf_Jx4a65c_48 (hC : Cx X G "java/util/ArrayList" cc nL n mc ms) (d : decode cc pc = .ok (.putfield 48, 3)) (hO : OKM ok)  (k : V X G kc ks ok ad (up σ 54 0 0 2 v) l (pc + 3) st) : V X G kc ks ok ad σ l pc (iv v :: .ref (ad 54 0 0) :: st) := v_put (C := RJx4a65c) (T := TJx4a65c) (N := 3) (ci := 7) (ty := .int) hC d hO.k54 rfl rfl gin_Jx4a65c tyJx4a65c tyJx4a65c_ok nmJx4a65c 2 (by decide) (hC.ts _ wf_Jx4a65c_48) (fun _ h => h) rfl (by decide +kernel) rfl rfl (Nat.le_of_ble_eq_true rfl) up_ne (by rw [up_row]; rfl) k
theorem wf_Jx4a65c_63 : Cond.fieldLink "java/util/ArrayList" 63 "java/util/ArrayList" "modCount" "I" ∈ lw_good := gd_at 955 (by decide +kernel) (by decide +kernel)
theorem ws_modCount : Cond.sameField "java/util/ArrayList" "java/util/AbstractList" "modCount" "I" ∈ lw_good := gd_at 954 (by decide +kernel) (by decide +kernel)
theorem gf_Jx4a65c_63 (hC : Cx X G "java/util/ArrayList" cc nL n mc ms) (d : decode cc pc = .ok (.getfield 63, 3)) (hO : OKM ok) (k : V X G kc ks ok ad σ l (pc + 3) (iv (σ 54 0 0 0) :: st)) : V X G kc ks ok ad σ l pc (.ref (ad 54 0 0) :: st) := v_get (C := RJx4a65c) (T := TJx4a65c) (N := 3) (ci := 7) hC d hO.k54 rfl rfl gin_Jx4a65c 0 (by decide) (hC.ts _ wf_Jx4a65c_63) (u_same (hC.ts _ ws_modCount)) rfl k
theorem pf_Jx4a65c_63 (hC : Cx X G "java/util/ArrayList" cc nL n mc ms) (d : decode cc pc = .ok (.putfield 63, 3)) (hO : OKM ok)  (k : V X G kc ks ok ad (up σ 54 0 0 0 v) l (pc + 3) st) : V X G kc ks ok ad σ l pc (iv v :: .ref (ad 54 0 0) :: st) := v_put (C := RJx4a65c) (T := TJx4a65c) (N := 3) (ci := 7) (ty := .int) hC d hO.k54 rfl rfl gin_Jx4a65c tyJx4a65c tyJx4a65c_ok nmJx4a65c 0 (by decide) (hC.ts _ wf_Jx4a65c_63) (u_same (hC.ts _ ws_modCount)) rfl (by decide +kernel) rfl rfl (Nat.le_of_ble_eq_true rfl) up_ne (by rw [up_row]; rfl) k
theorem wf_Jx35411_1 : Cond.fieldLink "java/util/ArrayList$Itr" 1 "java/util/ArrayList$Itr" "this$0" "Ljava/util/ArrayList;" ∈ lw_good := gd_at 1211 (by decide +kernel) (by decide +kernel)
theorem gf_Jx35411_1 (hC : Cx X G "java/util/ArrayList$Itr" cc nL n mc ms) (d : decode cc pc = .ok (.getfield 1, 3)) (hk : ok 59 0 0) (k : V X G kc ks ok ad σ l (pc + 3) (.ref (ad 54 0 0) :: st)) : V X G kc ks ok ad σ l pc (.ref (ad 59 0 0) :: st) := v_get (C := RJx35411) (T := TJx35411) (N := 4) (ci := 8) hC d hk rfl rfl gin_Jx35411 3 (by decide) (hC.ts _ wf_Jx35411_1) (fun _ h => h) rfl k
theorem wf_Jx35411_13 : Cond.fieldLink "java/util/ArrayList$Itr" 13 "java/util/ArrayList$Itr" "lastRet" "I" ∈ lw_good := gd_at 1209 (by decide +kernel) (by decide +kernel)
theorem pf_Jx35411_13 (hC : Cx X G "java/util/ArrayList$Itr" cc nL n mc ms) (d : decode cc pc = .ok (.putfield 13, 3)) (hk : ok 59 0 0)  (k : V X G kc ks ok ad (up σ 59 0 0 1 v) l (pc + 3) st) : V X G kc ks ok ad σ l pc (iv v :: .ref (ad 59 0 0) :: st) := v_put (C := RJx35411) (T := TJx35411) (N := 4) (ci := 8) (ty := .int) hC d hk rfl rfl gin_Jx35411 tyJx35411 tyJx35411_ok nmJx35411 1 (by decide) (hC.ts _ wf_Jx35411_13) (fun _ h => h) rfl (by decide +kernel) rfl rfl (Nat.le_of_ble_eq_true rfl) up_ne (by rw [up_row]; rfl) k
theorem wf_Jx35411_17 : Cond.fieldLink "java/util/ArrayList$Itr" 17 "java/util/ArrayList" "modCount" "I" ∈ lw_good := gd_at 953 (by decide +kernel) (by decide +kernel)
theorem gf_Jx35411_17 (hC : Cx X G "java/util/ArrayList$Itr" cc nL n mc ms) (d : decode cc pc = .ok (.getfield 17, 3)) (hO : OKM ok) (k : V X G kc ks ok ad σ l (pc + 3) (iv (σ 54 0 0 0) :: st)) : V X G kc ks ok ad σ l pc (.ref (ad 54 0 0) :: st) := v_get (C := RJx4a65c) (T := TJx4a65c) (N := 3) (ci := 7) hC d hO.k54 rfl rfl gin_Jx4a65c 0 (by decide) (hC.ts _ wf_Jx35411_17) (u_same (hC.ts _ ws_modCount)) rfl k
theorem wf_Jx35411_22 : Cond.fieldLink "java/util/ArrayList$Itr" 22 "java/util/ArrayList$Itr" "expectedModCount" "I" ∈ lw_good := gd_at 1210 (by decide +kernel) (by decide +kernel)
theorem pf_Jx35411_22 (hC : Cx X G "java/util/ArrayList$Itr" cc nL n mc ms) (d : decode cc pc = .ok (.putfield 22, 3)) (hk : ok 59 0 0)  (k : V X G kc ks ok ad (up σ 59 0 0 2 v) l (pc + 3) st) : V X G kc ks ok ad σ l pc (iv v :: .ref (ad 59 0 0) :: st) := v_put (C := RJx35411) (T := TJx35411) (N := 4) (ci := 8) (ty := .int) hC d hk rfl rfl gin_Jx35411 tyJx35411 tyJx35411_ok nmJx35411 2 (by decide) (hC.ts _ wf_Jx35411_22) (fun _ h => h) rfl (by decide +kernel) rfl rfl (Nat.le_of_ble_eq_true rfl) up_ne (by rw [up_row]; rfl) k
end FIELDS
section ARRAYS
variable {X : XT} {G : GT} {own : String} {cc : ByteArray} {nL n mc ms : Nat} {kc ks : Nat} {ok : KF} {ad : AD} {σ : SG} {l : List (Nat × Value)} {pc : Nat} {st : List Value} {i j x v : Nat}
theorem al_1 (hC : Cx X G own cc nL n mc ms) (d : decode cc pc = .ok (.iaload, 1)) (hO : OKC ok) (hx : x < 4) (k : V X G kc ks ok ad σ l (pc + 1) (iv (σ 1 0 0 x) :: st)) : V X G kc ks ok ad σ l pc (iv x :: .ref (ad 1 0 0) :: st) := v_iald hC d hO.k1 rfl hx (by decide) k
theorem as_1 (hC : Cx X G own cc nL n mc ms) (d : decode cc pc = .ok (.iastore, 1)) (hO : OKC ok) (hx : x < 4)  (k : V X G kc ks ok ad (up σ 1 0 0 x v) l (pc + 1) st) : V X G kc ks ok ad σ l pc (iv v :: iv x :: .ref (ad 1 0 0) :: st) := v_iast hC d hO.k1 rfl hx (by decide)  up_ne (by rw [up_row]; rfl) (fun a => by dsimp only; by_cases h : a = x <;> simp [h]) k
theorem al_2 (hC : Cx X G own cc nL n mc ms) (d : decode cc pc = .ok (.iaload, 1)) (hO : OKC ok) (hx : x < 4) (k : V X G kc ks ok ad σ l (pc + 1) (iv (σ 2 0 0 x) :: st)) : V X G kc ks ok ad σ l pc (iv x :: .ref (ad 2 0 0) :: st) := v_iald hC d hO.k2 rfl hx (by decide) k
theorem as_2 (hC : Cx X G own cc nL n mc ms) (d : decode cc pc = .ok (.iastore, 1)) (hO : OKC ok) (hx : x < 4)  (k : V X G kc ks ok ad (up σ 2 0 0 x v) l (pc + 1) st) : V X G kc ks ok ad σ l pc (iv v :: iv x :: .ref (ad 2 0 0) :: st) := v_iast hC d hO.k2 rfl hx (by decide)  up_ne (by rw [up_row]; rfl) (fun a => by dsimp only; by_cases h : a = x <;> simp [h]) k
theorem al_3 (hC : Cx X G own cc nL n mc ms) (d : decode cc pc = .ok (.baload, 1)) (hO : OKC ok) (hx : x < 4) (k : V X G kc ks ok ad σ l (pc + 1) (iv (σ 3 0 0 x) :: st)) : V X G kc ks ok ad σ l pc (iv x :: .ref (ad 3 0 0) :: st) := v_zald hC d hO.k3 rfl hx (by decide) k
theorem as_3 (hC : Cx X G own cc nL n mc ms) (d : decode cc pc = .ok (.bastore, 1)) (hO : OKC ok) (hx : x < 4) (hv : v < 2) (k : V X G kc ks ok ad (up σ 3 0 0 x v) l (pc + 1) st) : V X G kc ks ok ad σ l pc (iv v :: iv x :: .ref (ad 3 0 0) :: st) := v_zast hC d hO.k3 rfl hx (by decide) (nar_z hv) up_ne (by rw [up_row]; rfl) (fun a => by dsimp only; by_cases h : a = x <;> simp [h]) k
theorem al_4 (hC : Cx X G own cc nL n mc ms) (d : decode cc pc = .ok (.baload, 1)) (hO : OKC ok) (hx : x < 6) (k : V X G kc ks ok ad σ l (pc + 1) (iv (σ 4 0 0 x) :: st)) : V X G kc ks ok ad σ l pc (iv x :: .ref (ad 4 0 0) :: st) := v_zald hC d hO.k4 rfl hx (by decide) k
theorem as_4 (hC : Cx X G own cc nL n mc ms) (d : decode cc pc = .ok (.bastore, 1)) (hO : OKC ok) (hx : x < 6) (hv : v < 2) (k : V X G kc ks ok ad (up σ 4 0 0 x v) l (pc + 1) st) : V X G kc ks ok ad σ l pc (iv v :: iv x :: .ref (ad 4 0 0) :: st) := v_zast hC d hO.k4 rfl hx (by decide) (nar_z hv) up_ne (by rw [up_row]; rfl) (fun a => by dsimp only; by_cases h : a = x <;> simp [h]) k
theorem al_5 (hC : Cx X G own cc nL n mc ms) (d : decode cc pc = .ok (.aaload, 1)) (hO : OKC ok) (hx : x < 16) (k : V X G kc ks ok ad σ l (pc + 1) (.ref (ad 6 x 0) :: st)) : V X G kc ks ok ad σ l pc (iv x :: .ref (ad 5 0 0) :: st) := v_aald 5 rfl rfl hC d hO.k5 rfl hx (by decide) k
theorem al_7 (hC : Cx X G own cc nL n mc ms) (d : decode cc pc = .ok (.iaload, 1)) (hO : OKC ok) (hi : i < 16) (hx : x < 64) (k : V X G kc ks ok ad σ l (pc + 1) (iv (σ 7 i 0 x) :: st)) : V X G kc ks ok ad σ l pc (iv x :: .ref (ad 7 i 0) :: st) := v_iald hC d (hO.k7 hi) rfl hx (by decide) k
theorem as_7 (hC : Cx X G own cc nL n mc ms) (d : decode cc pc = .ok (.iastore, 1)) (hO : OKC ok) (hi : i < 16) (hx : x < 64)  (k : V X G kc ks ok ad (up σ 7 i 0 x v) l (pc + 1) st) : V X G kc ks ok ad σ l pc (iv v :: iv x :: .ref (ad 7 i 0) :: st) := v_iast hC d (hO.k7 hi) rfl hx (by decide)  up_ne (by rw [up_row]; rfl) (fun a => by dsimp only; by_cases h : a = x <;> simp [h]) k
theorem al_8 (hC : Cx X G own cc nL n mc ms) (d : decode cc pc = .ok (.iaload, 1)) (hO : OKC ok) (hi : i < 16) (hx : x < 6) (k : V X G kc ks ok ad σ l (pc + 1) (iv (σ 8 i 0 x) :: st)) : V X G kc ks ok ad σ l pc (iv x :: .ref (ad 8 i 0) :: st) := v_iald hC d (hO.k8 hi) rfl hx (by decide) k
theorem as_8 (hC : Cx X G own cc nL n mc ms) (d : decode cc pc = .ok (.iastore, 1)) (hO : OKC ok) (hi : i < 16) (hx : x < 6)  (k : V X G kc ks ok ad (up σ 8 i 0 x v) l (pc + 1) st) : V X G kc ks ok ad σ l pc (iv v :: iv x :: .ref (ad 8 i 0) :: st) := v_iast hC d (hO.k8 hi) rfl hx (by decide)  up_ne (by rw [up_row]; rfl) (fun a => by dsimp only; by_cases h : a = x <;> simp [h]) k
theorem al_9 (hC : Cx X G own cc nL n mc ms) (d : decode cc pc = .ok (.laload, 1)) (hO : OKC ok) (hi : i < 16) (hx : x < 6) (k : V X G kc ks ok ad σ l (pc + 1) (jv (σ 9 i 0 x) :: st)) : V X G kc ks ok ad σ l pc (iv x :: .ref (ad 9 i 0) :: st) := v_lald hC d (hO.k9 hi) rfl hx (by decide) k
theorem as_9 (hC : Cx X G own cc nL n mc ms) (d : decode cc pc = .ok (.lastore, 1)) (hO : OKC ok) (hi : i < 16) (hx : x < 6) (k : V X G kc ks ok ad (up σ 9 i 0 x v) l (pc + 1) st) : V X G kc ks ok ad σ l pc (jv v :: iv x :: .ref (ad 9 i 0) :: st) := v_last hC d (hO.k9 hi) rfl hx (by decide) up_ne (by rw [up_row]; rfl) (fun a => by dsimp only; by_cases h : a = x <;> simp [h]) k
theorem al_10 (hC : Cx X G own cc nL n mc ms) (d : decode cc pc = .ok (.aaload, 1)) (hO : OKC ok) (hi : i < 16) (hx : x < 6) (k : V X G kc ks ok ad σ l (pc + 1) (.ref (ad 11 i x) :: st)) : V X G kc ks ok ad σ l pc (iv x :: .ref (ad 10 i 0) :: st) := v_aald 8 rfl rfl hC d (hO.k10 hi) rfl hx (by decide) k
theorem al_11 (hC : Cx X G own cc nL n mc ms) (d : decode cc pc = .ok (.iaload, 1)) (hO : OKC ok) (hi : i < 16) (hj : j < 6) (hx : x < 64) (k : V X G kc ks ok ad σ l (pc + 1) (iv (σ 11 i j x) :: st)) : V X G kc ks ok ad σ l pc (iv x :: .ref (ad 11 i j) :: st) := v_iald hC d (hO.k11 hi hj) rfl hx (by decide) k
theorem as_11 (hC : Cx X G own cc nL n mc ms) (d : decode cc pc = .ok (.iastore, 1)) (hO : OKC ok) (hi : i < 16) (hj : j < 6) (hx : x < 64)  (k : V X G kc ks ok ad (up σ 11 i j x v) l (pc + 1) st) : V X G kc ks ok ad σ l pc (iv v :: iv x :: .ref (ad 11 i j) :: st) := v_iast hC d (hO.k11 hi hj) rfl hx (by decide)  up_ne (by rw [up_row]; rfl) (fun a => by dsimp only; by_cases h : a = x <;> simp [h]) k
theorem al_13 (hC : Cx X G own cc nL n mc ms) (d : decode cc pc = .ok (.iaload, 1)) (hO : OKC ok) (hi : i < 2) (hx : x < 16) (k : V X G kc ks ok ad σ l (pc + 1) (iv (σ 13 i 0 x) :: st)) : V X G kc ks ok ad σ l pc (iv x :: .ref (ad 13 i 0) :: st) := v_iald hC d (hO.k13 hi) rfl hx (by decide) k
theorem as_13 (hC : Cx X G own cc nL n mc ms) (d : decode cc pc = .ok (.iastore, 1)) (hO : OKC ok) (hi : i < 2) (hx : x < 16)  (k : V X G kc ks ok ad (up σ 13 i 0 x v) l (pc + 1) st) : V X G kc ks ok ad σ l pc (iv v :: iv x :: .ref (ad 13 i 0) :: st) := v_iast hC d (hO.k13 hi) rfl hx (by decide)  up_ne (by rw [up_row]; rfl) (fun a => by dsimp only; by_cases h : a = x <;> simp [h]) k
theorem al_14 (hC : Cx X G own cc nL n mc ms) (d : decode cc pc = .ok (.iaload, 1)) (hO : OKC ok) (hx : x < 4) (k : V X G kc ks ok ad σ l (pc + 1) (iv (σ 14 0 0 x) :: st)) : V X G kc ks ok ad σ l pc (iv x :: .ref (ad 14 0 0) :: st) := v_iald hC d hO.k14 rfl hx (by decide) k
theorem as_14 (hC : Cx X G own cc nL n mc ms) (d : decode cc pc = .ok (.iastore, 1)) (hO : OKC ok) (hx : x < 4)  (k : V X G kc ks ok ad (up σ 14 0 0 x v) l (pc + 1) st) : V X G kc ks ok ad σ l pc (iv v :: iv x :: .ref (ad 14 0 0) :: st) := v_iast hC d hO.k14 rfl hx (by decide)  up_ne (by rw [up_row]; rfl) (fun a => by dsimp only; by_cases h : a = x <;> simp [h]) k
theorem al_15 (hC : Cx X G own cc nL n mc ms) (d : decode cc pc = .ok (.iaload, 1)) (hO : OKC ok) (hi : i < 2) (hx : x < 64) (k : V X G kc ks ok ad σ l (pc + 1) (iv (σ 15 i 0 x) :: st)) : V X G kc ks ok ad σ l pc (iv x :: .ref (ad 15 i 0) :: st) := v_iald hC d (hO.k15 hi) rfl hx (by decide) k
theorem as_15 (hC : Cx X G own cc nL n mc ms) (d : decode cc pc = .ok (.iastore, 1)) (hO : OKC ok) (hi : i < 2) (hx : x < 64)  (k : V X G kc ks ok ad (up σ 15 i 0 x v) l (pc + 1) st) : V X G kc ks ok ad σ l pc (iv v :: iv x :: .ref (ad 15 i 0) :: st) := v_iast hC d (hO.k15 hi) rfl hx (by decide)  up_ne (by rw [up_row]; rfl) (fun a => by dsimp only; by_cases h : a = x <;> simp [h]) k
theorem al_17 (hC : Cx X G own cc nL n mc ms) (d : decode cc pc = .ok (.aaload, 1)) (hO : OKC ok) (hx : x < 12) (k : V X G kc ks ok ad σ l (pc + 1) (.ref (ad 18 x 0) :: st)) : V X G kc ks ok ad σ l pc (iv x :: .ref (ad 17 0 0) :: st) := v_aald 6 rfl rfl hC d hO.k17 rfl hx (by decide) k
theorem al_19 (hC : Cx X G own cc nL n mc ms) (d : decode cc pc = .ok (.aaload, 1)) (hO : OKC ok) (hx : x < 4) (k : V X G kc ks ok ad σ l (pc + 1) (va_rf (rf (σ 19 0 0 x)) :: st)) : V X G kc ks ok ad σ l pc (iv x :: .ref (ad 19 0 0) :: st) := v_aald 7 rfl rfl hC d hO.k19 rfl hx (by decide) k
theorem as_19N (hC : Cx X G own cc nL n mc ms) (d : decode cc pc = .ok (.aastore, 1)) (hO : OKC ok) (hx : x < 4) (k : V X G kc ks ok ad (up σ 19 0 0 x 0) l (pc + 1) st) : V X G kc ks ok ad σ l pc (.null :: iv x :: .ref (ad 19 0 0) :: st) := v_aastN 7 rfl hC d hO.k19 rfl hx (by decide) up_ne (by rw [up_row]; rfl) (fun a => by dsimp only; by_cases h : a = x <;> simp [h, rf]) k
theorem al_20 (hC : Cx X G own cc nL n mc ms) (d : decode cc pc = .ok (.iaload, 1)) (hO : OKC ok) (hx : x < 24) (k : V X G kc ks ok ad σ l (pc + 1) (iv (σ 20 0 0 x) :: st)) : V X G kc ks ok ad σ l pc (iv x :: .ref (ad 20 0 0) :: st) := v_iald hC d hO.k20 rfl hx (by decide) k
theorem as_20 (hC : Cx X G own cc nL n mc ms) (d : decode cc pc = .ok (.iastore, 1)) (hO : OKC ok) (hx : x < 24)  (k : V X G kc ks ok ad (up σ 20 0 0 x v) l (pc + 1) st) : V X G kc ks ok ad σ l pc (iv v :: iv x :: .ref (ad 20 0 0) :: st) := v_iast hC d hO.k20 rfl hx (by decide)  up_ne (by rw [up_row]; rfl) (fun a => by dsimp only; by_cases h : a = x <;> simp [h]) k
theorem al_31 (hC : Cx X G own cc nL n mc ms) (d : decode cc pc = .ok (.iaload, 1)) (hO : OKM ok) (hx : x < 64) (k : V X G kc ks ok ad σ l (pc + 1) (iv (σ 31 0 0 x) :: st)) : V X G kc ks ok ad σ l pc (iv x :: .ref (ad 31 0 0) :: st) := v_iald hC d hO.k31 rfl hx (by decide) k
theorem as_31 (hC : Cx X G own cc nL n mc ms) (d : decode cc pc = .ok (.iastore, 1)) (hO : OKM ok) (hx : x < 64)  (k : V X G kc ks ok ad (up σ 31 0 0 x v) l (pc + 1) st) : V X G kc ks ok ad σ l pc (iv v :: iv x :: .ref (ad 31 0 0) :: st) := v_iast hC d hO.k31 rfl hx (by decide)  up_ne (by rw [up_row]; rfl) (fun a => by dsimp only; by_cases h : a = x <;> simp [h]) k
theorem al_32 (hC : Cx X G own cc nL n mc ms) (d : decode cc pc = .ok (.iaload, 1)) (hO : OKM ok) (hx : x < 12) (k : V X G kc ks ok ad σ l (pc + 1) (iv (σ 32 0 0 x) :: st)) : V X G kc ks ok ad σ l pc (iv x :: .ref (ad 32 0 0) :: st) := v_iald hC d hO.k32 rfl hx (by decide) k
theorem as_32 (hC : Cx X G own cc nL n mc ms) (d : decode cc pc = .ok (.iastore, 1)) (hO : OKM ok) (hx : x < 12)  (k : V X G kc ks ok ad (up σ 32 0 0 x v) l (pc + 1) st) : V X G kc ks ok ad σ l pc (iv v :: iv x :: .ref (ad 32 0 0) :: st) := v_iast hC d hO.k32 rfl hx (by decide)  up_ne (by rw [up_row]; rfl) (fun a => by dsimp only; by_cases h : a = x <;> simp [h]) k
theorem al_33 (hC : Cx X G own cc nL n mc ms) (d : decode cc pc = .ok (.iaload, 1)) (hO : OKM ok) (hx : x < 12) (k : V X G kc ks ok ad σ l (pc + 1) (iv (σ 33 0 0 x) :: st)) : V X G kc ks ok ad σ l pc (iv x :: .ref (ad 33 0 0) :: st) := v_iald hC d hO.k33 rfl hx (by decide) k
theorem as_33 (hC : Cx X G own cc nL n mc ms) (d : decode cc pc = .ok (.iastore, 1)) (hO : OKM ok) (hx : x < 12)  (k : V X G kc ks ok ad (up σ 33 0 0 x v) l (pc + 1) st) : V X G kc ks ok ad σ l pc (iv v :: iv x :: .ref (ad 33 0 0) :: st) := v_iast hC d hO.k33 rfl hx (by decide)  up_ne (by rw [up_row]; rfl) (fun a => by dsimp only; by_cases h : a = x <;> simp [h]) k
theorem al_34 (hC : Cx X G own cc nL n mc ms) (d : decode cc pc = .ok (.iaload, 1)) (hO : OKM ok) (hx : x < 12) (k : V X G kc ks ok ad σ l (pc + 1) (iv (σ 34 0 0 x) :: st)) : V X G kc ks ok ad σ l pc (iv x :: .ref (ad 34 0 0) :: st) := v_iald hC d hO.k34 rfl hx (by decide) k
theorem as_34 (hC : Cx X G own cc nL n mc ms) (d : decode cc pc = .ok (.iastore, 1)) (hO : OKM ok) (hx : x < 12)  (k : V X G kc ks ok ad (up σ 34 0 0 x v) l (pc + 1) st) : V X G kc ks ok ad σ l pc (iv v :: iv x :: .ref (ad 34 0 0) :: st) := v_iast hC d hO.k34 rfl hx (by decide)  up_ne (by rw [up_row]; rfl) (fun a => by dsimp only; by_cases h : a = x <;> simp [h]) k
theorem al_35 (hC : Cx X G own cc nL n mc ms) (d : decode cc pc = .ok (.baload, 1)) (hO : OKM ok) (hx : x < 12) (k : V X G kc ks ok ad σ l (pc + 1) (iv (σ 35 0 0 x) :: st)) : V X G kc ks ok ad σ l pc (iv x :: .ref (ad 35 0 0) :: st) := v_zald hC d hO.k35 rfl hx (by decide) k
theorem as_35 (hC : Cx X G own cc nL n mc ms) (d : decode cc pc = .ok (.bastore, 1)) (hO : OKM ok) (hx : x < 12) (hv : v < 2) (k : V X G kc ks ok ad (up σ 35 0 0 x v) l (pc + 1) st) : V X G kc ks ok ad σ l pc (iv v :: iv x :: .ref (ad 35 0 0) :: st) := v_zast hC d hO.k35 rfl hx (by decide) (nar_z hv) up_ne (by rw [up_row]; rfl) (fun a => by dsimp only; by_cases h : a = x <;> simp [h]) k
theorem al_36 (hC : Cx X G own cc nL n mc ms) (d : decode cc pc = .ok (.iaload, 1)) (hO : OKM ok) (hx : x < 4) (k : V X G kc ks ok ad σ l (pc + 1) (iv (σ 36 0 0 x) :: st)) : V X G kc ks ok ad σ l pc (iv x :: .ref (ad 36 0 0) :: st) := v_iald hC d hO.k36 rfl hx (by decide) k
theorem as_36 (hC : Cx X G own cc nL n mc ms) (d : decode cc pc = .ok (.iastore, 1)) (hO : OKM ok) (hx : x < 4)  (k : V X G kc ks ok ad (up σ 36 0 0 x v) l (pc + 1) st) : V X G kc ks ok ad σ l pc (iv v :: iv x :: .ref (ad 36 0 0) :: st) := v_iast hC d hO.k36 rfl hx (by decide)  up_ne (by rw [up_row]; rfl) (fun a => by dsimp only; by_cases h : a = x <;> simp [h]) k
theorem al_37 (hC : Cx X G own cc nL n mc ms) (d : decode cc pc = .ok (.iaload, 1)) (hO : OKM ok) (hx : x < 4) (k : V X G kc ks ok ad σ l (pc + 1) (iv (σ 37 0 0 x) :: st)) : V X G kc ks ok ad σ l pc (iv x :: .ref (ad 37 0 0) :: st) := v_iald hC d hO.k37 rfl hx (by decide) k
theorem as_37 (hC : Cx X G own cc nL n mc ms) (d : decode cc pc = .ok (.iastore, 1)) (hO : OKM ok) (hx : x < 4)  (k : V X G kc ks ok ad (up σ 37 0 0 x v) l (pc + 1) st) : V X G kc ks ok ad σ l pc (iv v :: iv x :: .ref (ad 37 0 0) :: st) := v_iast hC d hO.k37 rfl hx (by decide)  up_ne (by rw [up_row]; rfl) (fun a => by dsimp only; by_cases h : a = x <;> simp [h]) k
theorem al_38 (hC : Cx X G own cc nL n mc ms) (d : decode cc pc = .ok (.baload, 1)) (hO : OKM ok) (hx : x < 4) (k : V X G kc ks ok ad σ l (pc + 1) (iv (σ 38 0 0 x) :: st)) : V X G kc ks ok ad σ l pc (iv x :: .ref (ad 38 0 0) :: st) := v_zald hC d hO.k38 rfl hx (by decide) k
theorem as_38 (hC : Cx X G own cc nL n mc ms) (d : decode cc pc = .ok (.bastore, 1)) (hO : OKM ok) (hx : x < 4) (hv : v < 2) (k : V X G kc ks ok ad (up σ 38 0 0 x v) l (pc + 1) st) : V X G kc ks ok ad σ l pc (iv v :: iv x :: .ref (ad 38 0 0) :: st) := v_zast hC d hO.k38 rfl hx (by decide) (nar_z hv) up_ne (by rw [up_row]; rfl) (fun a => by dsimp only; by_cases h : a = x <;> simp [h]) k
theorem al_39 (hC : Cx X G own cc nL n mc ms) (d : decode cc pc = .ok (.baload, 1)) (hO : OKM ok) (hx : x < 6) (k : V X G kc ks ok ad σ l (pc + 1) (iv (σ 39 0 0 x) :: st)) : V X G kc ks ok ad σ l pc (iv x :: .ref (ad 39 0 0) :: st) := v_zald hC d hO.k39 rfl hx (by decide) k
theorem as_39 (hC : Cx X G own cc nL n mc ms) (d : decode cc pc = .ok (.bastore, 1)) (hO : OKM ok) (hx : x < 6) (hv : v < 2) (k : V X G kc ks ok ad (up σ 39 0 0 x v) l (pc + 1) st) : V X G kc ks ok ad σ l pc (iv v :: iv x :: .ref (ad 39 0 0) :: st) := v_zast hC d hO.k39 rfl hx (by decide) (nar_z hv) up_ne (by rw [up_row]; rfl) (fun a => by dsimp only; by_cases h : a = x <;> simp [h]) k
theorem al_40 (hC : Cx X G own cc nL n mc ms) (d : decode cc pc = .ok (.aaload, 1)) (hO : OKM ok) (hx : x < 16) (k : V X G kc ks ok ad σ l (pc + 1) (.ref (ad 41 x 0) :: st)) : V X G kc ks ok ad σ l pc (iv x :: .ref (ad 40 0 0) :: st) := v_aald 8 rfl rfl hC d hO.k40 rfl hx (by decide) k
theorem al_41 (hC : Cx X G own cc nL n mc ms) (d : decode cc pc = .ok (.iaload, 1)) (hO : OKM ok) (hi : i < 16) (hx : x < 64) (k : V X G kc ks ok ad σ l (pc + 1) (.int (dm (σ 41 i 0 x)) :: st)) : V X G kc ks ok ad σ l pc (iv x :: .ref (ad 41 i 0) :: st) := v_iald hC d (hO.k41 hi) rfl hx (by decide) k
theorem as_41 (hC : Cx X G own cc nL n mc ms) (d : decode cc pc = .ok (.iastore, 1)) (hO : OKM ok) (hi : i < 16) (hx : x < 64)  (k : V X G kc ks ok ad (up σ 41 i 0 x v) l (pc + 1) st) : V X G kc ks ok ad σ l pc (.int (dm v) :: iv x :: .ref (ad 41 i 0) :: st) := v_iast hC d (hO.k41 hi) rfl hx (by decide)  up_ne (by rw [up_row]; rfl) (fun a => by dsimp only; by_cases h : a = x <;> simp [h]) k
theorem al_42 (hC : Cx X G own cc nL n mc ms) (d : decode cc pc = .ok (.aaload, 1)) (hO : OKM ok) (hx : x < 16) (k : V X G kc ks ok ad σ l (pc + 1) (.ref (ad 43 x 0) :: st)) : V X G kc ks ok ad σ l pc (iv x :: .ref (ad 42 0 0) :: st) := v_aald 9 rfl rfl hC d hO.k42 rfl hx (by decide) k
theorem al_43 (hC : Cx X G own cc nL n mc ms) (d : decode cc pc = .ok (.baload, 1)) (hO : OKM ok) (hi : i < 16) (hx : x < 64) (k : V X G kc ks ok ad σ l (pc + 1) (iv (σ 43 i 0 x) :: st)) : V X G kc ks ok ad σ l pc (iv x :: .ref (ad 43 i 0) :: st) := v_zald hC d (hO.k43 hi) rfl hx (by decide) k
theorem as_43 (hC : Cx X G own cc nL n mc ms) (d : decode cc pc = .ok (.bastore, 1)) (hO : OKM ok) (hi : i < 16) (hx : x < 64) (hv : v < 2) (k : V X G kc ks ok ad (up σ 43 i 0 x v) l (pc + 1) st) : V X G kc ks ok ad σ l pc (iv v :: iv x :: .ref (ad 43 i 0) :: st) := v_zast hC d (hO.k43 hi) rfl hx (by decide) (nar_z hv) up_ne (by rw [up_row]; rfl) (fun a => by dsimp only; by_cases h : a = x <;> simp [h]) k
theorem al_44 (hC : Cx X G own cc nL n mc ms) (d : decode cc pc = .ok (.aaload, 1)) (hO : OKM ok) (hx : x < 16) (k : V X G kc ks ok ad σ l (pc + 1) (.ref (ad 45 x 0) :: st)) : V X G kc ks ok ad σ l pc (iv x :: .ref (ad 44 0 0) :: st) := v_aald 10 rfl rfl hC d hO.k44 rfl hx (by decide) k
theorem al_45 (hC : Cx X G own cc nL n mc ms) (d : decode cc pc = .ok (.caload, 1)) (hO : OKM ok) (hi : i < 16) (hx : x < 6) (k : V X G kc ks ok ad σ l (pc + 1) (iv (σ 45 i 0 x) :: st)) : V X G kc ks ok ad σ l pc (iv x :: .ref (ad 45 i 0) :: st) := v_cald hC d (hO.k45 hi) rfl hx (by decide) k
theorem as_45 (hC : Cx X G own cc nL n mc ms) (d : decode cc pc = .ok (.castore, 1)) (hO : OKM ok) (hi : i < 16) (hx : x < 6) (hv : v < 65536) (k : V X G kc ks ok ad (up σ 45 i 0 x v) l (pc + 1) st) : V X G kc ks ok ad σ l pc (iv v :: iv x :: .ref (ad 45 i 0) :: st) := v_cast hC d (hO.k45 hi) rfl hx (by decide) (nar_c hv) up_ne (by rw [up_row]; rfl) (fun a => by dsimp only; by_cases h : a = x <;> simp [h]) k
theorem al_46 (hC : Cx X G own cc nL n mc ms) (d : decode cc pc = .ok (.aaload, 1)) (hO : OKM ok) (hx : x < 16) (k : V X G kc ks ok ad σ l (pc + 1) (.ref (ad 47 x 0) :: st)) : V X G kc ks ok ad σ l pc (iv x :: .ref (ad 46 0 0) :: st) := v_aald 11 rfl rfl hC d hO.k46 rfl hx (by decide) k
theorem al_47 (hC : Cx X G own cc nL n mc ms) (d : decode cc pc = .ok (.aaload, 1)) (hO : OKM ok) (hi : i < 16) (hx : x < 6) (k : V X G kc ks ok ad σ l (pc + 1) (.ref (ad 48 i x) :: st)) : V X G kc ks ok ad σ l pc (iv x :: .ref (ad 47 i 0) :: st) := v_aald 8 rfl rfl hC d (hO.k47 hi) rfl hx (by decide) k
theorem al_48 (hC : Cx X G own cc nL n mc ms) (d : decode cc pc = .ok (.iaload, 1)) (hO : OKM ok) (hi : i < 16) (hj : j < 6) (hx : x < 64) (k : V X G kc ks ok ad σ l (pc + 1) (.int (dm (σ 48 i j x)) :: st)) : V X G kc ks ok ad σ l pc (iv x :: .ref (ad 48 i j) :: st) := v_iald hC d (hO.k48 hi hj) rfl hx (by decide) k
theorem as_48 (hC : Cx X G own cc nL n mc ms) (d : decode cc pc = .ok (.iastore, 1)) (hO : OKM ok) (hi : i < 16) (hj : j < 6) (hx : x < 64)  (k : V X G kc ks ok ad (up σ 48 i j x v) l (pc + 1) st) : V X G kc ks ok ad σ l pc (.int (dm v) :: iv x :: .ref (ad 48 i j) :: st) := v_iast hC d (hO.k48 hi hj) rfl hx (by decide)  up_ne (by rw [up_row]; rfl) (fun a => by dsimp only; by_cases h : a = x <;> simp [h]) k
theorem al_49 (hC : Cx X G own cc nL n mc ms) (d : decode cc pc = .ok (.iaload, 1)) (hO : OKM ok) (hx : x < 16) (k : V X G kc ks ok ad σ l (pc + 1) (iv (σ 49 0 0 x) :: st)) : V X G kc ks ok ad σ l pc (iv x :: .ref (ad 49 0 0) :: st) := v_iald hC d hO.k49 rfl hx (by decide) k
theorem as_49 (hC : Cx X G own cc nL n mc ms) (d : decode cc pc = .ok (.iastore, 1)) (hO : OKM ok) (hx : x < 16)  (k : V X G kc ks ok ad (up σ 49 0 0 x v) l (pc + 1) st) : V X G kc ks ok ad σ l pc (iv v :: iv x :: .ref (ad 49 0 0) :: st) := v_iast hC d hO.k49 rfl hx (by decide)  up_ne (by rw [up_row]; rfl) (fun a => by dsimp only; by_cases h : a = x <;> simp [h]) k
theorem al_50 (hC : Cx X G own cc nL n mc ms) (d : decode cc pc = .ok (.iaload, 1)) (hO : OKM ok) (hx : x < 16) (k : V X G kc ks ok ad σ l (pc + 1) (iv (σ 50 0 0 x) :: st)) : V X G kc ks ok ad σ l pc (iv x :: .ref (ad 50 0 0) :: st) := v_iald hC d hO.k50 rfl hx (by decide) k
theorem as_50 (hC : Cx X G own cc nL n mc ms) (d : decode cc pc = .ok (.iastore, 1)) (hO : OKM ok) (hx : x < 16)  (k : V X G kc ks ok ad (up σ 50 0 0 x v) l (pc + 1) st) : V X G kc ks ok ad σ l pc (iv v :: iv x :: .ref (ad 50 0 0) :: st) := v_iast hC d hO.k50 rfl hx (by decide)  up_ne (by rw [up_row]; rfl) (fun a => by dsimp only; by_cases h : a = x <;> simp [h]) k
theorem al_51 (hC : Cx X G own cc nL n mc ms) (d : decode cc pc = .ok (.iaload, 1)) (hO : OKM ok) (hx : x < 16) (k : V X G kc ks ok ad σ l (pc + 1) (iv (σ 51 0 0 x) :: st)) : V X G kc ks ok ad σ l pc (iv x :: .ref (ad 51 0 0) :: st) := v_iald hC d hO.k51 rfl hx (by decide) k
theorem as_51 (hC : Cx X G own cc nL n mc ms) (d : decode cc pc = .ok (.iastore, 1)) (hO : OKM ok) (hx : x < 16)  (k : V X G kc ks ok ad (up σ 51 0 0 x v) l (pc + 1) st) : V X G kc ks ok ad σ l pc (iv v :: iv x :: .ref (ad 51 0 0) :: st) := v_iast hC d hO.k51 rfl hx (by decide)  up_ne (by rw [up_row]; rfl) (fun a => by dsimp only; by_cases h : a = x <;> simp [h]) k
theorem al_52 (hC : Cx X G own cc nL n mc ms) (d : decode cc pc = .ok (.caload, 1)) (hO : OKM ok) (hx : x < 16) (k : V X G kc ks ok ad σ l (pc + 1) (iv (σ 52 0 0 x) :: st)) : V X G kc ks ok ad σ l pc (iv x :: .ref (ad 52 0 0) :: st) := v_cald hC d hO.k52 rfl hx (by decide) k
theorem as_52 (hC : Cx X G own cc nL n mc ms) (d : decode cc pc = .ok (.castore, 1)) (hO : OKM ok) (hx : x < 16) (hv : v < 65536) (k : V X G kc ks ok ad (up σ 52 0 0 x v) l (pc + 1) st) : V X G kc ks ok ad σ l pc (iv v :: iv x :: .ref (ad 52 0 0) :: st) := v_cast hC d hO.k52 rfl hx (by decide) (nar_c hv) up_ne (by rw [up_row]; rfl) (fun a => by dsimp only; by_cases h : a = x <;> simp [h]) k
theorem al_53 (hC : Cx X G own cc nL n mc ms) (d : decode cc pc = .ok (.baload, 1)) (hO : OKM ok) (hx : x < 16) (k : V X G kc ks ok ad σ l (pc + 1) (iv (σ 53 0 0 x) :: st)) : V X G kc ks ok ad σ l pc (iv x :: .ref (ad 53 0 0) :: st) := v_zald hC d hO.k53 rfl hx (by decide) k
theorem as_53 (hC : Cx X G own cc nL n mc ms) (d : decode cc pc = .ok (.bastore, 1)) (hO : OKM ok) (hx : x < 16) (hv : v < 2) (k : V X G kc ks ok ad (up σ 53 0 0 x v) l (pc + 1) st) : V X G kc ks ok ad σ l pc (iv v :: iv x :: .ref (ad 53 0 0) :: st) := v_zast hC d hO.k53 rfl hx (by decide) (nar_z hv) up_ne (by rw [up_row]; rfl) (fun a => by dsimp only; by_cases h : a = x <;> simp [h]) k
theorem al_57 (hC : Cx X G own cc nL n mc ms) (d : decode cc pc = .ok (.iaload, 1)) (hk : ok 57 0 0) (hx : x < 4) (k : V X G kc ks ok ad σ l (pc + 1) (iv (σ 57 0 0 x) :: st)) : V X G kc ks ok ad σ l pc (iv x :: .ref (ad 57 0 0) :: st) := v_iald hC d hk rfl hx (by decide) k
theorem as_57 (hC : Cx X G own cc nL n mc ms) (d : decode cc pc = .ok (.iastore, 1)) (hk : ok 57 0 0) (hx : x < 4)  (k : V X G kc ks ok ad (up σ 57 0 0 x v) l (pc + 1) st) : V X G kc ks ok ad σ l pc (iv v :: iv x :: .ref (ad 57 0 0) :: st) := v_iast hC d hk rfl hx (by decide)  up_ne (by rw [up_row]; rfl) (fun a => by dsimp only; by_cases h : a = x <;> simp [h]) k
theorem al_58 (hC : Cx X G own cc nL n mc ms) (d : decode cc pc = .ok (.baload, 1)) (hk : ok 58 0 0) (hx : x < 16) (k : V X G kc ks ok ad σ l (pc + 1) (iv (σ 58 0 0 x) :: st)) : V X G kc ks ok ad σ l pc (iv x :: .ref (ad 58 0 0) :: st) := v_zald hC d hk rfl hx (by decide) k
theorem as_58 (hC : Cx X G own cc nL n mc ms) (d : decode cc pc = .ok (.bastore, 1)) (hk : ok 58 0 0) (hx : x < 16) (hv : v < 2) (k : V X G kc ks ok ad (up σ 58 0 0 x v) l (pc + 1) st) : V X G kc ks ok ad σ l pc (iv v :: iv x :: .ref (ad 58 0 0) :: st) := v_zast hC d hk rfl hx (by decide) (nar_z hv) up_ne (by rw [up_row]; rfl) (fun a => by dsimp only; by_cases h : a = x <;> simp [h]) k
theorem al_60 (hC : Cx X G own cc nL n mc ms) (d : decode cc pc = .ok (.laload, 1)) (hk : ok 60 0 0) (hx : x < 1) (k : V X G kc ks ok ad σ l (pc + 1) (jv (σ 60 0 0 x) :: st)) : V X G kc ks ok ad σ l pc (iv x :: .ref (ad 60 0 0) :: st) := v_lald hC d hk rfl hx (by decide) k
theorem as_60 (hC : Cx X G own cc nL n mc ms) (d : decode cc pc = .ok (.lastore, 1)) (hk : ok 60 0 0) (hx : x < 1) (k : V X G kc ks ok ad (up σ 60 0 0 x v) l (pc + 1) st) : V X G kc ks ok ad σ l pc (jv v :: iv x :: .ref (ad 60 0 0) :: st) := v_last hC d hk rfl hx (by decide) up_ne (by rw [up_row]; rfl) (fun a => by dsimp only; by_cases h : a = x <;> simp [h]) k
theorem al_61 (hC : Cx X G own cc nL n mc ms) (d : decode cc pc = .ok (.daload, 1)) (hk : ok 61 0 0) (hx : x < 1) (k : V X G kc ks ok ad σ l (pc + 1) (.double (UInt64.ofNat (σ 61 0 0 x)) :: st)) : V X G kc ks ok ad σ l pc (iv x :: .ref (ad 61 0 0) :: st) := v_dald hC d hk rfl hx (by decide) k
theorem as_61 (hC : Cx X G own cc nL n mc ms) (d : decode cc pc = .ok (.dastore, 1)) (hk : ok 61 0 0) (hx : x < 1) (k : V X G kc ks ok ad (up σ 61 0 0 x v) l (pc + 1) st) : V X G kc ks ok ad σ l pc (.double (UInt64.ofNat v) :: iv x :: .ref (ad 61 0 0) :: st) := v_dast hC d hk rfl hx (by decide) up_ne (by rw [up_row]; rfl) (fun a => by dsimp only; by_cases h : a = x <;> simp [h]) k
theorem al_62 (hC : Cx X G own cc nL n mc ms) (d : decode cc pc = .ok (.iaload, 1)) (hk : ok 62 i 0) (hx : x < 64) (k : V X G kc ks ok ad σ l (pc + 1) (iv (σ 62 i 0 x) :: st)) : V X G kc ks ok ad σ l pc (iv x :: .ref (ad 62 i 0) :: st) := v_iald hC d hk rfl hx (by decide) k
theorem as_62 (hC : Cx X G own cc nL n mc ms) (d : decode cc pc = .ok (.iastore, 1)) (hk : ok 62 i 0) (hx : x < 64)  (k : V X G kc ks ok ad (up σ 62 i 0 x v) l (pc + 1) st) : V X G kc ks ok ad σ l pc (iv v :: iv x :: .ref (ad 62 i 0) :: st) := v_iast hC d hk rfl hx (by decide)  up_ne (by rw [up_row]; rfl) (fun a => by dsimp only; by_cases h : a = x <;> simp [h]) k
end ARRAYS
end
section
/-! ===== BEGIN a constructor that throws (launches without stack traces) ===== -/
section VXIA
variable {p : Program} {l : Launch} {e : Env} {R : Room} {s : State} {m : MethodId} {args : Array Value} {below : List Frame} {meth : Method} {c : Code} {T : State} {locs : List Loc} {cells slots : Nat}
theorem vx_callI (X : Stand p l e R s m args below meth c T locs cells slots) (hexec : p.tables.exec = Jvm.exec) {own : String} {index : Nat} {y : MethodName} {bytes : ByteArray} {maxL : Nat}
    (hown : s.vm.findClass own = some m.cls) (hy1 : y.name = "<init>") (hlink : (Cond.methodLink own index y).before args s = true) (hinst : (Cond.instanceMethod y).before args s = true)
    (hcode : (Cond.code y bytes maxL none).before args s = true) (hy : y.cls ≠ "java/lang/invoke/MethodHandle" ∧ y.cls ≠ "java/lang/invoke/VarHandle")
    {W9 : Nat} {Pre : Pt → Array Value → Prop} {Post : Pt → Array Value → Option Value → Pt → Prop} {PostX : Pt → Array Value → Addr → Pt → Prop} (hK : vx_Back l R p e below s args y 3 W9 Pre Post PostX)
    {g : JFrame} (hg : g.method = m) (hsize : g.locals.size = c.maxLocals) {a : Addr} {argsL rest : List Value} (hlen : ∀ sig, parseMethodDescriptor y.desc = some sig → argsL.length = sig.parameters.length)
    (hstack : g.stack = argsL.reverse ++ .ref a :: rest) (hW : 2 * g.monitorRoom + (rest.map fun v => v.category).sum ≤ W9) (hdg : decode c.code g.pc = .ok (.invokespecial index, 3))
    (hpre : ∀ vm₁, s.WarmedH vm₁ → Pre ⟨T.setVm vm₁, locs, cells, slots⟩ (Value.ref a :: argsL).toArray) :
    (∃ (v : Option Value) (vm₁ : Vm) (B : Pt), s.WarmedH vm₁ ∧ Stand p l e R s m args below meth c B.U B.locs B.cells B.slots ∧ Post ⟨T.setVm vm₁, locs, cells, slots⟩ (Value.ref a :: argsL).toArray v B ∧
      ∀ target, Steps p.tables e below (B.U.setTop { g with pc := g.pc + 3, stack := v.toList ++ rest }) target → Steps p.tables e below (T.setTop g) target) ∨
    (∃ (q : Addr) (vm₁ : Vm) (B : Pt), s.WarmedH vm₁ ∧ Stand p l e R s m args below meth c B.U B.locs B.cells B.slots ∧ PostX ⟨T.setVm vm₁, locs, cells, slots⟩ (Value.ref a :: argsL).toArray q B ∧
      Steps p.tables e below (T.setTop g) ((B.U.setTop { g with stack := rest }).pushFrame (.throwing q))) := by
  subst hg
  have hpl : e.platform.magicAccessors = ({} : Platform).magicAccessors := by rw [X.admits.platform]
  obtain ⟨mk, methM, cM, kP, vm₁, hnamed, hmethM, hcodeM, -, hlocalsM, -, hkP, -, hW₁, hstep₁⟩ := Steps.initColdArgs (e := e) X.here hexec X.warmed hpl hown hy1 hy hlink hinst hcode (f := g) rfl hlen hstack hdg
  have X₁ := X.noted hW₁
  rcases hK g.method meth c ⟨T.setVm vm₁, locs, cells, slots⟩ { g with stack := rest } (.invokespecial index) mk (Value.ref a :: argsL).toArray X₁ rfl hsize hdg hW (X₁.named hnamed) (hpre vm₁ X₁.warmed) with ⟨v, B, X', hpost, hsteps⟩ | ⟨q, B, X', hpost, hsteps⟩
  · exact Or.inl ⟨v, vm₁, B, X₁.warmed, X', hpost, fun target h => hstep₁ _ fun acts => by rw [doInvoke_state]; exact hsteps.trans h⟩
  · exact Or.inr ⟨q, vm₁, B, X₁.warmed, X', hpost, hstep₁ _ fun acts => by rw [doInvoke_state]; exact hsteps⟩
end VXIA
section VXIB
variable {p : Program} {l : Launch} {e : Env} {R : Room} {s : State} {m : MethodId} {args : Array Value} {below : List Frame} {meth : Method} {c : Code} {H : Heap} {locs : List Loc} {cells slots : Nat}
variable {y : MethodName} {bytes cc : ByteArray} {maxL nL mc ms n index : Nat} {ret : Option FieldType} {ws : List Cond} {rm : Room} {Pc : Array Value → State → Prop} {Qc : Array Value → State → Outcome → State → Prop} {XC : String → State → State → Prop} {free : Addr → Prop} {Ts : List Cond} {own C : String} {b : Addr} {As rest : List Value} {g : JFrame}
theorem vx_runI (S : CallFix p m c cc nL s args Ts own) (hM : vx_Met l y ws rm Pc Qc XC mc ms free) (cw : CallB R s args own index y bytes maxL none ws rm mc ms n ∧ y.name = "<init>" ∧ (Cond.instanceMethod y).before args s = true) (hp : PreS s H Pc (.ref b :: As))
    (hg : g.method = m) (hn : As.length = n) (hsize : g.locals.size = nL) (hstack : g.stack = As.reverse ++ .ref b :: rest) (hW : 2 * g.monitorRoom + (rest.map fun v => v.category).sum ≤ 8) (hdg : decode cc g.pc = .ok (.invokespecial index, 3)) (hf : cells + mc ≤ R.cells ∧ slots + ms ≤ R.slots) :
    vx_Run p l e R s m args below meth c H locs cells slots mc ms g rest (Qc (Value.ref b :: As).toArray) XC free := by
  have hK : vx_Back l R p e below s args y 3 8 (PreOf R mc ms Pc) (PostOf Qc mc ms free) (vx_Post XC mc ms free) := vx_callBack cw.1 hM hp.1
  obtain ⟨⟨-, -, -, -, -, -, hcode, -, hy, hlen, hl⟩, hy1, hin⟩ := cw
  obtain ⟨hx, hb, hml, ho, -⟩ := S
  have hPc := hp.2
  intro T hT X
  rcases vx_callI X hx (bytes := bytes) (maxL := maxL) ho hy1 hl hin hcode hy hK hg (hsize.trans hml.symm) (a := b) (argsL := As) (rest := rest) (fun sig h => hn.trans (hlen sig h)) hstack hW (by rw [hb]; exact hdg)
    (fun vm₁ hW₁ => ⟨hf.1, hf.2, hPc (T.setVm vm₁) hT hW₁⟩) with ⟨v, vm₁, ⟨U', l2, c2, s2⟩, hW₁, X', ⟨g', mk, t, L, e1, e2, hq, h1, hL, h2, h3⟩, st⟩ | ⟨q, vm₁, ⟨U', l2, c2, s2⟩, hW₁, X', ⟨g', mk, t, L, E, ce, e1, e2, hq, hce, hcv, hcl, h1, hL, h2, h3⟩, st⟩
  · dsimp only [Pt.U, Pt.locs, Pt.cells, Pt.slots] at X' e1 e2 h1 h2 h3 st
    subst h1; subst h2; subst h3
    exact Or.inl ⟨v, (T.setVm vm₁).calling g' mk (Value.ref b :: As).toArray, t, U', L, hT, X', hL, e1, e2, hq, st⟩
  · dsimp only [Pt.U, Pt.locs, Pt.cells, Pt.slots] at X' e1 e2 h1 h2 h3 st hcl
    subst h1; subst h2; subst h3
    exact Or.inr ⟨q, (T.setVm vm₁).calling g' mk (Value.ref b :: As).toArray, t, U', L, E, ce, hT, X', hL, e1, e2, hq, hce, hcv, vx_cls hW₁ hcl, st⟩
end VXIB
/-! ===== END ===== -/
/-! ===== BEGIN a private constructor of a nest mate that throws ===== -/
section VXIC
variable {p : Program} {l : Launch} {e : Env} {R : Room} {s : State} {m : MethodId} {args : Array Value} {below : List Frame} {meth : Method} {c : Code} {T : State} {locs : List Loc} {cells slots : Nat}
theorem vx_callIN (X : Stand p l e R s m args below meth c T locs cells slots) (hexec : p.tables.exec = Jvm.exec) {own : String} {index : Nat} {host : String} {y : MethodName} {bytes : ByteArray} {maxL : Nat}
    (hown : s.vm.findClass own = some m.cls) (hy1 : y.name = "<init>") (hlink : (Cond.methodLinkNest own index y host).before args s = true) (hinst : (Cond.instanceMethod y).before args s = true)
    (hcode : (Cond.code y bytes maxL none).before args s = true) (hy : y.cls ≠ "java/lang/invoke/MethodHandle" ∧ y.cls ≠ "java/lang/invoke/VarHandle")
    {W9 : Nat} {Pre : Pt → Array Value → Prop} {Post : Pt → Array Value → Option Value → Pt → Prop} {PostX : Pt → Array Value → Addr → Pt → Prop} (hK : vx_Back l R p e below s args y 3 W9 Pre Post PostX)
    {g : JFrame} (hg : g.method = m) (hsize : g.locals.size = c.maxLocals) {a : Addr} {argsL rest : List Value} (hlen : ∀ sig, parseMethodDescriptor y.desc = some sig → argsL.length = sig.parameters.length)
    (hstack : g.stack = argsL.reverse ++ .ref a :: rest) (hW : 2 * g.monitorRoom + (rest.map fun v => v.category).sum ≤ W9) (hdg : decode c.code g.pc = .ok (.invokespecial index, 3))
    (hpre : ∀ vm₁, s.WarmedH vm₁ → Pre ⟨T.setVm vm₁, locs, cells, slots⟩ (Value.ref a :: argsL).toArray) :
    (∃ (v : Option Value) (vm₁ : Vm) (B : Pt), s.WarmedH vm₁ ∧ Stand p l e R s m args below meth c B.U B.locs B.cells B.slots ∧ Post ⟨T.setVm vm₁, locs, cells, slots⟩ (Value.ref a :: argsL).toArray v B ∧
      ∀ target, Steps p.tables e below (B.U.setTop { g with pc := g.pc + 3, stack := v.toList ++ rest }) target → Steps p.tables e below (T.setTop g) target) ∨
    (∃ (q : Addr) (vm₁ : Vm) (B : Pt), s.WarmedH vm₁ ∧ Stand p l e R s m args below meth c B.U B.locs B.cells B.slots ∧ PostX ⟨T.setVm vm₁, locs, cells, slots⟩ (Value.ref a :: argsL).toArray q B ∧
      Steps p.tables e below (T.setTop g) ((B.U.setTop { g with stack := rest }).pushFrame (.throwing q))) := by
  subst hg
  have hpl : e.platform.magicAccessors = ({} : Platform).magicAccessors := by rw [X.admits.platform]
  obtain ⟨mk, methM, cM, kP, vm₁, hnamed, hmethM, hcodeM, -, hlocalsM, -, hkP, -, hW₁, hstep₁⟩ := Steps.initColdArgsNest (e := e) X.here hexec X.warmed hpl hown hy1 hy hlink hinst hcode (f := g) rfl hlen hstack hdg
  have X₁ := X.noted hW₁
  rcases hK g.method meth c ⟨T.setVm vm₁, locs, cells, slots⟩ { g with stack := rest } (.invokespecial index) mk (Value.ref a :: argsL).toArray X₁ rfl hsize hdg hW (X₁.named hnamed) (hpre vm₁ X₁.warmed) with ⟨v, B, X', hpost, hsteps⟩ | ⟨q, B, X', hpost, hsteps⟩
  · exact Or.inl ⟨v, vm₁, B, X₁.warmed, X', hpost, fun target h => hstep₁ _ fun acts => by rw [doInvoke_state]; exact hsteps.trans h⟩
  · exact Or.inr ⟨q, vm₁, B, X₁.warmed, X', hpost, hstep₁ _ fun acts => by rw [doInvoke_state]; exact hsteps⟩
end VXIC
section VXID
variable {p : Program} {l : Launch} {e : Env} {R : Room} {s : State} {m : MethodId} {args : Array Value} {below : List Frame} {meth : Method} {c : Code} {H : Heap} {locs : List Loc} {cells slots : Nat}
theorem vx_runIN {y : MethodName} {bytes cc : ByteArray} {maxL nL mc ms n index : Nat} {ws : List Cond} {rm : Room} {Pc : Array Value → State → Prop} {Qc : Array Value → State → Outcome → State → Prop} {XC : String → State → State → Prop} {free : Addr → Prop} {Ts : List Cond} {own host : String} {b : Addr} {As rest : List Value} {g : JFrame}
    (S : CallFix p m c cc nL s args Ts own) (hM : vx_Met l y ws rm Pc Qc XC mc ms free) (cw : va_CN R s args own index y host bytes maxL none ws rm mc ms n ∧ y.name = "<init>" ∧ (Cond.instanceMethod y).before args s = true) (hp : PreS s H Pc (.ref b :: As))
    (hg : g.method = m) (hn : As.length = n) (hsize : g.locals.size = nL) (hstack : g.stack = As.reverse ++ .ref b :: rest) (hW : 2 * g.monitorRoom + (rest.map fun v => v.category).sum ≤ 8) (hdg : decode cc g.pc = .ok (.invokespecial index, 3)) (hf : cells + mc ≤ R.cells ∧ slots + ms ≤ R.slots) :
    vx_Run p l e R s m args below meth c H locs cells slots mc ms g rest (Qc (Value.ref b :: As).toArray) XC free := by
  obtain ⟨⟨⟨hrc, hrs, hfr, hlo, hws, hcw⟩, hcode, hini, hy, hlen, hl⟩, hx1, hx2⟩ := cw
  have hK : vx_Back l R p e below s args y 3 8 (PreOf R mc ms Pc) (PostOf Qc mc ms free) (vx_Post XC mc ms free) := vx_back (bytes := bytes) (maxL := maxL) (ret := none) hM hp.1 hrc hrs hfr hlo hws hcw (fun a' U hW => word_at hW (Or.inl (by first | rfl | simp [Cond.onTables, Cond.keeps, Cond.steady])) hini)
  obtain ⟨hx, hb, hml, ho, -⟩ := S
  have hPc := hp.2
  intro T hT X
  rcases vx_callIN X hx (bytes := bytes) (maxL := maxL) ho hx1 hl hx2 hcode hy hK hg (hsize.trans hml.symm) (a := b) (argsL := As) (rest := rest) (fun sig h => hn.trans (hlen sig h)) hstack hW (by rw [hb]; exact hdg)
    (fun vm₁ hW₁ => ⟨hf.1, hf.2, hPc (T.setVm vm₁) hT hW₁⟩) with ⟨v, vm₁, ⟨U', l2, c2, s2⟩, hW₁, X', ⟨g', mk, t, L, e1, e2, hq, h1, hL, h2, h3⟩, st⟩ | ⟨q, vm₁, ⟨U', l2, c2, s2⟩, hW₁, X', ⟨g', mk, t, L, E, ce, e1, e2, hq, hce, hcv, hcl, h1, hL, h2, h3⟩, st⟩
  · dsimp only [Pt.U, Pt.locs, Pt.cells, Pt.slots] at X' e1 e2 h1 h2 h3 st
    subst h1; subst h2; subst h3
    exact Or.inl ⟨v, (T.setVm vm₁).calling g' mk (Value.ref b :: As).toArray, t, U', L, hT, X', hL, e1, e2, hq, st⟩
  · dsimp only [Pt.U, Pt.locs, Pt.cells, Pt.slots] at X' e1 e2 h1 h2 h3 st hcl
    subst h1; subst h2; subst h3
    exact Or.inr ⟨q, (T.setVm vm₁).calling g' mk (Value.ref b :: As).toArray, t, U', L, E, ce, hT, X', hL, e1, e2, hq, hce, hcv, vx_cls hW₁ hcl, st⟩
end VXID
/-! ===== END ===== -/
/-! ===== BEGIN a private method of a nest mate that may throw (follows va_callVN, va_callSN, va_runVN, va_runSN) ===== -/
section
variable {p : Program} {l : Launch} {e : Env} {R : Room} {s : State} {m : MethodId} {args : Array Value} {below : List Frame} {meth : Method} {c : Code} {H : Heap} {locs : List Loc} {cells slots : Nat}
variable {T : State}
theorem vx_callVN (X : Stand p l e R s m args below meth c T locs cells slots) (hexec : p.tables.exec = Jvm.exec) {own C : String} {index : Nat} {host : String} {y : MethodName} {bytes : ByteArray} {maxL : Nat} {ret : Option FieldType}
    (hown : s.vm.findClass own = some m.cls) (hlink : (Cond.methodLinkNest own index y host).before args s = true) (hinst : (Cond.instanceMethod y).before args s = true) (hsel : (Cond.selects C y y).before args s = true)
    (hcode : (Cond.code y bytes maxL ret).before args s = true) (hy : y.cls ≠ "java/lang/invoke/MethodHandle" ∧ y.cls ≠ "java/lang/invoke/VarHandle")
    {W : Nat} {Pre : Pt → Array Value → Prop} {Post : Pt → Array Value → Option Value → Pt → Prop} {PostX : Pt → Array Value → Addr → Pt → Prop} (hK : vx_Back l R p e below s args y 3 W Pre Post PostX)
    {b : Addr} {cellB : Cell} (hcell : T.heap[b]? = some cellB) (hobj : cellB.vm.isStatics = false) (hcls : s.vm.findClass C = some cellB.cls)
    {g : JFrame} (hg : g.method = m) (hsize : g.locals.size = c.maxLocals) {argsL rest : List Value} (hlen : ∀ sig, parseMethodDescriptor y.desc = some sig → argsL.length = sig.parameters.length)
    (hstack : g.stack = argsL.reverse ++ .ref b :: rest) (hW : 2 * g.monitorRoom + (rest.map fun v => v.category).sum ≤ W) (hdg : decode c.code g.pc = .ok (.invokevirtual index, 3))
    (hpre : ∀ vm₁, s.WarmedH vm₁ → Pre ⟨T.setVm vm₁, locs, cells, slots⟩ (Value.ref b :: argsL).toArray) :
    (∃ (v : Option Value) (vm₁ : Vm) (B : Pt), s.WarmedH vm₁ ∧ Stand p l e R s m args below meth c B.U B.locs B.cells B.slots ∧ Post ⟨T.setVm vm₁, locs, cells, slots⟩ (Value.ref b :: argsL).toArray v B ∧
      ∀ target, Steps p.tables e below (B.U.setTop { g with pc := g.pc + 3, stack := v.toList ++ rest }) target → Steps p.tables e below (T.setTop g) target) ∨
    (∃ (q : Addr) (vm₁ : Vm) (B : Pt), s.WarmedH vm₁ ∧ Stand p l e R s m args below meth c B.U B.locs B.cells B.slots ∧ PostX ⟨T.setVm vm₁, locs, cells, slots⟩ (Value.ref b :: argsL).toArray q B ∧
      Steps p.tables e below (T.setTop g) ((B.U.setTop { g with stack := rest }).pushFrame (.throwing q))) := by
  obtain ⟨mk, methM, hnamed, hmethM, hstM, habM⟩ := Cond.instanceMethod_spec hinst
  obtain ⟨methM', cM, hmethM', -, -, -, -, -, -, hsigM⟩ := Cond.code_spec hnamed hcode
  cases hmethM.symm.trans hmethM'
  obtain ⟨c2, r2, m2, q1, q2, q3, q4, kP, hkP, hkPi⟩ := Cond.selects_spec hsel
  cases hcls.symm.trans q1
  cases (State.methodFound?_of_named hnamed hy).symm.trans q2
  cases hnamed.symm.trans q3
  have hselP : selectMethod e.platform s.vm cellB.cls mk = .method mk := by rw [Launch.admits_selectMethod X.admits]; exact q4
  obtain ⟨vm₁, X₁, hstep₁⟩ := X.invokevirtualNest hexec hown hlink hnamed hmethM hstM hkP hkPi hy (a := b) (cell := cellB) hcell
    (fun z h => by rw [h] at hobj; cases hobj) hselP hmethM habM hkP hkPi (g := g) hg (argsL := argsL) (rest := rest) (hlen _ hsigM) hstack hdg
  rcases hK m meth c ⟨T.setVm vm₁, locs, cells, slots⟩ { g with stack := rest } (.invokevirtual index) mk (Value.ref b :: argsL).toArray X₁ hg hsize hdg hW (X₁.named hnamed) (hpre vm₁ X₁.warmed) with ⟨v, B, X', hpost, hsteps⟩ | ⟨q, B, X', hpost, hsteps⟩
  · exact Or.inl ⟨v, vm₁, B, X₁.warmed, X', hpost, fun target h => hstep₁ _ fun acts => by rw [doInvoke_state]; exact hsteps.trans h⟩
  · exact Or.inr ⟨q, vm₁, B, X₁.warmed, X', hpost, hstep₁ _ fun acts => by rw [doInvoke_state]; exact hsteps⟩
theorem vx_callSN (X : Stand p l e R s m args below meth c T locs cells slots) (hexec : p.tables.exec = Jvm.exec) {own : String} {index : Nat} {host : String} {y : MethodName} {bytes : ByteArray} {maxL : Nat} {ret : Option FieldType}
    (hown : s.vm.findClass own = some m.cls) (hlink : (Cond.methodLinkNest own index y host).before args s = true) (hstat : (Cond.static y).before args s = true) (hinit : (Cond.initialized y.cls).before args s = true)
    (hcode : (Cond.code y bytes maxL ret).before args s = true) (hy : y.cls ≠ "java/lang/invoke/MethodHandle" ∧ y.cls ≠ "java/lang/invoke/VarHandle")
    {W : Nat} {Pre : Pt → Array Value → Prop} {Post : Pt → Array Value → Option Value → Pt → Prop} {PostX : Pt → Array Value → Addr → Pt → Prop} (hK : vx_Back l R p e below s args y 3 W Pre Post PostX)
    {g : JFrame} (hg : g.method = m) (hsize : g.locals.size = c.maxLocals) {argsL rest : List Value} (hlen : ∀ sig, parseMethodDescriptor y.desc = some sig → argsL.length = sig.parameters.length)
    (hstack : g.stack = argsL.reverse ++ rest) (hW : 2 * g.monitorRoom + (rest.map fun v => v.category).sum ≤ W) (hdg : decode c.code g.pc = .ok (.invokestatic index, 3))
    (hpre : ∀ vm₁, s.WarmedH vm₁ → Pre ⟨T.setVm vm₁, locs, cells, slots⟩ argsL.toArray) :
    (∃ (v : Option Value) (vm₁ : Vm) (B : Pt), s.WarmedH vm₁ ∧ Stand p l e R s m args below meth c B.U B.locs B.cells B.slots ∧ Post ⟨T.setVm vm₁, locs, cells, slots⟩ argsL.toArray v B ∧
      ∀ target, Steps p.tables e below (B.U.setTop { g with pc := g.pc + 3, stack := v.toList ++ rest }) target → Steps p.tables e below (T.setTop g) target) ∨
    (∃ (q : Addr) (vm₁ : Vm) (B : Pt), s.WarmedH vm₁ ∧ Stand p l e R s m args below meth c B.U B.locs B.cells B.slots ∧ PostX ⟨T.setVm vm₁, locs, cells, slots⟩ argsL.toArray q B ∧
      Steps p.tables e below (T.setTop g) ((B.U.setTop { g with stack := rest }).pushFrame (.throwing q))) := by
  obtain ⟨mk, hnamed⟩ := Cond.code_named hcode
  obtain ⟨methM, cM, hmethM, -, -, -, -, -, -, hsigM⟩ := Cond.code_spec hnamed hcode
  have hstatic : methM.isStatic = true := Cond.static_spec hnamed hmethM hstat
  obtain ⟨kP, hkP, -⟩ := className_of_methodNamed hnamed
  have hinitP : kP.init = .initialized := Cond.initialized_spec (findClass_of_methodNamed hnamed) hkP hinit
  obtain ⟨vm₁, X₁, hstep₁⟩ := X.invokestaticNest hexec hown hlink hnamed hmethM hstatic hkP hinitP hy (g := g) hg (argsL := argsL) (rest := rest) (hlen _ hsigM) hstack hdg
  rcases hK m meth c ⟨T.setVm vm₁, locs, cells, slots⟩ { g with stack := rest } (.invokestatic index) mk argsL.toArray X₁ hg hsize hdg hW (X₁.named hnamed) (hpre vm₁ X₁.warmed) with ⟨v, B, X', hpost, hsteps⟩ | ⟨q, B, X', hpost, hsteps⟩
  · exact Or.inl ⟨v, vm₁, B, X₁.warmed, X', hpost, fun target h => hstep₁ _ fun acts => by rw [doInvoke_state]; exact hsteps.trans h⟩
  · exact Or.inr ⟨q, vm₁, B, X₁.warmed, X', hpost, hstep₁ _ fun acts => by rw [doInvoke_state]; exact hsteps⟩
theorem vx_runVN {y : MethodName} {bytes cc : ByteArray} {maxL nL mc ms n index : Nat} {ret : Option FieldType} {ws : List Cond} {rm : Room} {Pc : Array Value → State → Prop} {Qc : Array Value → State → Outcome → State → Prop} {XC : String → State → State → Prop} {free : Addr → Prop} {Ts : List Cond} {own C host : String} {b : Addr} {As rest : List Value} {g : JFrame}
    (S : CallFix p m c cc nL s args Ts own) (hM : vx_Met l y ws rm Pc Qc XC mc ms free) (cw : va_CN R s args own index y host bytes maxL ret ws rm mc ms n ∧ (Cond.instanceMethod y).before args s = true ∧ (Cond.selects C y y).before args s = true) (hp : PreV s H C b Pc As)
    (hg : g.method = m) (hn : As.length = n) (hsize : g.locals.size = nL) (hstack : g.stack = As.reverse ++ .ref b :: rest) (hW : 2 * g.monitorRoom + (rest.map fun v => v.category).sum ≤ 8) (hdg : decode cc g.pc = .ok (.invokevirtual index, 3)) (hf : cells + mc ≤ R.cells ∧ slots + ms ≤ R.slots) :
    vx_Run p l e R s m args below meth c H locs cells slots mc ms g rest (Qc (Value.ref b :: As).toArray) XC free := by
  obtain ⟨⟨⟨hrc, hrs, hfr, hlo, hws, hcw⟩, hcode, hini, hy, hlen, hl⟩, hx1, hx2⟩ := cw
  have hK : vx_Back l R p e below s args y 3 8 (PreOf R mc ms Pc) (PostOf Qc mc ms free) (vx_Post XC mc ms free) := vx_back (bytes := bytes) (maxL := maxL) (ret := ret) hM hp.1 hrc hrs hfr hlo hws hcw (fun a' U hW => word_at hW (Or.inl (by first | rfl | simp [Cond.onTables, Cond.keeps, Cond.steady])) hini)
  obtain ⟨hx, hb, hml, ho, -⟩ := S
  obtain ⟨-, ⟨cellB, hcB, hoB, hclB⟩, hPc⟩ := hp
  intro T hT X
  rcases vx_callVN X hx (C := C) (bytes := bytes) (maxL := maxL) (ret := ret) ho hl hx1 hx2 hcode hy hK (by rw [hT]; exact hcB) hoB hclB hg (hsize.trans hml.symm) (argsL := As) (rest := rest) (fun sig h => hn.trans (hlen sig h)) hstack hW (by rw [hb]; exact hdg)
    (fun vm₁ hW₁ => ⟨hf.1, hf.2, hPc (T.setVm vm₁) hT hW₁⟩) with ⟨v, vm₁, ⟨U', l2, c2, s2⟩, hW₁, X', ⟨g', mk, t, L, e1, e2, hq, h1, hL, h2, h3⟩, st⟩ | ⟨q, vm₁, ⟨U', l2, c2, s2⟩, hW₁, X', ⟨g', mk, t, L, E, ce, e1, e2, hq, hce, hcv, hcl, h1, hL, h2, h3⟩, st⟩
  · dsimp only [Pt.U, Pt.locs, Pt.cells, Pt.slots] at X' e1 e2 h1 h2 h3 st
    subst h1; subst h2; subst h3
    exact Or.inl ⟨v, (T.setVm vm₁).calling g' mk (Value.ref b :: As).toArray, t, U', L, hT, X', hL, e1, e2, hq, st⟩
  · dsimp only [Pt.U, Pt.locs, Pt.cells, Pt.slots] at X' e1 e2 h1 h2 h3 st hcl
    subst h1; subst h2; subst h3
    exact Or.inr ⟨q, (T.setVm vm₁).calling g' mk (Value.ref b :: As).toArray, t, U', L, E, ce, hT, X', hL, e1, e2, hq, hce, hcv, vx_cls hW₁ hcl, st⟩
theorem vx_runSN {y : MethodName} {bytes cc : ByteArray} {maxL nL mc ms n index : Nat} {ret : Option FieldType} {ws : List Cond} {rm : Room} {Pc : Array Value → State → Prop} {Qc : Array Value → State → Outcome → State → Prop} {XC : String → State → State → Prop} {free : Addr → Prop} {Ts : List Cond} {own host : String} {As rest : List Value} {g : JFrame}
    (S : CallFix p m c cc nL s args Ts own) (hM : vx_Met l y ws rm Pc Qc XC mc ms free) (cw : va_CN R s args own index y host bytes maxL ret ws rm mc ms n ∧ (Cond.static y).before args s = true ∧ True) (hp : PreS s H Pc As)
    (hg : g.method = m) (hn : As.length = n) (hsize : g.locals.size = nL) (hstack : g.stack = As.reverse ++ rest) (hW : 2 * g.monitorRoom + (rest.map fun v => v.category).sum ≤ 8) (hdg : decode cc g.pc = .ok (.invokestatic index, 3)) (hf : cells + mc ≤ R.cells ∧ slots + ms ≤ R.slots) :
    vx_Run p l e R s m args below meth c H locs cells slots mc ms g rest (Qc As.toArray) XC free := by
  obtain ⟨⟨⟨hrc, hrs, hfr, hlo, hws, hcw⟩, hcode, hini, hy, hlen, hl⟩, hx1, hx2⟩ := cw
  have hK : vx_Back l R p e below s args y 3 8 (PreOf R mc ms Pc) (PostOf Qc mc ms free) (vx_Post XC mc ms free) := vx_back (bytes := bytes) (maxL := maxL) (ret := ret) hM hp.1 hrc hrs hfr hlo hws hcw (fun a' U hW => word_at hW (Or.inl (by first | rfl | simp [Cond.onTables, Cond.keeps, Cond.steady])) hini)
  obtain ⟨hx, hb, hml, ho, -⟩ := S
  have hPc := hp.2
  intro T hT X
  rcases vx_callSN X hx (bytes := bytes) (maxL := maxL) (ret := ret) ho hl hx1 hini hcode hy hK hg (hsize.trans hml.symm) (argsL := As) (rest := rest) (fun sig h => hn.trans (hlen sig h)) hstack hW (by rw [hb]; exact hdg)
    (fun vm₁ hW₁ => ⟨hf.1, hf.2, hPc (T.setVm vm₁) hT hW₁⟩) with ⟨v, vm₁, ⟨U', l2, c2, s2⟩, hW₁, X', ⟨g', mk, t, L, e1, e2, hq, h1, hL, h2, h3⟩, st⟩ | ⟨q, vm₁, ⟨U', l2, c2, s2⟩, hW₁, X', ⟨g', mk, t, L, E, ce, e1, e2, hq, hce, hcv, hcl, h1, hL, h2, h3⟩, st⟩
  · dsimp only [Pt.U, Pt.locs, Pt.cells, Pt.slots] at X' e1 e2 h1 h2 h3 st
    subst h1; subst h2; subst h3
    exact Or.inl ⟨v, (T.setVm vm₁).calling g' mk As.toArray, t, U', L, hT, X', hL, e1, e2, hq, st⟩
  · dsimp only [Pt.U, Pt.locs, Pt.cells, Pt.slots] at X' e1 e2 h1 h2 h3 st hcl
    subst h1; subst h2; subst h3
    exact Or.inr ⟨q, (T.setVm vm₁).calling g' mk As.toArray, t, U', L, E, ce, hT, X', hL, e1, e2, hq, hce, hcv, vx_cls hW₁ hcl, st⟩
end
/-! ===== END ===== -/
/-! ===== BEGIN calls by an interface of methods that may throw (vx_callIF, vx_runF follow va_callIF, va_runF of this kit) ===== -/
section
variable {p : Program} {l : Launch} {e : Env} {R : Room} {s : State} {m : MethodId} {args : Array Value} {below : List Frame} {meth : Method} {c : Code} {H : Heap} {locs : List Loc} {cells slots : Nat} {Q : State → Prop}
variable {mc ms : Nat} {free : Addr → Prop} {A0 A1 : Nat → Prop} {H0 : Heap} {a : Array Value} {pc : Nat} {ls : Array Slot} {st0 rest : List Value}
def vx_Run5 (p : Program) (l : Launch) (e : Env) (R : Room) (s : State) (m : MethodId) (args : Array Value) (below : List Frame) (meth : Method) (c : Code) (H : Heap) (locs : List Loc) (cells slots mc ms : Nat) (g : JFrame) (rest : List Value) (Qa : State → Outcome → State → Prop) (XC : String → State → State → Prop) (free : Addr → Prop) : Prop :=
  ∀ T : State, T.heap = H → Stand p l e R s m args below meth c T locs cells slots →
    (∃ (v : Option Value) (st₀ t T' : State) (L : List Loc), st₀.heap = H ∧ Stand p l e R s m args below meth c T' (locs ++ L) (cells + mc) (slots + ms) ∧ (∀ q ∈ L, free q.base) ∧ T'.heap = t.heap ∧ T'.vm = t.vm ∧ Qa st₀ (.returned v) t ∧
      Goes p e below T g T' { g with pc := g.pc + 5, stack := v.toList ++ rest }) ∨
    (∃ (q : Addr) (st₀ t T' : State) (L : List Loc) (E : String) (ce : Cell), st₀.heap = H ∧ Stand p l e R s m args below meth c T' (locs ++ L) (cells + mc) (slots + ms) ∧ (∀ z ∈ L, free z.base) ∧ T'.heap = t.heap ∧ T'.vm = t.vm ∧ XC E st₀ t ∧ t.heap[q]? = some ce ∧ ce.vm = .none ∧ s.vm.findClass E = some ce.cls ∧
      Steps p.tables e below (T.setTop g) ((T'.setTop { g with stack := rest }).pushFrame (.throwing q)))
theorem vx_callIF {T : State} (X : Stand p l e R s m args below meth c T locs cells slots) (hexec : p.tables.exec = Jvm.exec) {own C : String} {index count : Nat} {x y : MethodName} {bytes : ByteArray} {maxL : Nat} {ret : Option FieldType}
    (hown : s.vm.findClass own = some m.cls) (hlink : (Cond.methodLink own index x).before args s = true) (hdecl : (Cond.declares x).before args s = true) (hface : (Cond.interfaceMethod x.cls x.cls x.name x.desc).before args s = true)
    (hsel : (Cond.selects C x y).before args s = true) (hinst : (Cond.instanceMethod y).before args s = true) (hpub : (Cond.publicMethod y).before args s = true) (hunh : (Cond.unhidden C x.name x.desc).before args s = true)
    (hcast : (Cond.castable C x.cls).before args s = true) (hcode : (Cond.code y bytes maxL ret).before args s = true) (hx : x.cls ≠ "java/lang/invoke/MethodHandle" ∧ x.cls ≠ "java/lang/invoke/VarHandle")
    {W9 : Nat} {Pre : Pt → Array Value → Prop} {Post : Pt → Array Value → Option Value → Pt → Prop} {PostX : Pt → Array Value → Addr → Pt → Prop} (hK : vx_Back l R p e below s args y 5 W9 Pre Post PostX)
    {b : Addr} {cellB : Cell} {kB : Class} (hcell : T.heap[b]? = some cellB) (hobj : cellB.vm.isStatics = false) (hcls : s.vm.findClass C = some cellB.cls) (hkB : s.vm.classes[cellB.cls]? = some kB)
    {g : JFrame} (hg : g.method = m) (hsize : g.locals.size = c.maxLocals) {argsL rest : List Value} (hlen : ∀ sig, parseMethodDescriptor x.desc = some sig → argsL.length = sig.parameters.length)
    (hstack : g.stack = argsL.reverse ++ .ref b :: rest) (hW : 2 * g.monitorRoom + (rest.map fun v => v.category).sum ≤ W9) (hdg : decode c.code g.pc = .ok (.invokeinterface index count, 5))
    (hpre : ∀ vm₁, s.WarmedH vm₁ → Pre ⟨T.setVm vm₁, locs, cells, slots⟩ (Value.ref b :: argsL).toArray) :
    (∃ (v : Option Value) (vm₁ : Vm) (B : Pt), s.WarmedH vm₁ ∧ Stand p l e R s m args below meth c B.U B.locs B.cells B.slots ∧ Post ⟨T.setVm vm₁, locs, cells, slots⟩ (Value.ref b :: argsL).toArray v B ∧
      ∀ target, Steps p.tables e below (B.U.setTop { g with pc := g.pc + 5, stack := v.toList ++ rest }) target → Steps p.tables e below (T.setTop g) target) ∨
    (∃ (q : Addr) (vm₁ : Vm) (B : Pt), s.WarmedH vm₁ ∧ Stand p l e R s m args below meth c B.U B.locs B.cells B.slots ∧ PostX ⟨T.setVm vm₁, locs, cells, slots⟩ (Value.ref b :: argsL).toArray q B ∧
      Steps p.tables e below (T.setTop g) ((B.U.setTop { g with stack := rest }).pushFrame (.throwing q))) := by
  obtain ⟨r0, r, hn, hrm, hstR, hsigR⟩ := Cond.declares_spec hdecl
  obtain ⟨cL, kL, r1, hcL, hkL, hiL, hfoundL, hn1⟩ := Cond.interfaceMethod_spec hface
  cases hn.symm.trans hn1
  have hr0cls : r0.cls = cL := Option.some.inj ((findClass_of_methodNamed hn).symm.trans hcL)
  obtain ⟨hnameR, hdescR⟩ := name_of_methodNamed hn hrm
  obtain ⟨mk, methM, hnamed, hmethM, -, habM⟩ := Cond.instanceMethod_spec hinst
  obtain ⟨c2, r2, m2, q1, q2, q3, q4, -⟩ := Cond.selects_spec hsel
  cases hcls.symm.trans q1
  cases hfoundL.symm.trans q2
  cases hnamed.symm.trans q3
  have hselP : selectMethod e.platform s.vm cellB.cls r0 = .method mk := by rw [Launch.admits_selectMethod X.admits]; exact q4
  have hpubM : hasFlag methM.accessFlags Acc.public_ = true := Cond.publicMethod_spec hnamed hmethM hpub
  have hway : ((cellB.cls :: s.vm.superclasses cellB.cls).any fun k => (declaredIn s.vm r.name r.desc k).any fun (_, z) => z.isPrivate || z.isStatic) = false := by
    rw [hnameR, hdescR]; exact Cond.unhidden_spec hcls hunh
  obtain ⟨c3, t3, w1, w2, w3⟩ := Cond.castable_spec hcast
  cases hcls.symm.trans w1
  cases hcL.symm.trans w2
  obtain ⟨vm₁, X₁, hstep₁⟩ := X.invokeinterface hexec hown hlink hn hrm hstR (by rw [hr0cls]; exact hkL) hiL hx (a := b) (cell := cellB) (kcell := kB) hcell
    (fun z h => by rw [h] at hobj; cases hobj) hkB (by rw [hr0cls]; exact w3) hselP hmethM hway hpubM habM (g := g) hg (argsL := argsL) (rest := rest) (hlen _ hsigR) hstack hdg
  rcases hK m meth c ⟨T.setVm vm₁, locs, cells, slots⟩ { g with stack := rest } (.invokeinterface index count) mk (Value.ref b :: argsL).toArray X₁ hg hsize hdg hW (X₁.named hnamed) (hpre vm₁ X₁.warmed) with ⟨v, B, X', hpost, hsteps⟩ | ⟨q, B, X', hpost, hsteps⟩
  · exact Or.inl ⟨v, vm₁, B, X₁.warmed, X', hpost, fun target h => hstep₁ _ fun acts => by rw [doInvoke_state]; exact hsteps.trans h⟩
  · exact Or.inr ⟨q, vm₁, B, X₁.warmed, X', hpost, hstep₁ _ fun acts => by rw [doInvoke_state]; exact hsteps⟩
theorem vx_runF {x y : MethodName} {bytes cc : ByteArray} {maxL nL mc ms n index count : Nat} {ret : Option FieldType} {ws : List Cond} {rm : Room} {Pc : Array Value → State → Prop} {Qc : Array Value → State → Outcome → State → Prop} {XC : String → State → State → Prop} {free : Addr → Prop} {Ts : List Cond} {own C : String} {cC : ClassId} {b : Addr} {As rest : List Value} {g : JFrame}
    (hat : ClassAt s C cC) (S : CallFix p m c cc nL s args Ts own) (hM : vx_Met l y ws rm Pc Qc XC mc ms free) (cw : va_CI R s args own C index x y bytes maxL ret ws rm mc ms n) (hp : PreV s H C b Pc As)
    (hg : g.method = m) (hn : As.length = n) (hsize : g.locals.size = nL) (hstack : g.stack = As.reverse ++ .ref b :: rest) (hW : 2 * g.monitorRoom + (rest.map fun v => v.category).sum ≤ 8) (hdg : decode cc g.pc = .ok (.invokeinterface index count, 5)) (hf : cells + mc ≤ R.cells ∧ slots + ms ≤ R.slots) :
    vx_Run5 p l e R s m args below meth c H locs cells slots mc ms g rest (Qc (Value.ref b :: As).toArray) XC free := by
  obtain ⟨hrc, hrs, hfr, hlo, hws, hcw⟩ := cw.back
  have hini := cw.init
  have hK : vx_Back l R p e below s args y 5 8 (PreOf R mc ms Pc) (PostOf Qc mc ms free) (vx_Post XC mc ms free) := vx_back (bytes := bytes) (maxL := maxL) (ret := ret) hM hp.1 hrc hrs hfr hlo hws hcw (fun a' U hW => word_at hW (Or.inl (by first | rfl | simp [Cond.onTables, Cond.keeps, Cond.steady])) hini)
  obtain ⟨hx, hb, hml, ho, -⟩ := S
  obtain ⟨-, ⟨cellB, hcB, hoB, hclB⟩, hPc⟩ := hp
  obtain ⟨hfc, kB, hkB, -⟩ := hat
  cases hfc.symm.trans hclB
  intro T hT X
  rcases vx_callIF X hx (C := C) (bytes := bytes) (maxL := maxL) (ret := ret) ho cw.link cw.decl cw.face cw.sel cw.inst cw.pub cw.unh cw.cast cw.code cw.notMH hK (by rw [hT]; exact hcB) hoB hclB hkB hg (hsize.trans hml.symm) (argsL := As) (rest := rest) (fun sig h => hn.trans (cw.len sig h)) hstack hW (by rw [hb]; exact hdg)
    (fun vm₁ hW₁ => ⟨hf.1, hf.2, hPc (T.setVm vm₁) hT hW₁⟩) with ⟨v, vm₁, ⟨U', l2, c2, s2⟩, hW₁, X', ⟨g', mk, t, L, e1, e2, hq, h1, hL, h2, h3⟩, st⟩ | ⟨q, vm₁, ⟨U', l2, c2, s2⟩, hW₁, X', ⟨g', mk, t, L, E, ce, e1, e2, hq, hce, hcv, hcl, h1, hL, h2, h3⟩, st⟩
  · dsimp only [Pt.U, Pt.locs, Pt.cells, Pt.slots] at X' e1 e2 h1 h2 h3 st
    subst h1; subst h2; subst h3
    exact Or.inl ⟨v, (T.setVm vm₁).calling g' mk (Value.ref b :: As).toArray, t, U', L, hT, X', hL, e1, e2, hq, st⟩
  · dsimp only [Pt.U, Pt.locs, Pt.cells, Pt.slots] at X' e1 e2 h1 h2 h3 st hcl
    subst h1; subst h2; subst h3
    exact Or.inr ⟨q, (T.setVm vm₁).calling g' mk (Value.ref b :: As).toArray, t, U', L, E, ce, hT, X', hL, e1, e2, hq, hce, hcv, vx_cls hW₁ hcl, st⟩
end
end
section
/-! ===== contracts over the picture ===== -/
def PreU (G : GT) (ok : KF) (ad : AD) (σ : SG) (U : State) : Prop := Rep G ok ad σ U.heap ∧ Env0 G U U.heap
def QcM (G : GT) (Pv : Option Value → MT → Prop) : Array Value → State → Outcome → State → Prop := fun _ st oc t => (∃ (v : Option Value) (μ : MT), oc = .returned v ∧ Pv v μ ∧ Rep G μ.1 μ.2.1 μ.2.2 t.heap) ∧ va_F (AB G) st t
def XcM (G : GT) (Px : String → MT → Prop) : String → State → State → Prop := fun E st t => (∃ μ : MT, Px E μ ∧ Rep G μ.1 μ.2.1 μ.2.2 t.heap) ∧ va_F (AB G) st t
def Ct (l : Launch) (G : GT) (n : Nat) (y : MethodName) (cc : ByteArray) (nL : Nat) (ret : Option FieldType) (av : List Value) (ok : KF) (ad : AD) (σ : SG) (Pv : Option Value → MT → Prop) (Px : String → MT → Prop) (mc ms : Nat) : Prop :=
  vx_Met l y (Cond.code y cc nL ret :: lw_good) (rmL n mc ms) (va_Pc av (PreU G ok ad σ)) (QcM G Pv) (XcM G Px) mc ms (AB G)
/-- what a method's body owes -/
def Mx (X : XT) (G : GT) (nm : String) (ret : Option FieldType) (Pv : Option Value → MT → Prop) (Px : String → MT → Prop) (mc ms : Nat) : Prop :=
  (xk X).sig.returnType = ret ∧ (xk X).name = nm ∧ (∀ z ∈ (xc X).exceptionTable.toList, False) ∧ xQ X = vx_MQ (xb X) (QcM G Pv) (XcM G Px) (xa X) (xs X) mc ms (AB G)
theorem Ct.mk {l : Launch} {G : GT} {n : Nat} {y : MethodName} {cc : ByteArray} {nL : Nat} {ret : Option FieldType} {av : List Value} {ok : KF} {ad : AD} {σ : SG} {Pv : Option Value → MT → Prop} {Px : String → MT → Prop} {mc ms : Nat}
    (hy : plainName y.cls = true) (hl0 : l.stackTraces = false) (hsz : (lg_sl av).length ≤ nL)
    (body : ∀ X : XT, xl X = l → Cx X G y.cls cc nL n mc ms → Mx X G y.name ret Pv Px mc ms → V X G 0 0 ok ad σ (lv_args 0 av) 0 []) : Ct l G n y cc nL ret av ok ad σ Pv Px mc ms := by
  refine vx_ofW hy rfl ?_
  intro p e s m args below meth c s₁ B hml hex hv
  obtain ⟨rfl, hR, hE⟩ := hv
  have hpre := atoms_spec (ws := Cond.code y cc nL ret :: lw_good) B.pre
  have hX := body (p, l, e, rmL n mc ms, s, m, av.toArray, below, meth, c, vx_MQ below (QcM G Pv) (XcM G Px) av.toArray s mc ms (AB G)) rfl
    ⟨⟨B.exec, B.bytes, hml, findClass_of_methodNamed B.named, fun w h => hpre w (List.mem_cons_of_mem _ h)⟩, ⟨Nat.le_refl _, Nat.le_refl _, rfl, rfl⟩, hE, B.notSynchronized, hl0⟩
    ⟨B.returns, (name_of_methodNamed B.named B.method).1, hex, rfl⟩
  have hl := lv_entry av hsz
  rw [lg_entry_eq]
  exact hX s.heap [] _ hR va_S.rf (by show lv_has _ c.maxLocals _; rw [hml]; exact hl)
section RETS
variable {X : XT} {G : GT} {own nm : String} {cc : ByteArray} {nL n mc ms : Nat} {kc ks : Nat} {ok : KF} {ad : AD} {σ : SG} {l : List (Nat × Value)} {pc : Nat} {Pv : Option Value → MT → Prop} {Px : String → MT → Prop}
theorem Mx.ret {r : Option FieldType} (h : Mx X G nm r Pv Px mc ms) : (xk X).sig.returnType = r := h.1
theorem Mx.Q {r : Option FieldType} (h : Mx X G nm r Pv Px mc ms) : xQ X = vx_MQ (xb X) (QcM G Pv) (XcM G Px) (xa X) (xs X) mc ms (AB G) := h.2.2.2
theorem v_iret {x : Int32} (hC : Cx X G own cc nL n mc ms) (hM : Mx X G nm (some .int) Pv Px mc ms) (d : decode cc pc = .ok (.ireturn, 1)) (hk : kc ≤ mc) (hs : ks ≤ ms) (hP : Pv (some (.int x)) (ok, ad, σ)) : V X G kc ks ok ad σ l pc [.int x] := fun H locs ls hR hS hl => by
  rw [hM.Q]
  exact W.widen hk hs (vx_ret (W.iret hC.x hC.b hM.ret (fun t ht hW => ⟨⟨_, (ok, ad, σ), rfl, hP, by rw [ht]; exact hR⟩, hS.F ht⟩) hS.2.2 d hC.locks))
theorem v_zret {x : Int32} {ty : FieldType} (hC : Cx X G own cc nL n mc ms) (hM : Mx X G nm (some ty) Pv Px mc ms) (d : decode cc pc = .ok (.ireturn, 1)) (hn : narrow ty (.int x) = .int x) (hk : kc ≤ mc) (hs : ks ≤ ms) (hP : Pv (some (.int x)) (ok, ad, σ)) : V X G kc ks ok ad σ l pc [.int x] := fun H locs ls hR hS hl => by
  rw [hM.Q]
  exact W.widen hk hs (vx_ret (W.zret hC.x hC.b hM.ret hn (fun t ht hW => ⟨⟨_, (ok, ad, σ), rfl, hP, by rw [ht]; exact hR⟩, hS.F ht⟩) hS.2.2 d hC.locks))
theorem v_vret (hC : Cx X G own cc nL n mc ms) (hM : Mx X G nm none Pv Px mc ms) (d : decode cc pc = .ok (.return_, 1)) (hk : kc ≤ mc) (hs : ks ≤ ms) (hP : Pv none (ok, ad, σ)) : V X G kc ks ok ad σ l pc [] := fun H locs ls hR hS hl => by
  rw [hM.Q]
  exact W.widen hk hs (vx_ret (W.vret hC.x hC.b hM.ret (fun t ht hW => ⟨⟨_, (ok, ad, σ), rfl, hP, by rw [ht]; exact hR⟩, hS.F ht⟩) hS.2.2 d hC.locks))
theorem v_lret {x : Int64} (hC : Cx X G own cc nL n mc ms) (hM : Mx X G nm (some .long) Pv Px mc ms) (d : decode cc pc = .ok (.lreturn, 1)) (hk : kc ≤ mc) (hs : ks ≤ ms) (hP : Pv (some (.long x)) (ok, ad, σ)) : V X G kc ks ok ad σ l pc [.long x] := fun H locs ls hR hS hl => by
  rw [hM.Q]
  exact W.widen hk hs (vx_ret (W.lret hC.x hC.b hM.ret (fun t ht hW => ⟨⟨_, (ok, ad, σ), rfl, hP, by rw [ht]; exact hR⟩, hS.F ht⟩) hS.2.2 d hC.locks))
theorem v_fret {x : UInt32} (hC : Cx X G own cc nL n mc ms) (hM : Mx X G nm (some .float) Pv Px mc ms) (d : decode cc pc = .ok (.freturn, 1)) (hk : kc ≤ mc) (hs : ks ≤ ms) (hP : Pv (some (.float x)) (ok, ad, σ)) : V X G kc ks ok ad σ l pc [.float x] := fun H locs ls hR hS hl => by
  rw [hM.Q]
  exact W.widen hk hs (vx_ret (W.fret hC.x hC.b hM.ret (fun t ht hW => ⟨⟨_, (ok, ad, σ), rfl, hP, by rw [ht]; exact hR⟩, hS.F ht⟩) hS.2.2 d hC.locks))
theorem v_dret {x : UInt64} (hC : Cx X G own cc nL n mc ms) (hM : Mx X G nm (some .double) Pv Px mc ms) (d : decode cc pc = .ok (.dreturn, 1)) (hk : kc ≤ mc) (hs : ks ≤ ms) (hP : Pv (some (.double x)) (ok, ad, σ)) : V X G kc ks ok ad σ l pc [.double x] := fun H locs ls hR hS hl => by
  rw [hM.Q]
  exact W.widen hk hs (vx_ret (W.dret hC.x hC.b hM.ret (fun t ht hW => ⟨⟨_, (ok, ad, σ), rfl, hP, by rw [ht]; exact hR⟩, hS.F ht⟩) hS.2.2 d hC.locks))
theorem v_aret {v : Value} {rt : FieldType} (hC : Cx X G own cc nL n mc ms) (hM : Mx X G nm (some rt) Pv Px mc ms) (d : decode cc pc = .ok (.areturn, 1)) (hrt : (∃ n, rt = .object n) ∨ ∃ t, rt = .array t) (hv : v = .null ∨ ∃ a, v = .ref a) (hk : kc ≤ mc) (hs : ks ≤ ms) (hP : Pv (some v) (ok, ad, σ)) : V X G kc ks ok ad σ l pc [v] := fun H locs ls hR hS hl => by
  rw [hM.Q]
  exact W.widen hk hs (vx_ret (W.aret hC.x hC.b hM.ret hrt hv (fun t ht hW => ⟨⟨_, (ok, ad, σ), rfl, hP, by rw [ht]; exact hR⟩, hS.F ht⟩) hS.2.2 d hC.locks))
/-- a thing thrown leaves the method -/
theorem v_out {r : Option FieldType} {E : String} {st : List Value} (hC : Cx X G own cc nL n mc ms) (hM : Mx X G nm r Pv Px mc ms) (hk : kc ≤ mc) (hs : ks ≤ ms) (hP : Px E (ok, ad, σ)) : VX X G kc ks ok ad σ l pc E st := fun H locs ls q ce hR hS hl hq hv hcl => by
  rw [hM.Q]
  exact vx_out (fun z hz => (hM.2.2.1 z hz).elim) hC.locks hq hv hcl (fun t ht hW => ⟨⟨(ok, ad, σ), hP, by rw [ht]; exact hR⟩, hS.F ht⟩) hS.2.2 hk hs
end RETS
/-! ===== calls ===== -/
theorem pc_blind {av : List Value} {G : GT} {ok : KF} {ad : AD} {σ : SG} : FrameBlind (va_Pc av (PreU G ok ad σ)) := fun a U g mk h => by
  obtain ⟨h1, h2, h3, h4, h5⟩ := h
  refine ⟨h1, h2, va_K.moved (u := U) (U := U.calling g mk a) (Vm.Alike.refl U.vm) h3, ?_, h5⟩
  obtain ⟨g1, g2, g3, g4, g5, g6, g7⟩ := h4
  exact ⟨⟨fun w hw => va_Nw.same (u := U) (U := U.calling g mk a) (ng_tables (List.mem_filter.mp hw).2) rfl (g1.1 w hw), fun t ht => AOt.moved (u := U) (U := U.calling g mk a) (Vm.Alike.refl U.vm) (g1.2 t ht)⟩, fun q hq => by
    obtain ⟨b, hb⟩ := g2 q hq
    exact ⟨b, vk_R.same (u := U) (U := U.calling g mk a) rfl hb⟩, vx_Zq.moved (u := U) (U := U.calling g mk a) (Vm.Alike.refl U.vm) g3, vx_Zq.moved (u := U) (U := U.calling g mk a) (Vm.Alike.refl U.vm) g4, va_Z.moved (u := U) (U := U.calling g mk a) (Vm.Alike.refl U.vm) g5, g6, va_Mi.moved (u := U) (U := U.calling g mk a) (Vm.Alike.refl U.vm) g7⟩
section CALLS
variable {X : XT} {G : GT} {own nm : String} {cc : ByteArray} {nL n mc ms : Nat} {kc ks : Nat} {ok : KF} {ad : AD} {σ : SG} {l : List (Nat × Value)} {pc : Nat} {st0 rest As : List Value}
variable {y : MethodName} {bytes : ByteArray} {nL1 n1 mc1 ms1 ix : Nat} {ret : Option FieldType} {Pv : Option Value → MT → Prop} {Px : String → MT → Prop}
theorem v_run {a : Array Value} (hr : ∀ (H : Heap) (locs : List Loc) (ls : Array Slot), Rep G ok ad σ H → va_S (AB G) (xs X).heap H locs → lv_has ls (xc X).maxLocals l → vx_Run (xp X) (xl X) (xe X) (xR X) (xs X) (xm X) (xa X) (xb X) (xk X) (xc X) H locs kc ks mc1 ms1 (F0 (xm X) pc ls st0) rest (QcM G Pv a) (XcM G Px) (AB G))
    (kk : ∀ v μ, Pv v μ → V X G (kc + mc1) (ks + ms1) μ.1 μ.2.1 μ.2.2 l (pc + 3) (v.toList ++ rest)) (kx : ∀ E μ, Px E μ → VX X G (kc + mc1) (ks + ms1) μ.1 μ.2.1 μ.2.2 l pc E rest) : V X G kc ks ok ad σ l pc st0 := fun H locs ls hR hS hl => by
  intro T hT Xs
  rcases hr H locs ls hR hS hl T hT Xs with ⟨v, st₀, t, T', L, h0, X', hL, e1, e2, ⟨⟨v', μ, hv, hp, hrep⟩, hF⟩, st⟩ | ⟨q, st₀, t, T', L, E, ce, h0, X', hL, e1, e2, ⟨⟨μ, hp, hrep⟩, hF⟩, hce, hcv, hcl, st⟩
  · cases hv
    obtain ⟨k1, k2, k3⟩ := vx_keep h0 e1 hS (fun _ _ h => h) (fun _ h => h) hL hF
    obtain ⟨t2, a1, b1⟩ := kk v μ hp T'.heap (locs ++ L) ls (by rw [e1]; exact hrep) k3 hl T' rfl X'
    exact ⟨t2, st t2 a1, b1⟩
  · obtain ⟨k1, k2, k3⟩ := vx_keep h0 e1 hS (fun _ _ h => h) (fun _ h => h) hL hF
    obtain ⟨t2, a1, b1⟩ := kx E μ hp T'.heap (locs ++ L) ls q ce (by rw [e1]; exact hrep) k3 hl (by rw [e1]; exact hce) hcv hcl T' rfl X'
    exact ⟨t2, st.trans a1, b1⟩
/-- the words of a call -/
def LkY (y : MethodName) (np : Nat) : Prop := y.cls ≠ "java/lang/invoke/MethodHandle" ∧ y.cls ≠ "java/lang/invoke/VarHandle" ∧ (parseMethodDescriptor y.desc).map (fun d => d.parameters.length) = some np
def LkV (own : String) (ix : Nat) (y : MethodName) (bytes : ByteArray) (nL1 : Nat) (ret : Option FieldType) (np : Nat) : Prop :=
  (Cond.code y bytes nL1 ret ∈ lw_good ∧ Cond.methodLink own ix y ∈ lw_good ∧ Cond.instanceMethod y ∈ lw_good ∧ Cond.selects y.cls y y ∈ lw_good ∧ Cond.initialized y.cls ∈ lw_good) ∧ LkY y np
def LkVN (own : String) (ix : Nat) (y : MethodName) (host : String) (bytes : ByteArray) (nL1 : Nat) (ret : Option FieldType) (np : Nat) : Prop :=
  (Cond.code y bytes nL1 ret ∈ lw_good ∧ Cond.methodLinkNest own ix y host ∈ lw_ng ∧ Cond.instanceMethod y ∈ lw_good ∧ Cond.selects y.cls y y ∈ lw_good ∧ Cond.initialized y.cls ∈ lw_good) ∧ LkY y np
def LkS (own : String) (ix : Nat) (y : MethodName) (bytes : ByteArray) (nL1 : Nat) (ret : Option FieldType) (np : Nat) : Prop :=
  (Cond.code y bytes nL1 ret ∈ lw_good ∧ Cond.methodLink own ix y ∈ lw_good ∧ Cond.static y ∈ lw_good ∧ Cond.initialized y.cls ∈ lw_good) ∧ LkY y np
def LkI (own : String) (ix : Nat) (y : MethodName) (bytes : ByteArray) (nL1 : Nat) (np : Nat) : Prop :=
  (Cond.code y bytes nL1 none ∈ lw_good ∧ Cond.methodLink own ix y ∈ lw_good ∧ Cond.instanceMethod y ∈ lw_good ∧ Cond.initialized y.cls ∈ lw_good ∧ y.name = "<init>") ∧ LkY y np
def LkIN (own : String) (ix : Nat) (y : MethodName) (host : String) (bytes : ByteArray) (nL1 : Nat) (np : Nat) : Prop :=
  (Cond.code y bytes nL1 none ∈ lw_good ∧ Cond.methodLinkNest own ix y host ∈ lw_ng ∧ Cond.instanceMethod y ∈ lw_good ∧ Cond.initialized y.cls ∈ lw_good ∧ y.name = "<init>") ∧ LkY y np
theorem Cx.fix (hC : Cx X G own cc nL n mc ms) : CallFix (xp X) (xm X) (xc X) cc nL (xs X) (xa X) lw_good own := ⟨hC.x, hC.b, hC.ml, hC.ow, hC.ts⟩
theorem Cx.pre (hC : Cx X G own cc nL n mc ms) {H : Heap} {locs : List Loc} (hR : Rep G ok ad σ H) (hS : va_S (AB G) (xs X).heap H locs) {av : List Value} : PreS (xs X) H (va_Pc av (PreU G ok ad σ)) av :=
  ⟨pc_blind, fun U hU hW => ⟨rfl, by rw [hU]; exact hR, by rw [hU]; exact hC.env hS hW⟩⟩
theorem Cx.rm (hC : Cx X G own cc nL n mc ms) (hn : n1 < n) (hnL : nL1 ≤ 40) : (rmL n1 mc1 ms1).frames + 1 ≤ (xR X).frames ∧ 8 + (nL1 + 11) + (rmL n1 mc1 ms1).locals ≤ (xR X).locals := by
  obtain ⟨h1, h2, -, -⟩ := hC.2.1
  exact ⟨by show 10 * n1 + 10 + 1 ≤ _; omega, by show 8 + (nL1 + 11) + (120 * n1 + 150) ≤ _; omega⟩
theorem Cx.cb {np : Nat} (hC : Cx X G own cc nL n mc ms) (hn : n1 < n) (hnL : nL1 ≤ 40) (h1 : Cond.code y bytes nL1 ret ∈ lw_good) (h2 : Cond.methodLink own ix y ∈ lw_good) (h3 : Cond.initialized y.cls ∈ lw_good) (h4 : LkY y np) : CallB (xR X) (xs X) (xa X) own ix y bytes nL1 ret (Cond.code y bytes nL1 ret :: lw_good) (rmL n1 mc1 ms1) mc1 ms1 np :=
  callB_of np hC.ts (gd_good h1) rfl rfl rfl (hC.ts _ h3) (hC.ts _ h2) h4 (hC.rm hn hnL)
theorem Cx.cn {np : Nat} {host : String} (hC : Cx X G own cc nL n mc ms) (hn : n1 < n) (hnL : nL1 ≤ 40) (h1 : Cond.code y bytes nL1 ret ∈ lw_good) (h2 : Cond.methodLinkNest own ix y host ∈ lw_ng) (h3 : Cond.initialized y.cls ∈ lw_good) (h4 : LkY y np) : va_CN (xR X) (xs X) (xa X) own ix y host bytes nL1 ret (Cond.code y bytes nL1 ret :: lw_good) (rmL n1 mc1 ms1) mc1 ms1 np :=
  va_cnB np hC.ts (gd_good h1) rfl rfl rfl (hC.nw h2) (hC.ts _ h3) h4 (hC.rm hn hnL)
theorem Cx.rec (hC : Cx X G own cc nL n mc ms) {k i j ci b : Nat} {fs : List Value} {r : vw_C} (hk : ok k i j) (he : enck G.2.2.1 ad k i j (σ k i j) = .inr (ci, fs)) (hc : CL[ci]? = some r) (hb : b = ad k i j) {H : Heap} (hR : Rep G ok ad σ H) : ∃ cell : Cell, H[b]? = some cell ∧ cell.vm.isStatics = false ∧ (xs X).vm.findClass r.1 = some cell.cls := by
  subst hb
  exact va_recv hC.K (hR.one hk he) (q0 := 0) (ci := ci) (fs := fs) hc rfl
theorem Cx.hf (hC : Cx X G own cc nL n mc ms) (h1 : kc + mc1 ≤ mc) (h2 : ks + ms1 ≤ ms) : kc + mc1 ≤ (xR X).cells ∧ ks + ms1 ≤ (xR X).slots := by
  rw [hC.2.1.2.2.1, hC.2.1.2.2.2]
  exact ⟨h1, h2⟩
theorem v_callV {np k i j ci : Nat} {fs : List Value} {T : u_T} {N : Nat} (hC : Cx X G own cc nL n mc ms) (lk : LkV own ix y bytes nL1 ret np) (d : decode cc pc = .ok (.invokevirtual ix, 3)) (hM : Ct (xl X) G n1 y bytes nL1 ret (.ref (ad k i j) :: As) ok ad σ Pv Px mc1 ms1) (hn : n1 < n) (hnL : nL1 ≤ 40) (hk : ok k i j) (he : enck G.2.2.1 ad k i j (σ k i j) = .inr (ci, fs)) (hc : CL[ci]? = some (y.cls, T, N))
    (hst : st0 = As.reverse ++ .ref (ad k i j) :: rest) (hnp : As.length = np) (hW : (rest.map fun v => v.category).sum ≤ 8) (h1 : kc + mc1 ≤ mc) (h2 : ks + ms1 ≤ ms)
    (kk : ∀ v μ, Pv v μ → V X G (kc + mc1) (ks + ms1) μ.1 μ.2.1 μ.2.2 l (pc + 3) (v.toList ++ rest)) (kx : ∀ E μ, Px E μ → VX X G (kc + mc1) (ks + ms1) μ.1 μ.2.1 μ.2.2 l pc E rest) : V X G kc ks ok ad σ l pc st0 := by
  subst hst
  refine v_run (a := (Value.ref (ad k i j) :: As).toArray) (fun H locs ls hR hS hl => ?_) kk kx
  exact vx_runV (C := y.cls) (b := ad k i j) (As := As) (rest := rest) hC.fix hM ⟨hC.cb hn hnL lk.1.1 lk.1.2.1 lk.1.2.2.2.2 lk.2, hC.ts _ lk.1.2.2.1, hC.ts _ lk.1.2.2.2.1⟩ ⟨pc_blind, hC.rec hk he hc rfl hR, (hC.pre hR hS).2⟩ rfl hnp (by show ls.size = nL; rw [hl.1, hC.ml]) rfl (lv_room hW) d (hC.hf h1 h2)
theorem v_callVN {np k i j ci : Nat} {host : String} {fs : List Value} {T : u_T} {N : Nat} (hC : Cx X G own cc nL n mc ms) (lk : LkVN own ix y host bytes nL1 ret np) (d : decode cc pc = .ok (.invokevirtual ix, 3)) (hM : Ct (xl X) G n1 y bytes nL1 ret (.ref (ad k i j) :: As) ok ad σ Pv Px mc1 ms1) (hn : n1 < n) (hnL : nL1 ≤ 40) (hk : ok k i j) (he : enck G.2.2.1 ad k i j (σ k i j) = .inr (ci, fs)) (hc : CL[ci]? = some (y.cls, T, N))
    (hst : st0 = As.reverse ++ .ref (ad k i j) :: rest) (hnp : As.length = np) (hW : (rest.map fun v => v.category).sum ≤ 8) (h1 : kc + mc1 ≤ mc) (h2 : ks + ms1 ≤ ms)
    (kk : ∀ v μ, Pv v μ → V X G (kc + mc1) (ks + ms1) μ.1 μ.2.1 μ.2.2 l (pc + 3) (v.toList ++ rest)) (kx : ∀ E μ, Px E μ → VX X G (kc + mc1) (ks + ms1) μ.1 μ.2.1 μ.2.2 l pc E rest) : V X G kc ks ok ad σ l pc st0 := by
  subst hst
  refine v_run (a := (Value.ref (ad k i j) :: As).toArray) (fun H locs ls hR hS hl => ?_) kk kx
  exact vx_runVN (C := y.cls) (b := ad k i j) (As := As) (rest := rest) hC.fix hM ⟨hC.cn hn hnL lk.1.1 lk.1.2.1 lk.1.2.2.2.2 lk.2, hC.ts _ lk.1.2.2.1, hC.ts _ lk.1.2.2.2.1⟩ ⟨pc_blind, hC.rec hk he hc rfl hR, (hC.pre hR hS).2⟩ rfl hnp (by show ls.size = nL; rw [hl.1, hC.ml]) rfl (lv_room hW) d (hC.hf h1 h2)
theorem v_callS {np : Nat} (hC : Cx X G own cc nL n mc ms) (lk : LkS own ix y bytes nL1 ret np) (d : decode cc pc = .ok (.invokestatic ix, 3)) (hM : Ct (xl X) G n1 y bytes nL1 ret As ok ad σ Pv Px mc1 ms1) (hn : n1 < n) (hnL : nL1 ≤ 40)
    (hst : st0 = As.reverse ++ rest) (hnp : As.length = np) (hW : (rest.map fun v => v.category).sum ≤ 8) (h1 : kc + mc1 ≤ mc) (h2 : ks + ms1 ≤ ms)
    (kk : ∀ v μ, Pv v μ → V X G (kc + mc1) (ks + ms1) μ.1 μ.2.1 μ.2.2 l (pc + 3) (v.toList ++ rest)) (kx : ∀ E μ, Px E μ → VX X G (kc + mc1) (ks + ms1) μ.1 μ.2.1 μ.2.2 l pc E rest) : V X G kc ks ok ad σ l pc st0 := by
  subst hst
  refine v_run (a := As.toArray) (fun H locs ls hR hS hl => ?_) kk kx
  exact vx_runS (As := As) (rest := rest) hC.fix hM ⟨hC.cb hn hnL lk.1.1 lk.1.2.1 lk.1.2.2.2 lk.2, hC.ts _ lk.1.2.2.1⟩ (hC.pre hR hS) rfl hnp (by show ls.size = nL; rw [hl.1, hC.ml]) rfl (lv_room hW) d (hC.hf h1 h2)
theorem v_callI {np b : Nat} (hC : Cx X G own cc nL n mc ms) (lk : LkI own ix y bytes nL1 np) (d : decode cc pc = .ok (.invokespecial ix, 3)) (hM : Ct (xl X) G n1 y bytes nL1 none (.ref b :: As) ok ad σ Pv Px mc1 ms1) (hn : n1 < n) (hnL : nL1 ≤ 40)
    (hst : st0 = As.reverse ++ .ref b :: rest) (hnp : As.length = np) (hW : (rest.map fun v => v.category).sum ≤ 8) (h1 : kc + mc1 ≤ mc) (h2 : ks + ms1 ≤ ms)
    (kk : ∀ v μ, Pv v μ → V X G (kc + mc1) (ks + ms1) μ.1 μ.2.1 μ.2.2 l (pc + 3) (v.toList ++ rest)) (kx : ∀ E μ, Px E μ → VX X G (kc + mc1) (ks + ms1) μ.1 μ.2.1 μ.2.2 l pc E rest) : V X G kc ks ok ad σ l pc st0 := by
  subst hst
  refine v_run (a := (Value.ref b :: As).toArray) (fun H locs ls hR hS hl => ?_) kk kx
  exact vx_runI (b := b) (As := As) (rest := rest) hC.fix hM ⟨hC.cb hn hnL lk.1.1 lk.1.2.1 lk.1.2.2.2.1 lk.2, lk.1.2.2.2.2, hC.ts _ lk.1.2.2.1⟩ (hC.pre hR hS) rfl hnp (by show ls.size = nL; rw [hl.1, hC.ml]) rfl (lv_room hW) d (hC.hf h1 h2)
theorem v_callIN {np b : Nat} {host : String} (hC : Cx X G own cc nL n mc ms) (lk : LkIN own ix y host bytes nL1 np) (d : decode cc pc = .ok (.invokespecial ix, 3)) (hM : Ct (xl X) G n1 y bytes nL1 none (.ref b :: As) ok ad σ Pv Px mc1 ms1) (hn : n1 < n) (hnL : nL1 ≤ 40)
    (hst : st0 = As.reverse ++ .ref b :: rest) (hnp : As.length = np) (hW : (rest.map fun v => v.category).sum ≤ 8) (h1 : kc + mc1 ≤ mc) (h2 : ks + ms1 ≤ ms)
    (kk : ∀ v μ, Pv v μ → V X G (kc + mc1) (ks + ms1) μ.1 μ.2.1 μ.2.2 l (pc + 3) (v.toList ++ rest)) (kx : ∀ E μ, Px E μ → VX X G (kc + mc1) (ks + ms1) μ.1 μ.2.1 μ.2.2 l pc E rest) : V X G kc ks ok ad σ l pc st0 := by
  subst hst
  refine v_run (a := (Value.ref b :: As).toArray) (fun H locs ls hR hS hl => ?_) kk kx
  exact vx_runIN (b := b) (As := As) (rest := rest) hC.fix hM ⟨hC.cn hn hnL lk.1.1 lk.1.2.1 lk.1.2.2.2.1 lk.2, lk.1.2.2.2.2, hC.ts _ lk.1.2.2.1⟩ (hC.pre hR hS) rfl hnp (by show ls.size = nL; rw [hl.1, hC.ml]) rfl (lv_room hW) d (hC.hf h1 h2)
end CALLS
end
section
theorem i_vc : Claimed_1_1 ∧ Claimed_1_2 := sorry
end
