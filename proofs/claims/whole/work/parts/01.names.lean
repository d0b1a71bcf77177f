-- ===== PART A: goes FIRST, ahead of the names: the tables' words, and 'selects' of the private methods out of them =====
/-- a private method of a class that the tables say can be made, by its rows of tables_1 -/
def lw_okq (q : MethodName × Nat) : Prop := (q.1.cls ≠ "java/lang/invoke/MethodHandle" ∧ q.1.cls ≠ "java/lang/invoke/VarHandle") ∧ Cond.instantiable q.1.cls q.2 ∈ tables_1 ∧ Cond.privateMethod q.1 ∈ tables_1 ∧ Cond.instanceMethod q.1 ∈ tables_1
theorem lw_p0 : lw_okq (⟨"ModeratorsBench", "ruleAt", "(I)LModeratorsBench$Rule;"⟩, 10) := ⟨⟨by decide +kernel, by decide +kernel⟩, List.mem_of_getElem? (i := 21) (by decide +kernel), List.mem_of_getElem? (i := 204) (by decide +kernel), List.mem_of_getElem? (i := 205) (by decide +kernel)⟩
theorem lw_p1 : lw_okq (⟨"java/util/ArrayList", "add", "(Ljava/lang/Object;[Ljava/lang/Object;I)V"⟩, 3) := ⟨⟨by decide +kernel, by decide +kernel⟩, List.mem_of_getElem? (i := 33) (by decide +kernel), List.mem_of_getElem? (i := 266) (by decide +kernel), List.mem_of_getElem? (i := 267) (by decide +kernel)⟩
theorem lw_p2 : lw_okq (⟨"java/util/ArrayList", "grow", "()[Ljava/lang/Object;"⟩, 3) := ⟨⟨by decide +kernel, by decide +kernel⟩, List.mem_of_getElem? (i := 33) (by decide +kernel), List.mem_of_getElem? (i := 270) (by decide +kernel), List.mem_of_getElem? (i := 271) (by decide +kernel)⟩
theorem lw_p3 : lw_okq (⟨"java/util/ArrayList", "grow", "(I)[Ljava/lang/Object;"⟩, 3) := ⟨⟨by decide +kernel, by decide +kernel⟩, List.mem_of_getElem? (i := 33) (by decide +kernel), List.mem_of_getElem? (i := 274) (by decide +kernel), List.mem_of_getElem? (i := 275) (by decide +kernel)⟩
theorem lw_p4 : lw_okq (⟨"ModeratorsBench", "postAt", "(I)LModeratorsBench$Post;"⟩, 10) := ⟨⟨by decide +kernel, by decide +kernel⟩, List.mem_of_getElem? (i := 21) (by decide +kernel), List.mem_of_getElem? (i := 323) (by decide +kernel), List.mem_of_getElem? (i := 324) (by decide +kernel)⟩
theorem lw_p5 : lw_okq (⟨"ModeratorsBench$Post", "caseUnder", "(I)LModeratorsBench$Case;"⟩, 7) := ⟨⟨by decide +kernel, by decide +kernel⟩, List.mem_of_getElem? (i := 228) (by decide +kernel), List.mem_of_getElem? (i := 341) (by decide +kernel), List.mem_of_getElem? (i := 342) (by decide +kernel)⟩
theorem lw_p6 : lw_okq (⟨"ModeratorsBench$Post", "addCase", "(LModeratorsBench$Case;)V"⟩, 7) := ⟨⟨by decide +kernel, by decide +kernel⟩, List.mem_of_getElem? (i := 228) (by decide +kernel), List.mem_of_getElem? (i := 434) (by decide +kernel), List.mem_of_getElem? (i := 435) (by decide +kernel)⟩
theorem lw_p7 : lw_okq (⟨"ModeratorsBench", "judgeAt", "(I)LModeratorsBench$Judge;"⟩, 10) := ⟨⟨by decide +kernel, by decide +kernel⟩, List.mem_of_getElem? (i := 21) (by decide +kernel), List.mem_of_getElem? (i := 442) (by decide +kernel), List.mem_of_getElem? (i := 443) (by decide +kernel)⟩
theorem lw_p8 : lw_okq (⟨"ModeratorsBench$Judge", "isKinOf", "(I)Z"⟩, 8) := ⟨⟨by decide +kernel, by decide +kernel⟩, List.mem_of_getElem? (i := 120) (by decide +kernel), List.mem_of_getElem? (i := 450) (by decide +kernel), List.mem_of_getElem? (i := 451) (by decide +kernel)⟩
theorem lw_p9 : lw_okq (⟨"ModeratorsBench$Judge", "setKin", "(IZ)V"⟩, 8) := ⟨⟨by decide +kernel, by decide +kernel⟩, List.mem_of_getElem? (i := 120) (by decide +kernel), List.mem_of_getElem? (i := 457) (by decide +kernel), List.mem_of_getElem? (i := 458) (by decide +kernel)⟩
theorem lw_p10 : lw_okq (⟨"ModeratorsBench", "layToRest", "(LModeratorsBench$Judge;)V"⟩, 10) := ⟨⟨by decide +kernel, by decide +kernel⟩, List.mem_of_getElem? (i := 21) (by decide +kernel), List.mem_of_getElem? (i := 466) (by decide +kernel), List.mem_of_getElem? (i := 467) (by decide +kernel)⟩
theorem lw_p11 : lw_okq (⟨"ModeratorsBench", "takeBack", "(I)V"⟩, 10) := ⟨⟨by decide +kernel, by decide +kernel⟩, List.mem_of_getElem? (i := 21) (by decide +kernel), List.mem_of_getElem? (i := 471) (by decide +kernel), List.mem_of_getElem? (i := 472) (by decide +kernel)⟩
theorem lw_p12 : lw_okq (⟨"java/util/ArrayList", "fastRemove", "([Ljava/lang/Object;I)V"⟩, 3) := ⟨⟨by decide +kernel, by decide +kernel⟩, List.mem_of_getElem? (i := 33) (by decide +kernel), List.mem_of_getElem? (i := 479) (by decide +kernel), List.mem_of_getElem? (i := 480) (by decide +kernel)⟩
theorem lw_p13 : lw_okq (⟨"ModeratorsBench", "nextFor", "(LModeratorsBench$Judge;)LModeratorsBench$Case;"⟩, 10) := ⟨⟨by decide +kernel, by decide +kernel⟩, List.mem_of_getElem? (i := 21) (by decide +kernel), List.mem_of_getElem? (i := 488) (by decide +kernel), List.mem_of_getElem? (i := 489) (by decide +kernel)⟩
theorem lw_p14 : lw_okq (⟨"ModeratorsBench$Case", "isUndecided", "()Z"⟩, 12) := ⟨⟨by decide +kernel, by decide +kernel⟩, List.mem_of_getElem? (i := 345) (by decide +kernel), List.mem_of_getElem? (i := 495) (by decide +kernel), List.mem_of_getElem? (i := 496) (by decide +kernel)⟩
theorem lw_p15 : lw_okq (⟨"ModeratorsBench$Case", "wantsJudges", "()Z"⟩, 12) := ⟨⟨by decide +kernel, by decide +kernel⟩, List.mem_of_getElem? (i := 345) (by decide +kernel), List.mem_of_getElem? (i := 499) (by decide +kernel), List.mem_of_getElem? (i := 500) (by decide +kernel)⟩
def lw_privs_1 : List (MethodName × Nat) := [(⟨"ModeratorsBench", "ruleAt", "(I)LModeratorsBench$Rule;"⟩, 10), (⟨"java/util/ArrayList", "add", "(Ljava/lang/Object;[Ljava/lang/Object;I)V"⟩, 3), (⟨"java/util/ArrayList", "grow", "()[Ljava/lang/Object;"⟩, 3), (⟨"java/util/ArrayList", "grow", "(I)[Ljava/lang/Object;"⟩, 3), (⟨"ModeratorsBench", "postAt", "(I)LModeratorsBench$Post;"⟩, 10), (⟨"ModeratorsBench$Post", "caseUnder", "(I)LModeratorsBench$Case;"⟩, 7), (⟨"ModeratorsBench$Post", "addCase", "(LModeratorsBench$Case;)V"⟩, 7), (⟨"ModeratorsBench", "judgeAt", "(I)LModeratorsBench$Judge;"⟩, 10), (⟨"ModeratorsBench$Judge", "isKinOf", "(I)Z"⟩, 8), (⟨"ModeratorsBench$Judge", "setKin", "(IZ)V"⟩, 8), (⟨"ModeratorsBench", "layToRest", "(LModeratorsBench$Judge;)V"⟩, 10), (⟨"ModeratorsBench", "takeBack", "(I)V"⟩, 10), (⟨"java/util/ArrayList", "fastRemove", "([Ljava/lang/Object;I)V"⟩, 3), (⟨"ModeratorsBench", "nextFor", "(LModeratorsBench$Judge;)LModeratorsBench$Case;"⟩, 10), (⟨"ModeratorsBench$Case", "isUndecided", "()Z"⟩, 12), (⟨"ModeratorsBench$Case", "wantsJudges", "()Z"⟩, 12)]
theorem lw_r1 : ∀ q ∈ lw_privs_1, lw_okq q := List.forall_mem_cons.mpr ⟨lw_p0, List.forall_mem_cons.mpr ⟨lw_p1, List.forall_mem_cons.mpr ⟨lw_p2, List.forall_mem_cons.mpr ⟨lw_p3, List.forall_mem_cons.mpr ⟨lw_p4, List.forall_mem_cons.mpr ⟨lw_p5, List.forall_mem_cons.mpr ⟨lw_p6, List.forall_mem_cons.mpr ⟨lw_p7, List.forall_mem_cons.mpr ⟨lw_p8, List.forall_mem_cons.mpr ⟨lw_p9, List.forall_mem_cons.mpr ⟨lw_p10, List.forall_mem_cons.mpr ⟨lw_p11, List.forall_mem_cons.mpr ⟨lw_p12, List.forall_mem_cons.mpr ⟨lw_p13, List.forall_mem_cons.mpr ⟨lw_p14, List.forall_mem_cons.mpr ⟨lw_p15, fun _ h => absurd h List.not_mem_nil⟩⟩⟩⟩⟩⟩⟩⟩⟩⟩⟩⟩⟩⟩⟩⟩
theorem lw_p16 : lw_okq (⟨"ModeratorsBench$Case", "hearing", "()LModeratorsBench$Hearing;"⟩, 12) := ⟨⟨by decide +kernel, by decide +kernel⟩, List.mem_of_getElem? (i := 345) (by decide +kernel), List.mem_of_getElem? (i := 503) (by decide +kernel), List.mem_of_getElem? (i := 504) (by decide +kernel)⟩
theorem lw_p17 : lw_okq (⟨"ModeratorsBench$Hearing", "votes", "()I"⟩, 7) := ⟨⟨by decide +kernel, by decide +kernel⟩, List.mem_of_getElem? (i := 351) (by decide +kernel), List.mem_of_getElem? (i := 507) (by decide +kernel), List.mem_of_getElem? (i := 508) (by decide +kernel)⟩
theorem lw_p18 : lw_okq (⟨"ModeratorsBench$Case", "giftsOut", "()I"⟩, 12) := ⟨⟨by decide +kernel, by decide +kernel⟩, List.mem_of_getElem? (i := 345) (by decide +kernel), List.mem_of_getElem? (i := 517) (by decide +kernel), List.mem_of_getElem? (i := 518) (by decide +kernel)⟩
theorem lw_p19 : lw_okq (⟨"ModeratorsBench$Judge", "isFree", "()Z"⟩, 8) := ⟨⟨by decide +kernel, by decide +kernel⟩, List.mem_of_getElem? (i := 120) (by decide +kernel), List.mem_of_getElem? (i := 522) (by decide +kernel), List.mem_of_getElem? (i := 523) (by decide +kernel)⟩
theorem lw_p20 : lw_okq (⟨"ModeratorsBench$Judge", "isSkilledIn", "(I)Z"⟩, 8) := ⟨⟨by decide +kernel, by decide +kernel⟩, List.mem_of_getElem? (i := 120) (by decide +kernel), List.mem_of_getElem? (i := 526) (by decide +kernel), List.mem_of_getElem? (i := 527) (by decide +kernel)⟩
theorem lw_p21 : lw_okq (⟨"ModeratorsBench$Case", "isHeldBy", "(LModeratorsBench$Judge;)Z"⟩, 12) := ⟨⟨by decide +kernel, by decide +kernel⟩, List.mem_of_getElem? (i := 345) (by decide +kernel), List.mem_of_getElem? (i := 530) (by decide +kernel), List.mem_of_getElem? (i := 531) (by decide +kernel)⟩
theorem lw_p22 : lw_okq (⟨"ModeratorsBench$Case", "hasVoteOf", "(LModeratorsBench$Judge;)Z"⟩, 12) := ⟨⟨by decide +kernel, by decide +kernel⟩, List.mem_of_getElem? (i := 345) (by decide +kernel), List.mem_of_getElem? (i := 534) (by decide +kernel), List.mem_of_getElem? (i := 535) (by decide +kernel)⟩
theorem lw_p23 : lw_okq (⟨"ModeratorsBench$Hearing", "hasVoter", "(LModeratorsBench$Judge;)Z"⟩, 7) := ⟨⟨by decide +kernel, by decide +kernel⟩, List.mem_of_getElem? (i := 351) (by decide +kernel), List.mem_of_getElem? (i := 538) (by decide +kernel), List.mem_of_getElem? (i := 539) (by decide +kernel)⟩
theorem lw_p24 : lw_okq (⟨"ModeratorsBench", "caseAt", "(I)LModeratorsBench$Case;"⟩, 10) := ⟨⟨by decide +kernel, by decide +kernel⟩, List.mem_of_getElem? (i := 21) (by decide +kernel), List.mem_of_getElem? (i := 568) (by decide +kernel), List.mem_of_getElem? (i := 569) (by decide +kernel)⟩
theorem lw_p25 : lw_okq (⟨"ModeratorsBench", "giftOf", "(LModeratorsBench$Judge;LModeratorsBench$Case;)I"⟩, 10) := ⟨⟨by decide +kernel, by decide +kernel⟩, List.mem_of_getElem? (i := 21) (by decide +kernel), List.mem_of_getElem? (i := 572) (by decide +kernel), List.mem_of_getElem? (i := 573) (by decide +kernel)⟩
theorem lw_p26 : lw_okq (⟨"ModeratorsBench$Hearing", "cast", "(LModeratorsBench$Judge;Z)V"⟩, 7) := ⟨⟨by decide +kernel, by decide +kernel⟩, List.mem_of_getElem? (i := 351) (by decide +kernel), List.mem_of_getElem? (i := 577) (by decide +kernel), List.mem_of_getElem? (i := 578) (by decide +kernel)⟩
theorem lw_p27 : lw_okq (⟨"ModeratorsBench", "settle", "(LModeratorsBench$Case;)V"⟩, 10) := ⟨⟨by decide +kernel, by decide +kernel⟩, List.mem_of_getElem? (i := 21) (by decide +kernel), List.mem_of_getElem? (i := 581) (by decide +kernel), List.mem_of_getElem? (i := 582) (by decide +kernel)⟩
theorem lw_p28 : lw_okq (⟨"ModeratorsBench$Hearing", "isAgreed", "()Z"⟩, 7) := ⟨⟨by decide +kernel, by decide +kernel⟩, List.mem_of_getElem? (i := 351) (by decide +kernel), List.mem_of_getElem? (i := 586) (by decide +kernel), List.mem_of_getElem? (i := 587) (by decide +kernel)⟩
theorem lw_p29 : lw_okq (⟨"ModeratorsBench$Hearing", "mayAskMore", "()Z"⟩, 7) := ⟨⟨by decide +kernel, by decide +kernel⟩, List.mem_of_getElem? (i := 351) (by decide +kernel), List.mem_of_getElem? (i := 590) (by decide +kernel), List.mem_of_getElem? (i := 591) (by decide +kernel)⟩
theorem lw_p30 : lw_okq (⟨"ModeratorsBench$Hearing", "askMore", "()V"⟩, 7) := ⟨⟨by decide +kernel, by decide +kernel⟩, List.mem_of_getElem? (i := 351) (by decide +kernel), List.mem_of_getElem? (i := 594) (by decide +kernel), List.mem_of_getElem? (i := 595) (by decide +kernel)⟩
theorem lw_p31 : lw_okq (⟨"ModeratorsBench$Case", "close", "()V"⟩, 12) := ⟨⟨by decide +kernel, by decide +kernel⟩, List.mem_of_getElem? (i := 345) (by decide +kernel), List.mem_of_getElem? (i := 598) (by decide +kernel), List.mem_of_getElem? (i := 599) (by decide +kernel)⟩
def lw_privs_2 : List (MethodName × Nat) := [(⟨"ModeratorsBench$Case", "hearing", "()LModeratorsBench$Hearing;"⟩, 12), (⟨"ModeratorsBench$Hearing", "votes", "()I"⟩, 7), (⟨"ModeratorsBench$Case", "giftsOut", "()I"⟩, 12), (⟨"ModeratorsBench$Judge", "isFree", "()Z"⟩, 8), (⟨"ModeratorsBench$Judge", "isSkilledIn", "(I)Z"⟩, 8), (⟨"ModeratorsBench$Case", "isHeldBy", "(LModeratorsBench$Judge;)Z"⟩, 12), (⟨"ModeratorsBench$Case", "hasVoteOf", "(LModeratorsBench$Judge;)Z"⟩, 12), (⟨"ModeratorsBench$Hearing", "hasVoter", "(LModeratorsBench$Judge;)Z"⟩, 7), (⟨"ModeratorsBench", "caseAt", "(I)LModeratorsBench$Case;"⟩, 10), (⟨"ModeratorsBench", "giftOf", "(LModeratorsBench$Judge;LModeratorsBench$Case;)I"⟩, 10), (⟨"ModeratorsBench$Hearing", "cast", "(LModeratorsBench$Judge;Z)V"⟩, 7), (⟨"ModeratorsBench", "settle", "(LModeratorsBench$Case;)V"⟩, 10), (⟨"ModeratorsBench$Hearing", "isAgreed", "()Z"⟩, 7), (⟨"ModeratorsBench$Hearing", "mayAskMore", "()Z"⟩, 7), (⟨"ModeratorsBench$Hearing", "askMore", "()V"⟩, 7), (⟨"ModeratorsBench$Case", "close", "()V"⟩, 12)]
theorem lw_r2 : ∀ q ∈ lw_privs_2, lw_okq q := List.forall_mem_cons.mpr ⟨lw_p16, List.forall_mem_cons.mpr ⟨lw_p17, List.forall_mem_cons.mpr ⟨lw_p18, List.forall_mem_cons.mpr ⟨lw_p19, List.forall_mem_cons.mpr ⟨lw_p20, List.forall_mem_cons.mpr ⟨lw_p21, List.forall_mem_cons.mpr ⟨lw_p22, List.forall_mem_cons.mpr ⟨lw_p23, List.forall_mem_cons.mpr ⟨lw_p24, List.forall_mem_cons.mpr ⟨lw_p25, List.forall_mem_cons.mpr ⟨lw_p26, List.forall_mem_cons.mpr ⟨lw_p27, List.forall_mem_cons.mpr ⟨lw_p28, List.forall_mem_cons.mpr ⟨lw_p29, List.forall_mem_cons.mpr ⟨lw_p30, List.forall_mem_cons.mpr ⟨lw_p31, fun _ h => absurd h List.not_mem_nil⟩⟩⟩⟩⟩⟩⟩⟩⟩⟩⟩⟩⟩⟩⟩⟩
theorem lw_p32 : lw_okq (⟨"ModeratorsBench$Hearing", "findsGuilty", "()Z"⟩, 7) := ⟨⟨by decide +kernel, by decide +kernel⟩, List.mem_of_getElem? (i := 351) (by decide +kernel), List.mem_of_getElem? (i := 602) (by decide +kernel), List.mem_of_getElem? (i := 603) (by decide +kernel)⟩
theorem lw_p33 : lw_okq (⟨"ModeratorsBench", "restDoubtedJudges", "()V"⟩, 10) := ⟨⟨by decide +kernel, by decide +kernel⟩, List.mem_of_getElem? (i := 21) (by decide +kernel), List.mem_of_getElem? (i := 606) (by decide +kernel), List.mem_of_getElem? (i := 607) (by decide +kernel)⟩
theorem lw_p34 : lw_okq (⟨"ModeratorsBench", "askedOf", "(LModeratorsBench$Judge;)I"⟩, 10) := ⟨⟨by decide +kernel, by decide +kernel⟩, List.mem_of_getElem? (i := 21) (by decide +kernel), List.mem_of_getElem? (i := 610) (by decide +kernel), List.mem_of_getElem? (i := 611) (by decide +kernel)⟩
theorem lw_p35 : lw_okq (⟨"ModeratorsBench$Case", "standOf", "(LModeratorsBench$Judge;)I"⟩, 12) := ⟨⟨by decide +kernel, by decide +kernel⟩, List.mem_of_getElem? (i := 345) (by decide +kernel), List.mem_of_getElem? (i := 614) (by decide +kernel), List.mem_of_getElem? (i := 615) (by decide +kernel)⟩
theorem lw_p36 : lw_okq (⟨"ModeratorsBench$Hearing", "standAgainst", "(LModeratorsBench$Judge;I)I"⟩, 7) := ⟨⟨by decide +kernel, by decide +kernel⟩, List.mem_of_getElem? (i := 351) (by decide +kernel), List.mem_of_getElem? (i := 618) (by decide +kernel), List.mem_of_getElem? (i := 619) (by decide +kernel)⟩
theorem lw_p37 : lw_okq (⟨"ModeratorsBench", "stoodAlone", "(LModeratorsBench$Judge;)I"⟩, 10) := ⟨⟨by decide +kernel, by decide +kernel⟩, List.mem_of_getElem? (i := 21) (by decide +kernel), List.mem_of_getElem? (i := 624) (by decide +kernel), List.mem_of_getElem? (i := 625) (by decide +kernel)⟩
theorem lw_p38 : lw_okq (⟨"ModeratorsBench", "lateBy", "(LModeratorsBench$Case;)I"⟩, 10) := ⟨⟨by decide +kernel, by decide +kernel⟩, List.mem_of_getElem? (i := 21) (by decide +kernel), List.mem_of_getElem? (i := 641) (by decide +kernel), List.mem_of_getElem? (i := 642) (by decide +kernel)⟩
theorem lw_p39 : lw_okq (⟨"ModeratorsBench$Case", "timesJudged", "()I"⟩, 12) := ⟨⟨by decide +kernel, by decide +kernel⟩, List.mem_of_getElem? (i := 345) (by decide +kernel), List.mem_of_getElem? (i := 646) (by decide +kernel), List.mem_of_getElem? (i := 647) (by decide +kernel)⟩
theorem lw_p40 : lw_okq (⟨"ModeratorsBench$Case", "latestJudgement", "()LModeratorsBench$Hearing;"⟩, 12) := ⟨⟨by decide +kernel, by decide +kernel⟩, List.mem_of_getElem? (i := 345) (by decide +kernel), List.mem_of_getElem? (i := 655) (by decide +kernel), List.mem_of_getElem? (i := 656) (by decide +kernel)⟩
theorem lw_p41 : lw_okq (⟨"ModeratorsBench$Case", "hearAgain", "(I)V"⟩, 12) := ⟨⟨by decide +kernel, by decide +kernel⟩, List.mem_of_getElem? (i := 345) (by decide +kernel), List.mem_of_getElem? (i := 663) (by decide +kernel), List.mem_of_getElem? (i := 664) (by decide +kernel)⟩
theorem lw_p42 : lw_okq (⟨"ModeratorsBench", "alike", "(LModeratorsBench$Case;IZ)I"⟩, 10) := ⟨⟨by decide +kernel, by decide +kernel⟩, List.mem_of_getElem? (i := 21) (by decide +kernel), List.mem_of_getElem? (i := 680) (by decide +kernel), List.mem_of_getElem? (i := 681) (by decide +kernel)⟩
theorem lw_p43 : lw_okq (⟨"ModeratorsBench$Case", "isAlike", "(LModeratorsBench$Case;I)Z"⟩, 12) := ⟨⟨by decide +kernel, by decide +kernel⟩, List.mem_of_getElem? (i := 345) (by decide +kernel), List.mem_of_getElem? (i := 684) (by decide +kernel), List.mem_of_getElem? (i := 685) (by decide +kernel)⟩
theorem lw_p44 : lw_okq (⟨"ModeratorsBench$Case", "guiltStands", "()Z"⟩, 12) := ⟨⟨by decide +kernel, by decide +kernel⟩, List.mem_of_getElem? (i := 345) (by decide +kernel), List.mem_of_getElem? (i := 689) (by decide +kernel), List.mem_of_getElem? (i := 690) (by decide +kernel)⟩
theorem lw_p45 : lw_okq (⟨"ModeratorsBench", "climbLadder", "(ILModeratorsBench$Case;)V"⟩, 10) := ⟨⟨by decide +kernel, by decide +kernel⟩, List.mem_of_getElem? (i := 21) (by decide +kernel), List.mem_of_getElem? (i := 702) (by decide +kernel), List.mem_of_getElem? (i := 703) (by decide +kernel)⟩
theorem lw_p46 : lw_okq (⟨"ModeratorsBench$Ladder", "restart", "()V"⟩, 8) := ⟨⟨by decide +kernel, by decide +kernel⟩, List.mem_of_getElem? (i := 59) (by decide +kernel), List.mem_of_getElem? (i := 706) (by decide +kernel), List.mem_of_getElem? (i := 707) (by decide +kernel)⟩
theorem lw_p47 : lw_okq (⟨"ModeratorsBench$Case", "bringsStrike", "()Z"⟩, 12) := ⟨⟨by decide +kernel, by decide +kernel⟩, List.mem_of_getElem? (i := 345) (by decide +kernel), List.mem_of_getElem? (i := 710) (by decide +kernel), List.mem_of_getElem? (i := 711) (by decide +kernel)⟩
def lw_privs_3 : List (MethodName × Nat) := [(⟨"ModeratorsBench$Hearing", "findsGuilty", "()Z"⟩, 7), (⟨"ModeratorsBench", "restDoubtedJudges", "()V"⟩, 10), (⟨"ModeratorsBench", "askedOf", "(LModeratorsBench$Judge;)I"⟩, 10), (⟨"ModeratorsBench$Case", "standOf", "(LModeratorsBench$Judge;)I"⟩, 12), (⟨"ModeratorsBench$Hearing", "standAgainst", "(LModeratorsBench$Judge;I)I"⟩, 7), (⟨"ModeratorsBench", "stoodAlone", "(LModeratorsBench$Judge;)I"⟩, 10), (⟨"ModeratorsBench", "lateBy", "(LModeratorsBench$Case;)I"⟩, 10), (⟨"ModeratorsBench$Case", "timesJudged", "()I"⟩, 12), (⟨"ModeratorsBench$Case", "latestJudgement", "()LModeratorsBench$Hearing;"⟩, 12), (⟨"ModeratorsBench$Case", "hearAgain", "(I)V"⟩, 12), (⟨"ModeratorsBench", "alike", "(LModeratorsBench$Case;IZ)I"⟩, 10), (⟨"ModeratorsBench$Case", "isAlike", "(LModeratorsBench$Case;I)Z"⟩, 12), (⟨"ModeratorsBench$Case", "guiltStands", "()Z"⟩, 12), (⟨"ModeratorsBench", "climbLadder", "(ILModeratorsBench$Case;)V"⟩, 10), (⟨"ModeratorsBench$Ladder", "restart", "()V"⟩, 8), (⟨"ModeratorsBench$Case", "bringsStrike", "()Z"⟩, 12)]
theorem lw_r3 : ∀ q ∈ lw_privs_3, lw_okq q := List.forall_mem_cons.mpr ⟨lw_p32, List.forall_mem_cons.mpr ⟨lw_p33, List.forall_mem_cons.mpr ⟨lw_p34, List.forall_mem_cons.mpr ⟨lw_p35, List.forall_mem_cons.mpr ⟨lw_p36, List.forall_mem_cons.mpr ⟨lw_p37, List.forall_mem_cons.mpr ⟨lw_p38, List.forall_mem_cons.mpr ⟨lw_p39, List.forall_mem_cons.mpr ⟨lw_p40, List.forall_mem_cons.mpr ⟨lw_p41, List.forall_mem_cons.mpr ⟨lw_p42, List.forall_mem_cons.mpr ⟨lw_p43, List.forall_mem_cons.mpr ⟨lw_p44, List.forall_mem_cons.mpr ⟨lw_p45, List.forall_mem_cons.mpr ⟨lw_p46, List.forall_mem_cons.mpr ⟨lw_p47, fun _ h => absurd h List.not_mem_nil⟩⟩⟩⟩⟩⟩⟩⟩⟩⟩⟩⟩⟩⟩⟩⟩
theorem lw_p48 : lw_okq (⟨"ModeratorsBench$Ladder", "climb", "(II)V"⟩, 8) := ⟨⟨by decide +kernel, by decide +kernel⟩, List.mem_of_getElem? (i := 59) (by decide +kernel), List.mem_of_getElem? (i := 715) (by decide +kernel), List.mem_of_getElem? (i := 716) (by decide +kernel)⟩
theorem lw_p49 : lw_okq (⟨"ModeratorsBench$Ladder", "holdingAt", "(I)I"⟩, 8) := ⟨⟨by decide +kernel, by decide +kernel⟩, List.mem_of_getElem? (i := 59) (by decide +kernel), List.mem_of_getElem? (i := 719) (by decide +kernel), List.mem_of_getElem? (i := 720) (by decide +kernel)⟩
theorem lw_p50 : lw_okq (⟨"ModeratorsBench", "timesWarned", "(I)I"⟩, 10) := ⟨⟨by decide +kernel, by decide +kernel⟩, List.mem_of_getElem? (i := 21) (by decide +kernel), List.mem_of_getElem? (i := 725) (by decide +kernel), List.mem_of_getElem? (i := 726) (by decide +kernel)⟩
theorem lw_p51 : lw_okq (⟨"ModeratorsBench", "postsOf", "(IZ)I"⟩, 10) := ⟨⟨by decide +kernel, by decide +kernel⟩, List.mem_of_getElem? (i := 21) (by decide +kernel), List.mem_of_getElem? (i := 729) (by decide +kernel), List.mem_of_getElem? (i := 730) (by decide +kernel)⟩
theorem lw_p52 : lw_okq (⟨"ModeratorsBench$Post", "isHidden", "()Z"⟩, 7) := ⟨⟨by decide +kernel, by decide +kernel⟩, List.mem_of_getElem? (i := 228) (by decide +kernel), List.mem_of_getElem? (i := 733) (by decide +kernel), List.mem_of_getElem? (i := 734) (by decide +kernel)⟩
theorem lw_p53 : lw_okq (⟨"ModeratorsBench", "undecidedCases", "()I"⟩, 10) := ⟨⟨by decide +kernel, by decide +kernel⟩, List.mem_of_getElem? (i := 21) (by decide +kernel), List.mem_of_getElem? (i := 750) (by decide +kernel), List.mem_of_getElem? (i := 751) (by decide +kernel)⟩
theorem lw_p54 : lw_okq (⟨"ModeratorsBench$Case", "staysWithinAsked", "()Z"⟩, 12) := ⟨⟨by decide +kernel, by decide +kernel⟩, List.mem_of_getElem? (i := 345) (by decide +kernel), List.mem_of_getElem? (i := 758) (by decide +kernel), List.mem_of_getElem? (i := 759) (by decide +kernel)⟩
theorem lw_p55 : lw_okq (⟨"ModeratorsBench$Case", "everyJudgeOnce", "()Z"⟩, 12) := ⟨⟨by decide +kernel, by decide +kernel⟩, List.mem_of_getElem? (i := 345) (by decide +kernel), List.mem_of_getElem? (i := 762) (by decide +kernel), List.mem_of_getElem? (i := 763) (by decide +kernel)⟩
theorem lw_p56 : lw_okq (⟨"ModeratorsBenchModel", "giveBack", "(I)V"⟩, 47) := ⟨⟨by decide +kernel, by decide +kernel⟩, List.mem_of_getElem? (i := 766) (by decide +kernel), List.mem_of_getElem? (i := 964) (by decide +kernel), List.mem_of_getElem? (i := 965) (by decide +kernel)⟩
theorem lw_p57 : lw_okq (⟨"ModeratorsBenchModel", "nextOf", "(I)I"⟩, 47) := ⟨⟨by decide +kernel, by decide +kernel⟩, List.mem_of_getElem? (i := 766) (by decide +kernel), List.mem_of_getElem? (i := 972) (by decide +kernel), List.mem_of_getElem? (i := 973) (by decide +kernel)⟩
theorem lw_p58 : lw_okq (⟨"ModeratorsBenchModel", "mayHave", "(II)Z"⟩, 47) := ⟨⟨by decide +kernel, by decide +kernel⟩, List.mem_of_getElem? (i := 766) (by decide +kernel), List.mem_of_getElem? (i := 976) (by decide +kernel), List.mem_of_getElem? (i := 977) (by decide +kernel)⟩
theorem lw_p59 : lw_okq (⟨"ModeratorsBenchModel", "isAsking", "(I)Z"⟩, 47) := ⟨⟨by decide +kernel, by decide +kernel⟩, List.mem_of_getElem? (i := 766) (by decide +kernel), List.mem_of_getElem? (i := 980) (by decide +kernel), List.mem_of_getElem? (i := 981) (by decide +kernel)⟩
theorem lw_p60 : lw_okq (⟨"ModeratorsBenchModel", "giftsOf", "(II)I"⟩, 47) := ⟨⟨by decide +kernel, by decide +kernel⟩, List.mem_of_getElem? (i := 766) (by decide +kernel), List.mem_of_getElem? (i := 984) (by decide +kernel), List.mem_of_getElem? (i := 985) (by decide +kernel)⟩
theorem lw_p61 : lw_okq (⟨"ModeratorsBenchModel", "votesOf", "(I)I"⟩, 47) := ⟨⟨by decide +kernel, by decide +kernel⟩, List.mem_of_getElem? (i := 766) (by decide +kernel), List.mem_of_getElem? (i := 988) (by decide +kernel), List.mem_of_getElem? (i := 989) (by decide +kernel)⟩
theorem lw_p62 : lw_okq (⟨"ModeratorsBenchModel", "timeOf", "(I)I"⟩, 47) := ⟨⟨by decide +kernel, by decide +kernel⟩, List.mem_of_getElem? (i := 766) (by decide +kernel), List.mem_of_getElem? (i := 992) (by decide +kernel), List.mem_of_getElem? (i := 993) (by decide +kernel)⟩
theorem lw_p63 : lw_okq (⟨"ModeratorsBenchModel", "isCase", "(I)Z"⟩, 47) := ⟨⟨by decide +kernel, by decide +kernel⟩, List.mem_of_getElem? (i := 766) (by decide +kernel), List.mem_of_getElem? (i := 1008) (by decide +kernel), List.mem_of_getElem? (i := 1009) (by decide +kernel)⟩
def lw_privs_4 : List (MethodName × Nat) := [(⟨"ModeratorsBench$Ladder", "climb", "(II)V"⟩, 8), (⟨"ModeratorsBench$Ladder", "holdingAt", "(I)I"⟩, 8), (⟨"ModeratorsBench", "timesWarned", "(I)I"⟩, 10), (⟨"ModeratorsBench", "postsOf", "(IZ)I"⟩, 10), (⟨"ModeratorsBench$Post", "isHidden", "()Z"⟩, 7), (⟨"ModeratorsBench", "undecidedCases", "()I"⟩, 10), (⟨"ModeratorsBench$Case", "staysWithinAsked", "()Z"⟩, 12), (⟨"ModeratorsBench$Case", "everyJudgeOnce", "()Z"⟩, 12), (⟨"ModeratorsBenchModel", "giveBack", "(I)V"⟩, 47), (⟨"ModeratorsBenchModel", "nextOf", "(I)I"⟩, 47), (⟨"ModeratorsBenchModel", "mayHave", "(II)Z"⟩, 47), (⟨"ModeratorsBenchModel", "isAsking", "(I)Z"⟩, 47), (⟨"ModeratorsBenchModel", "giftsOf", "(II)I"⟩, 47), (⟨"ModeratorsBenchModel", "votesOf", "(I)I"⟩, 47), (⟨"ModeratorsBenchModel", "timeOf", "(I)I"⟩, 47), (⟨"ModeratorsBenchModel", "isCase", "(I)Z"⟩, 47)]
theorem lw_r4 : ∀ q ∈ lw_privs_4, lw_okq q := List.forall_mem_cons.mpr ⟨lw_p48, List.forall_mem_cons.mpr ⟨lw_p49, List.forall_mem_cons.mpr ⟨lw_p50, List.forall_mem_cons.mpr ⟨lw_p51, List.forall_mem_cons.mpr ⟨lw_p52, List.forall_mem_cons.mpr ⟨lw_p53, List.forall_mem_cons.mpr ⟨lw_p54, List.forall_mem_cons.mpr ⟨lw_p55, List.forall_mem_cons.mpr ⟨lw_p56, List.forall_mem_cons.mpr ⟨lw_p57, List.forall_mem_cons.mpr ⟨lw_p58, List.forall_mem_cons.mpr ⟨lw_p59, List.forall_mem_cons.mpr ⟨lw_p60, List.forall_mem_cons.mpr ⟨lw_p61, List.forall_mem_cons.mpr ⟨lw_p62, List.forall_mem_cons.mpr ⟨lw_p63, fun _ h => absurd h List.not_mem_nil⟩⟩⟩⟩⟩⟩⟩⟩⟩⟩⟩⟩⟩⟩⟩⟩
theorem lw_p64 : lw_okq (⟨"ModeratorsBenchModel", "settle", "(I)V"⟩, 47) := ⟨⟨by decide +kernel, by decide +kernel⟩, List.mem_of_getElem? (i := 766) (by decide +kernel), List.mem_of_getElem? (i := 1016) (by decide +kernel), List.mem_of_getElem? (i := 1017) (by decide +kernel)⟩
theorem lw_p65 : lw_okq (⟨"ModeratorsBenchModel", "lookAtJudges", "()V"⟩, 47) := ⟨⟨by decide +kernel, by decide +kernel⟩, List.mem_of_getElem? (i := 766) (by decide +kernel), List.mem_of_getElem? (i := 1020) (by decide +kernel), List.mem_of_getElem? (i := 1021) (by decide +kernel)⟩
theorem lw_p66 : lw_okq (⟨"ModeratorsBenchModel", "doubt", "(IZ)I"⟩, 47) := ⟨⟨by decide +kernel, by decide +kernel⟩, List.mem_of_getElem? (i := 766) (by decide +kernel), List.mem_of_getElem? (i := 1024) (by decide +kernel), List.mem_of_getElem? (i := 1025) (by decide +kernel)⟩
theorem lw_p67 : lw_okq (⟨"ModeratorsBenchModel", "against", "(I)I"⟩, 47) := ⟨⟨by decide +kernel, by decide +kernel⟩, List.mem_of_getElem? (i := 766) (by decide +kernel), List.mem_of_getElem? (i := 1028) (by decide +kernel), List.mem_of_getElem? (i := 1029) (by decide +kernel)⟩
theorem lw_p68 : lw_okq (⟨"ModeratorsBenchModel", "lateBy", "(I)I"⟩, 47) := ⟨⟨by decide +kernel, by decide +kernel⟩, List.mem_of_getElem? (i := 766) (by decide +kernel), List.mem_of_getElem? (i := 1040) (by decide +kernel), List.mem_of_getElem? (i := 1041) (by decide +kernel)⟩
theorem lw_p69 : lw_okq (⟨"ModeratorsBenchModel", "likeOnes", "(III)I"⟩, 47) := ⟨⟨by decide +kernel, by decide +kernel⟩, List.mem_of_getElem? (i := 766) (by decide +kernel), List.mem_of_getElem? (i := 1064) (by decide +kernel), List.mem_of_getElem? (i := 1065) (by decide +kernel)⟩
theorem lw_p70 : lw_okq (⟨"ModeratorsBenchModel", "findStrikes", "(I)V"⟩, 47) := ⟨⟨by decide +kernel, by decide +kernel⟩, List.mem_of_getElem? (i := 766) (by decide +kernel), List.mem_of_getElem? (i := 1076) (by decide +kernel), List.mem_of_getElem? (i := 1077) (by decide +kernel)⟩
theorem lw_p71 : lw_okq (⟨"ModeratorsBenchModel", "stands", "(I)Z"⟩, 47) := ⟨⟨by decide +kernel, by decide +kernel⟩, List.mem_of_getElem? (i := 766) (by decide +kernel), List.mem_of_getElem? (i := 1080) (by decide +kernel), List.mem_of_getElem? (i := 1081) (by decide +kernel)⟩
theorem lw_p72 : lw_okq (⟨"ModeratorsBenchModel", "isHidden", "(I)Z"⟩, 47) := ⟨⟨by decide +kernel, by decide +kernel⟩, List.mem_of_getElem? (i := 766) (by decide +kernel), List.mem_of_getElem? (i := 1084) (by decide +kernel), List.mem_of_getElem? (i := 1085) (by decide +kernel)⟩
def lw_privs_5 : List (MethodName × Nat) := [(⟨"ModeratorsBenchModel", "settle", "(I)V"⟩, 47), (⟨"ModeratorsBenchModel", "lookAtJudges", "()V"⟩, 47), (⟨"ModeratorsBenchModel", "doubt", "(IZ)I"⟩, 47), (⟨"ModeratorsBenchModel", "against", "(I)I"⟩, 47), (⟨"ModeratorsBenchModel", "lateBy", "(I)I"⟩, 47), (⟨"ModeratorsBenchModel", "likeOnes", "(III)I"⟩, 47), (⟨"ModeratorsBenchModel", "findStrikes", "(I)V"⟩, 47), (⟨"ModeratorsBenchModel", "stands", "(I)Z"⟩, 47), (⟨"ModeratorsBenchModel", "isHidden", "(I)Z"⟩, 47)]
theorem lw_r5 : ∀ q ∈ lw_privs_5, lw_okq q := List.forall_mem_cons.mpr ⟨lw_p64, List.forall_mem_cons.mpr ⟨lw_p65, List.forall_mem_cons.mpr ⟨lw_p66, List.forall_mem_cons.mpr ⟨lw_p67, List.forall_mem_cons.mpr ⟨lw_p68, List.forall_mem_cons.mpr ⟨lw_p69, List.forall_mem_cons.mpr ⟨lw_p70, List.forall_mem_cons.mpr ⟨lw_p71, List.forall_mem_cons.mpr ⟨lw_p72, fun _ h => absurd h List.not_mem_nil⟩⟩⟩⟩⟩⟩⟩⟩⟩
def lw_privs : List (MethodName × Nat) := lw_privs_1 ++ (lw_privs_2 ++ (lw_privs_3 ++ (lw_privs_4 ++ (lw_privs_5))))
def lw_tbl : List Cond := k2_sels lw_privs ++ tables_1
theorem lw_privs_ok : ∀ q ∈ lw_privs, lw_okq q := by
  show ∀ q ∈ lw_privs_1 ++ (lw_privs_2 ++ (lw_privs_3 ++ (lw_privs_4 ++ (lw_privs_5)))), lw_okq q
  exact List.forall_mem_append.mpr ⟨lw_r1, List.forall_mem_append.mpr ⟨lw_r2, List.forall_mem_append.mpr ⟨lw_r3, List.forall_mem_append.mpr ⟨lw_r4, lw_r5⟩⟩⟩⟩
def RX0 : String := "ModeratorsBench$Case"
def TX0 : u_T := fun k => match k with
  | 0 => ("ModeratorsBench$Case", "number", "I", true)
  | 1 => ("ModeratorsBench$Case", "post", "LModeratorsBench$Post;", true)
  | 2 => ("ModeratorsBench$Case", "rule", "LModeratorsBench$Rule;", true)
  | 3 => ("ModeratorsBench$Case", "grade", "I", true)
  | 4 => ("ModeratorsBench$Case", "first", "LModeratorsBench$Hearing;", true)
  | 5 => ("ModeratorsBench$Case", "second", "LModeratorsBench$Hearing;", false)
  | 6 => ("ModeratorsBench$Case", "since", "I", false)
  | 7 => ("ModeratorsBench$Case", "complaints", "I", false)
  | 8 => ("ModeratorsBench$Case", "state", "I", false)
  | 9 => ("ModeratorsBench$Case", "knownGuilt", "I", false)
  | 10 => ("ModeratorsBench$Case", "holders", "I", false)
  | _ => ("ModeratorsBench$Case", "nextOfPost", "LModeratorsBench$Case;", false)
def tyX0 : Nat → FieldType := fun k => match k with
  | 0 => .int
  | 1 => .object "ModeratorsBench$Post"
  | 2 => .object "ModeratorsBench$Rule"
  | 3 => .int
  | 4 => .object "ModeratorsBench$Hearing"
  | 5 => .object "ModeratorsBench$Hearing"
  | 6 => .int
  | 7 => .int
  | 8 => .int
  | 9 => .int
  | 10 => .int
  | _ => .object "ModeratorsBench$Case"
abbrev wsX00 : List Cond := u_ws RX0 TX0 12
theorem nmX0 : ∀ a, a < 12 → ∀ b, b < 12 → a ≠ b → (TX0 a).2.1 ≠ (TX0 b).2.1 := by decide +kernel
theorem tyX0_ok : ∀ k, k < 12 → parseFieldDescriptor (TX0 k).2.2.1 = some (tyX0 k) := by decide +kernel
abbrev cX0_init : ByteArray := prog_2_method_1_code
def yX0_init : MethodName := ⟨RX0, "<init>", "(ILModeratorsBench$Post;LModeratorsBench$Rule;I)V"⟩
abbrev cX0_hearing : ByteArray := prog_2_method_2_code
def yX0_hearing : MethodName := ⟨RX0, "hearing", "()LModeratorsBench$Hearing;"⟩
abbrev cX0_isUndecided : ByteArray := prog_2_method_3_code
def yX0_isUndecided : MethodName := ⟨RX0, "isUndecided", "()Z"⟩
abbrev cX0_guiltStands : ByteArray := prog_2_method_4_code
def yX0_guiltStands : MethodName := ⟨RX0, "guiltStands", "()Z"⟩
abbrev cX0_bringsStrike : ByteArray := prog_2_method_5_code
def yX0_bringsStrike : MethodName := ⟨RX0, "bringsStrike", "()Z"⟩
abbrev cX0_giftsOut : ByteArray := prog_2_method_6_code
def yX0_giftsOut : MethodName := ⟨RX0, "giftsOut", "()I"⟩
abbrev cX0_wantsJudges : ByteArray := prog_2_method_7_code
def yX0_wantsJudges : MethodName := ⟨RX0, "wantsJudges", "()Z"⟩
abbrev cX0_isHeldBy : ByteArray := prog_2_method_8_code
def yX0_isHeldBy : MethodName := ⟨RX0, "isHeldBy", "(LModeratorsBench$Judge;)Z"⟩
abbrev cX0_hasVoteOf : ByteArray := prog_2_method_9_code
def yX0_hasVoteOf : MethodName := ⟨RX0, "hasVoteOf", "(LModeratorsBench$Judge;)Z"⟩
abbrev cX0_hearAgain : ByteArray := prog_2_method_10_code
def yX0_hearAgain : MethodName := ⟨RX0, "hearAgain", "(I)V"⟩
abbrev cX0_close : ByteArray := prog_2_method_11_code
def yX0_close : MethodName := ⟨RX0, "close", "()V"⟩
abbrev cX0_latestJudgement : ByteArray := prog_2_method_12_code
def yX0_latestJudgement : MethodName := ⟨RX0, "latestJudgement", "()LModeratorsBench$Hearing;"⟩
abbrev cX0_timesJudged : ByteArray := prog_2_method_13_code
def yX0_timesJudged : MethodName := ⟨RX0, "timesJudged", "()I"⟩
abbrev cX0_isAlike : ByteArray := prog_2_method_14_code
def yX0_isAlike : MethodName := ⟨RX0, "isAlike", "(LModeratorsBench$Case;I)Z"⟩
abbrev cX0_standOf : ByteArray := prog_2_method_15_code
def yX0_standOf : MethodName := ⟨RX0, "standOf", "(LModeratorsBench$Judge;)I"⟩
abbrev cX0_staysWithinAsked : ByteArray := prog_2_method_16_code
def yX0_staysWithinAsked : MethodName := ⟨RX0, "staysWithinAsked", "()Z"⟩
abbrev cX0_everyJudgeOnce : ByteArray := prog_2_method_17_code
def yX0_everyJudgeOnce : MethodName := ⟨RX0, "everyJudgeOnce", "()Z"⟩
def RX1 : String := "ModeratorsBench$Gift"
def TX1 : u_T := fun k => match k with
  | 0 => ("ModeratorsBench$Gift", "judge", "LModeratorsBench$Judge;", true)
  | _ => ("ModeratorsBench$Gift", "held", "LModeratorsBench$Case;", true)
def tyX1 : Nat → FieldType := fun k => match k with
  | 0 => .object "ModeratorsBench$Judge"
  | _ => .object "ModeratorsBench$Case"
abbrev wsX10 : List Cond := u_ws RX1 TX1 2
theorem nmX1 : ∀ a, a < 2 → ∀ b, b < 2 → a ≠ b → (TX1 a).2.1 ≠ (TX1 b).2.1 := by decide +kernel
theorem tyX1_ok : ∀ k, k < 2 → parseFieldDescriptor (TX1 k).2.2.1 = some (tyX1 k) := by decide +kernel
abbrev cX1_init : ByteArray := prog_3_method_1_code
def yX1_init : MethodName := ⟨RX1, "<init>", "(LModeratorsBench$Judge;LModeratorsBench$Case;)V"⟩
def RX2 : String := "ModeratorsBench$Hearing"
def TX2 : u_T := fun k => match k with
  | 0 => ("ModeratorsBench$Hearing", "asks", "I", false)
  | 1 => ("ModeratorsBench$Hearing", "timesMore", "I", false)
  | 2 => ("ModeratorsBench$Hearing", "voters", "I", false)
  | 3 => ("ModeratorsBench$Hearing", "guiltyVoters", "I", false)
  | 4 => ("ModeratorsBench$Hearing", "guiltyWeight", "I", false)
  | 5 => ("ModeratorsBench$Hearing", "otherWeight", "I", false)
  | _ => ("ModeratorsBench$Hearing", "over", "Z", false)
def tyX2 : Nat → FieldType := fun k => match k with
  | 0 => .int
  | 1 => .int
  | 2 => .int
  | 3 => .int
  | 4 => .int
  | 5 => .int
  | _ => .boolean
abbrev wsX20 : List Cond := u_ws RX2 TX2 7
theorem nmX2 : ∀ a, a < 7 → ∀ b, b < 7 → a ≠ b → (TX2 a).2.1 ≠ (TX2 b).2.1 := by decide +kernel
theorem tyX2_ok : ∀ k, k < 7 → parseFieldDescriptor (TX2 k).2.2.1 = some (tyX2 k) := by decide +kernel
abbrev cX2_init : ByteArray := prog_4_method_1_code
def yX2_init : MethodName := ⟨RX2, "<init>", "(I)V"⟩
abbrev cX2_votes : ByteArray := prog_4_method_2_code
def yX2_votes : MethodName := ⟨RX2, "votes", "()I"⟩
abbrev cX2_cast : ByteArray := prog_4_method_3_code
def yX2_cast : MethodName := ⟨RX2, "cast", "(LModeratorsBench$Judge;Z)V"⟩
abbrev cX2_isAgreed : ByteArray := prog_4_method_4_code
def yX2_isAgreed : MethodName := ⟨RX2, "isAgreed", "()Z"⟩
abbrev cX2_mayAskMore : ByteArray := prog_4_method_5_code
def yX2_mayAskMore : MethodName := ⟨RX2, "mayAskMore", "()Z"⟩
abbrev cX2_askMore : ByteArray := prog_4_method_6_code
def yX2_askMore : MethodName := ⟨RX2, "askMore", "()V"⟩
abbrev cX2_findsGuilty : ByteArray := prog_4_method_7_code
def yX2_findsGuilty : MethodName := ⟨RX2, "findsGuilty", "()Z"⟩
abbrev cX2_hasVoter : ByteArray := prog_4_method_8_code
def yX2_hasVoter : MethodName := ⟨RX2, "hasVoter", "(LModeratorsBench$Judge;)Z"⟩
abbrev cX2_standAgainst : ByteArray := prog_4_method_9_code
def yX2_standAgainst : MethodName := ⟨RX2, "standAgainst", "(LModeratorsBench$Judge;I)I"⟩
def RX3 : String := "ModeratorsBench$Judge"
def TX3 : u_T := fun k => match k with
  | 0 => ("ModeratorsBench$Judge", "bit", "I", true)
  | 1 => ("ModeratorsBench$Judge", "skills", "I", false)
  | 2 => ("ModeratorsBench$Judge", "kinBits", "J", false)
  | 3 => ("ModeratorsBench$Judge", "load", "I", false)
  | 4 => ("ModeratorsBench$Judge", "weight", "I", false)
  | 5 => ("ModeratorsBench$Judge", "rests", "Z", false)
  | 6 => ("ModeratorsBench$Judge", "gifts", "I", false)
  | _ => ("ModeratorsBench$Judge", "votes", "I", false)
def tyX3 : Nat → FieldType := fun k => match k with
  | 0 => .int
  | 1 => .int
  | 2 => .long
  | 3 => .int
  | 4 => .int
  | 5 => .boolean
  | 6 => .int
  | _ => .int
abbrev wsX30 : List Cond := u_ws RX3 TX3 8
theorem nmX3 : ∀ a, a < 8 → ∀ b, b < 8 → a ≠ b → (TX3 a).2.1 ≠ (TX3 b).2.1 := by decide +kernel
theorem tyX3_ok : ∀ k, k < 8 → parseFieldDescriptor (TX3 k).2.2.1 = some (tyX3 k) := by decide +kernel
abbrev cX3_init : ByteArray := prog_5_method_1_code
def yX3_init : MethodName := ⟨RX3, "<init>", "(I)V"⟩
abbrev cX3_isFree : ByteArray := prog_5_method_2_code
def yX3_isFree : MethodName := ⟨RX3, "isFree", "()Z"⟩
abbrev cX3_isSkilledIn : ByteArray := prog_5_method_3_code
def yX3_isSkilledIn : MethodName := ⟨RX3, "isSkilledIn", "(I)Z"⟩
abbrev cX3_isKinOf : ByteArray := prog_5_method_4_code
def yX3_isKinOf : MethodName := ⟨RX3, "isKinOf", "(I)Z"⟩
abbrev cX3_setKin : ByteArray := prog_5_method_5_code
def yX3_setKin : MethodName := ⟨RX3, "setKin", "(IZ)V"⟩
def RX4 : String := "ModeratorsBench$Ladder"
def TX4 : u_T := fun k => match k with
  | 0 => ("ModeratorsBench$Ladder", "fade", "I", false)
  | 1 => ("ModeratorsBench$Ladder", "quiet", "I", false)
  | 2 => ("ModeratorsBench$Ladder", "strikeTicks", "[I", true)
  | 3 => ("ModeratorsBench$Ladder", "strikes", "I", false)
  | 4 => ("ModeratorsBench$Ladder", "faded", "I", false)
  | 5 => ("ModeratorsBench$Ladder", "level", "I", false)
  | 6 => ("ModeratorsBench$Ladder", "silent", "Z", false)
  | _ => ("ModeratorsBench$Ladder", "goneFrom", "I", false)
def tyX4 : Nat → FieldType := fun k => match k with
  | 0 => .int
  | 1 => .int
  | 2 => .array .int
  | 3 => .int
  | 4 => .int
  | 5 => .int
  | 6 => .boolean
  | _ => .int
abbrev wsX40 : List Cond := u_ws RX4 TX4 8
theorem nmX4 : ∀ a, a < 8 → ∀ b, b < 8 → a ≠ b → (TX4 a).2.1 ≠ (TX4 b).2.1 := by decide +kernel
theorem tyX4_ok : ∀ k, k < 8 → parseFieldDescriptor (TX4 k).2.2.1 = some (tyX4 k) := by decide +kernel
abbrev cX4_init : ByteArray := prog_6_method_1_code
def yX4_init : MethodName := ⟨RX4, "<init>", "()V"⟩
abbrev cX4_restart : ByteArray := prog_6_method_2_code
def yX4_restart : MethodName := ⟨RX4, "restart", "()V"⟩
abbrev cX4_climb : ByteArray := prog_6_method_3_code
def yX4_climb : MethodName := ⟨RX4, "climb", "(II)V"⟩
abbrev cX4_holdingAt : ByteArray := prog_6_method_4_code
def yX4_holdingAt : MethodName := ⟨RX4, "holdingAt", "(I)I"⟩
def RX5 : String := "ModeratorsBench$Post"
def TX5 : u_T := fun k => match k with
  | 0 => ("ModeratorsBench$Post", "number", "I", true)
  | 1 => ("ModeratorsBench$Post", "author", "I", true)
  | 2 => ("ModeratorsBench$Post", "reach", "I", true)
  | 3 => ("ModeratorsBench$Post", "marks", "I", true)
  | 4 => ("ModeratorsBench$Post", "came", "I", true)
  | 5 => ("ModeratorsBench$Post", "firstCase", "LModeratorsBench$Case;", false)
  | _ => ("ModeratorsBench$Post", "lastCase", "LModeratorsBench$Case;", false)
def tyX5 : Nat → FieldType := fun k => match k with
  | 0 => .int
  | 1 => .int
  | 2 => .int
  | 3 => .int
  | 4 => .int
  | 5 => .object "ModeratorsBench$Case"
  | _ => .object "ModeratorsBench$Case"
abbrev wsX50 : List Cond := u_ws RX5 TX5 7
theorem nmX5 : ∀ a, a < 7 → ∀ b, b < 7 → a ≠ b → (TX5 a).2.1 ≠ (TX5 b).2.1 := by decide +kernel
theorem tyX5_ok : ∀ k, k < 7 → parseFieldDescriptor (TX5 k).2.2.1 = some (tyX5 k) := by decide +kernel
abbrev cX5_init : ByteArray := prog_7_method_1_code
def yX5_init : MethodName := ⟨RX5, "<init>", "(IIIII)V"⟩
abbrev cX5_addCase : ByteArray := prog_7_method_2_code
def yX5_addCase : MethodName := ⟨RX5, "addCase", "(LModeratorsBench$Case;)V"⟩
abbrev cX5_caseUnder : ByteArray := prog_7_method_3_code
def yX5_caseUnder : MethodName := ⟨RX5, "caseUnder", "(I)LModeratorsBench$Case;"⟩
abbrev cX5_isHidden : ByteArray := prog_7_method_4_code
def yX5_isHidden : MethodName := ⟨RX5, "isHidden", "()Z"⟩
def RX6 : String := "ModeratorsBench$Rule"
def TX6 : u_T := fun k => match k with
  | 0 => ("ModeratorsBench$Rule", "number", "I", true)
  | 1 => ("ModeratorsBench$Rule", "grade", "I", false)
  | 2 => ("ModeratorsBench$Rule", "harm", "I", false)
  | _ => ("ModeratorsBench$Rule", "follows", "I", false)
def tyX6 : Nat → FieldType := fun k => match k with
  | 0 => .int
  | 1 => .int
  | 2 => .int
  | _ => .int
abbrev wsX60 : List Cond := u_ws RX6 TX6 4
theorem nmX6 : ∀ a, a < 4 → ∀ b, b < 4 → a ≠ b → (TX6 a).2.1 ≠ (TX6 b).2.1 := by decide +kernel
theorem tyX6_ok : ∀ k, k < 4 → parseFieldDescriptor (TX6 k).2.2.1 = some (tyX6 k) := by decide +kernel
abbrev cX6_init : ByteArray := prog_8_method_1_code
def yX6_init : MethodName := ⟨RX6, "<init>", "(I)V"⟩
def RX7 : String := "ModeratorsBench"
def TX7 : u_T := fun k => match k with
  | 0 => ("ModeratorsBench", "rules", "[LModeratorsBench$Rule;", true)
  | 1 => ("ModeratorsBench", "judges", "[LModeratorsBench$Judge;", true)
  | 2 => ("ModeratorsBench", "posts", "Ljava/util/ArrayList;", true)
  | 3 => ("ModeratorsBench", "cases", "Ljava/util/ArrayList;", true)
  | 4 => ("ModeratorsBench", "gifts", "Ljava/util/ArrayList;", true)
  | 5 => ("ModeratorsBench", "dueOfGrade", "[I", true)
  | 6 => ("ModeratorsBench", "ladder", "LModeratorsBench$Ladder;", true)
  | 7 => ("ModeratorsBench", "now", "I", false)
  | 8 => ("ModeratorsBench", "doubtLimit", "I", false)
  | _ => ("ModeratorsBench", "judgements", "I", false)
def tyX7 : Nat → FieldType := fun k => match k with
  | 0 => .array (.object "ModeratorsBench$Rule")
  | 1 => .array (.object "ModeratorsBench$Judge")
  | 2 => .object "java/util/ArrayList"
  | 3 => .object "java/util/ArrayList"
  | 4 => .object "java/util/ArrayList"
  | 5 => .array .int
  | 6 => .object "ModeratorsBench$Ladder"
  | 7 => .int
  | 8 => .int
  | _ => .int
abbrev wsX70 : List Cond := u_ws RX7 TX7 10
theorem nmX7 : ∀ a, a < 10 → ∀ b, b < 10 → a ≠ b → (TX7 a).2.1 ≠ (TX7 b).2.1 := by decide +kernel
theorem tyX7_ok : ∀ k, k < 10 → parseFieldDescriptor (TX7 k).2.2.1 = some (tyX7 k) := by decide +kernel
abbrev cX7_init : ByteArray := prog_1_method_1_code
def yX7_init : MethodName := ⟨RX7, "<init>", "()V"⟩
abbrev cX7_tick : ByteArray := prog_1_method_2_code
def yX7_tick : MethodName := ⟨RX7, "tick", "(I)I"⟩
abbrev cX7_rule : ByteArray := prog_1_method_3_code
def yX7_rule : MethodName := ⟨RX7, "rule", "(IIII)I"⟩
abbrev cX7_ladder : ByteArray := prog_1_method_4_code
def yX7_ladder : MethodName := ⟨RX7, "ladder", "(II)I"⟩
abbrev cX7_due : ByteArray := prog_1_method_5_code
def yX7_due : MethodName := ⟨RX7, "due", "(II)I"⟩
abbrev cX7_limit : ByteArray := prog_1_method_6_code
def yX7_limit : MethodName := ⟨RX7, "limit", "(I)I"⟩
abbrev cX7_post : ByteArray := prog_1_method_7_code
def yX7_post : MethodName := ⟨RX7, "post", "(III)I"⟩
abbrev cX7_complain : ByteArray := prog_1_method_8_code
def yX7_complain : MethodName := ⟨RX7, "complain", "(II)I"⟩
abbrev cX7_judge : ByteArray := prog_1_method_9_code
def yX7_judge : MethodName := ⟨RX7, "judge", "(IIII)I"⟩
abbrev cX7_kin : ByteArray := prog_1_method_10_code
def yX7_kin : MethodName := ⟨RX7, "kin", "(III)I"⟩
abbrev cX7_rest : ByteArray := prog_1_method_11_code
def yX7_rest : MethodName := ⟨RX7, "rest", "(II)I"⟩
abbrev cX7_next : ByteArray := prog_1_method_12_code
def yX7_next : MethodName := ⟨RX7, "next", "(I)I"⟩
abbrev cX7_give : ByteArray := prog_1_method_13_code
def yX7_give : MethodName := ⟨RX7, "give", "(I)I"⟩
abbrev cX7_undo : ByteArray := prog_1_method_14_code
def yX7_undo : MethodName := ⟨RX7, "undo", "()I"⟩
abbrev cX7_vote : ByteArray := prog_1_method_15_code
def yX7_vote : MethodName := ⟨RX7, "vote", "(III)I"⟩
abbrev cX7_may : ByteArray := prog_1_method_16_code
def yX7_may : MethodName := ⟨RX7, "may", "(II)I"⟩
abbrev cX7_told : ByteArray := prog_1_method_17_code
def yX7_told : MethodName := ⟨RX7, "told", "(II)I"⟩
abbrev cX7_about : ByteArray := prog_1_method_18_code
def yX7_about : MethodName := ⟨RX7, "about", "(II)I"⟩
abbrev cX7_judged : ByteArray := prog_1_method_19_code
def yX7_judged : MethodName := ⟨RX7, "judged", "(II)I"⟩
abbrev cX7_appeal : ByteArray := prog_1_method_20_code
def yX7_appeal : MethodName := ⟨RX7, "appeal", "(I)I"⟩
abbrev cX7_known : ByteArray := prog_1_method_21_code
def yX7_known : MethodName := ⟨RX7, "known", "(II)I"⟩
abbrev cX7_late : ByteArray := prog_1_method_22_code
def yX7_late : MethodName := ⟨RX7, "late", "()I"⟩
abbrev cX7_like : ByteArray := prog_1_method_23_code
def yX7_like : MethodName := ⟨RX7, "like", "(II)I"⟩
abbrev cX7_unlike : ByteArray := prog_1_method_24_code
def yX7_unlike : MethodName := ⟨RX7, "unlike", "(II)I"⟩
abbrev cX7_writer : ByteArray := prog_1_method_25_code
def yX7_writer : MethodName := ⟨RX7, "writer", "(II)I"⟩
abbrev cX7_level : ByteArray := prog_1_method_26_code
def yX7_level : MethodName := ⟨RX7, "level", "(I)I"⟩
abbrev cX7_hidden : ByteArray := prog_1_method_27_code
def yX7_hidden : MethodName := ⟨RX7, "hidden", "(I)I"⟩
abbrev cX7_count : ByteArray := prog_1_method_28_code
def yX7_count : MethodName := ⟨RX7, "count", "(I)I"⟩
abbrev cX7_check : ByteArray := prog_1_method_29_code
def yX7_check : MethodName := ⟨RX7, "check", "()I"⟩
abbrev cX7_ruleAt : ByteArray := prog_1_method_30_code
def yX7_ruleAt : MethodName := ⟨RX7, "ruleAt", "(I)LModeratorsBench$Rule;"⟩
abbrev cX7_judgeAt : ByteArray := prog_1_method_31_code
def yX7_judgeAt : MethodName := ⟨RX7, "judgeAt", "(I)LModeratorsBench$Judge;"⟩
abbrev cX7_postAt : ByteArray := prog_1_method_32_code
def yX7_postAt : MethodName := ⟨RX7, "postAt", "(I)LModeratorsBench$Post;"⟩
abbrev cX7_caseAt : ByteArray := prog_1_method_33_code
def yX7_caseAt : MethodName := ⟨RX7, "caseAt", "(I)LModeratorsBench$Case;"⟩
abbrev cX7_within : ByteArray := prog_1_method_34_code
def yX7_within : MethodName := ⟨RX7, "within", "(III)Z"⟩
abbrev cX7_asNumber : ByteArray := prog_1_method_35_code
def yX7_asNumber : MethodName := ⟨RX7, "asNumber", "(Z)I"⟩
abbrev cX7_mayHave : ByteArray := prog_1_method_36_code
def yX7_mayHave : MethodName := ⟨RX7, "mayHave", "(LModeratorsBench$Judge;LModeratorsBench$Case;)Z"⟩
abbrev cX7_nextFor : ByteArray := prog_1_method_37_code
def yX7_nextFor : MethodName := ⟨RX7, "nextFor", "(LModeratorsBench$Judge;)LModeratorsBench$Case;"⟩
abbrev cX7_giftOf : ByteArray := prog_1_method_38_code
def yX7_giftOf : MethodName := ⟨RX7, "giftOf", "(LModeratorsBench$Judge;LModeratorsBench$Case;)I"⟩
abbrev cX7_takeBack : ByteArray := prog_1_method_39_code
def yX7_takeBack : MethodName := ⟨RX7, "takeBack", "(I)V"⟩
abbrev cX7_layToRest : ByteArray := prog_1_method_40_code
def yX7_layToRest : MethodName := ⟨RX7, "layToRest", "(LModeratorsBench$Judge;)V"⟩
abbrev cX7_settle : ByteArray := prog_1_method_41_code
def yX7_settle : MethodName := ⟨RX7, "settle", "(LModeratorsBench$Case;)V"⟩
abbrev cX7_restDoubtedJudges : ByteArray := prog_1_method_42_code
def yX7_restDoubtedJudges : MethodName := ⟨RX7, "restDoubtedJudges", "()V"⟩
abbrev cX7_askedOf : ByteArray := prog_1_method_43_code
def yX7_askedOf : MethodName := ⟨RX7, "askedOf", "(LModeratorsBench$Judge;)I"⟩
abbrev cX7_stoodAlone : ByteArray := prog_1_method_44_code
def yX7_stoodAlone : MethodName := ⟨RX7, "stoodAlone", "(LModeratorsBench$Judge;)I"⟩
abbrev cX7_lateBy : ByteArray := prog_1_method_45_code
def yX7_lateBy : MethodName := ⟨RX7, "lateBy", "(LModeratorsBench$Case;)I"⟩
abbrev cX7_alike : ByteArray := prog_1_method_46_code
def yX7_alike : MethodName := ⟨RX7, "alike", "(LModeratorsBench$Case;IZ)I"⟩
abbrev cX7_undecidedCases : ByteArray := prog_1_method_47_code
def yX7_undecidedCases : MethodName := ⟨RX7, "undecidedCases", "()I"⟩
abbrev cX7_climbLadder : ByteArray := prog_1_method_48_code
def yX7_climbLadder : MethodName := ⟨RX7, "climbLadder", "(ILModeratorsBench$Case;)V"⟩
abbrev cX7_timesWarned : ByteArray := prog_1_method_49_code
def yX7_timesWarned : MethodName := ⟨RX7, "timesWarned", "(I)I"⟩
abbrev cX7_postsOf : ByteArray := prog_1_method_50_code
def yX7_postsOf : MethodName := ⟨RX7, "postsOf", "(IZ)I"⟩
def RX8 : String := "ModeratorsBenchModel"
def TX8 : u_T := fun k => match k with
  | 0 => ("ModeratorsBenchModel", "tick", "I", false)
  | 1 => ("ModeratorsBenchModel", "grade", "[I", true)
  | 2 => ("ModeratorsBenchModel", "harm", "[I", true)
  | 3 => ("ModeratorsBenchModel", "follows", "[I", true)
  | 4 => ("ModeratorsBenchModel", "due", "[I", true)
  | 5 => ("ModeratorsBenchModel", "fade", "I", false)
  | 6 => ("ModeratorsBenchModel", "quiet", "I", false)
  | 7 => ("ModeratorsBenchModel", "limit", "I", false)
  | 8 => ("ModeratorsBenchModel", "writer", "[I", true)
  | 9 => ("ModeratorsBenchModel", "came", "[I", true)
  | 10 => ("ModeratorsBenchModel", "reach", "[I", true)
  | 11 => ("ModeratorsBenchModel", "marks", "[I", true)
  | 12 => ("ModeratorsBenchModel", "posts", "I", false)
  | 13 => ("ModeratorsBenchModel", "post", "[I", true)
  | 14 => ("ModeratorsBenchModel", "rule", "[I", true)
  | 15 => ("ModeratorsBenchModel", "state", "[I", true)
  | 16 => ("ModeratorsBenchModel", "complaints", "[I", true)
  | 17 => ("ModeratorsBenchModel", "caseGrade", "[I", true)
  | 18 => ("ModeratorsBenchModel", "waitsFrom", "[I", true)
  | 19 => ("ModeratorsBenchModel", "asks", "[I", true)
  | 20 => ("ModeratorsBenchModel", "mores", "[I", true)
  | 21 => ("ModeratorsBenchModel", "times", "[I", true)
  | 22 => ("ModeratorsBenchModel", "known", "[I", true)
  | 23 => ("ModeratorsBenchModel", "result", "[I", true)
  | 24 => ("ModeratorsBenchModel", "lastVotes", "[I", true)
  | 25 => ("ModeratorsBenchModel", "lastGuilty", "[I", true)
  | 26 => ("ModeratorsBenchModel", "lastOthers", "[I", true)
  | 27 => ("ModeratorsBenchModel", "cases", "I", false)
  | 28 => ("ModeratorsBenchModel", "judgements", "I", false)
  | 29 => ("ModeratorsBenchModel", "skills", "[I", true)
  | 30 => ("ModeratorsBenchModel", "kin", "[J", true)
  | 31 => ("ModeratorsBenchModel", "load", "[I", true)
  | 32 => ("ModeratorsBenchModel", "weight", "[I", true)
  | 33 => ("ModeratorsBenchModel", "rests", "[Z", true)
  | 34 => ("ModeratorsBenchModel", "giftJudge", "[I", true)
  | 35 => ("ModeratorsBenchModel", "giftCase", "[I", true)
  | 36 => ("ModeratorsBenchModel", "gifts", "I", false)
  | 37 => ("ModeratorsBenchModel", "voteJudge", "[I", true)
  | 38 => ("ModeratorsBenchModel", "voteCase", "[I", true)
  | 39 => ("ModeratorsBenchModel", "voteTime", "[I", true)
  | 40 => ("ModeratorsBenchModel", "voteGuilty", "[I", true)
  | 41 => ("ModeratorsBenchModel", "voteWeight", "[I", true)
  | 42 => ("ModeratorsBenchModel", "votes", "I", false)
  | 43 => ("ModeratorsBenchModel", "strikeCase", "[I", true)
  | 44 => ("ModeratorsBenchModel", "strikeTick", "[I", true)
  | 45 => ("ModeratorsBenchModel", "strikeLevel", "[I", true)
  | _ => ("ModeratorsBenchModel", "strikes", "I", false)
def tyX8 : Nat → FieldType := fun k => match k with
  | 0 => .int
  | 1 => .array .int
  | 2 => .array .int
  | 3 => .array .int
  | 4 => .array .int
  | 5 => .int
  | 6 => .int
  | 7 => .int
  | 8 => .array .int
  | 9 => .array .int
  | 10 => .array .int
  | 11 => .array .int
  | 12 => .int
  | 13 => .array .int
  | 14 => .array .int
  | 15 => .array .int
  | 16 => .array .int
  | 17 => .array .int
  | 18 => .array .int
  | 19 => .array .int
  | 20 => .array .int
  | 21 => .array .int
  | 22 => .array .int
  | 23 => .array .int
  | 24 => .array .int
  | 25 => .array .int
  | 26 => .array .int
  | 27 => .int
  | 28 => .int
  | 29 => .array .int
  | 30 => .array .long
  | 31 => .array .int
  | 32 => .array .int
  | 33 => .array .boolean
  | 34 => .array .int
  | 35 => .array .int
  | 36 => .int
  | 37 => .array .int
  | 38 => .array .int
  | 39 => .array .int
  | 40 => .array .int
  | 41 => .array .int
  | 42 => .int
  | 43 => .array .int
  | 44 => .array .int
  | 45 => .array .int
  | _ => .int
abbrev wsX80 : List Cond := u_ws RX8 TX8 47
theorem nmX8 : ∀ a, a < 47 → ∀ b, b < 47 → a ≠ b → (TX8 a).2.1 ≠ (TX8 b).2.1 := by decide +kernel
theorem tyX8_ok : ∀ k, k < 47 → parseFieldDescriptor (TX8 k).2.2.1 = some (tyX8 k) := by decide +kernel
abbrev cX8_init : ByteArray := prog_10_method_1_code
def yX8_init : MethodName := ⟨RX8, "<init>", "()V"⟩
abbrev cX8_within : ByteArray := prog_10_method_2_code
def yX8_within : MethodName := ⟨RX8, "within", "(III)Z"⟩
abbrev cX8_isJudge : ByteArray := prog_10_method_3_code
def yX8_isJudge : MethodName := ⟨RX8, "isJudge", "(I)Z"⟩
abbrev cX8_isCase : ByteArray := prog_10_method_4_code
def yX8_isCase : MethodName := ⟨RX8, "isCase", "(I)Z"⟩
abbrev cX8_tick : ByteArray := prog_10_method_5_code
def yX8_tick : MethodName := ⟨RX8, "tick", "(I)I"⟩
abbrev cX8_rule : ByteArray := prog_10_method_6_code
def yX8_rule : MethodName := ⟨RX8, "rule", "(IIII)I"⟩
abbrev cX8_ladder : ByteArray := prog_10_method_7_code
def yX8_ladder : MethodName := ⟨RX8, "ladder", "(II)I"⟩
abbrev cX8_due : ByteArray := prog_10_method_8_code
def yX8_due : MethodName := ⟨RX8, "due", "(II)I"⟩
abbrev cX8_limit : ByteArray := prog_10_method_9_code
def yX8_limit : MethodName := ⟨RX8, "limit", "(I)I"⟩
abbrev cX8_post : ByteArray := prog_10_method_10_code
def yX8_post : MethodName := ⟨RX8, "post", "(III)I"⟩
abbrev cX8_complain : ByteArray := prog_10_method_11_code
def yX8_complain : MethodName := ⟨RX8, "complain", "(II)I"⟩
abbrev cX8_judge : ByteArray := prog_10_method_12_code
def yX8_judge : MethodName := ⟨RX8, "judge", "(IIII)I"⟩
abbrev cX8_kin : ByteArray := prog_10_method_13_code
def yX8_kin : MethodName := ⟨RX8, "kin", "(III)I"⟩
abbrev cX8_giveBack : ByteArray := prog_10_method_14_code
def yX8_giveBack : MethodName := ⟨RX8, "giveBack", "(I)V"⟩
abbrev cX8_rest : ByteArray := prog_10_method_15_code
def yX8_rest : MethodName := ⟨RX8, "rest", "(II)I"⟩
abbrev cX8_isAsking : ByteArray := prog_10_method_16_code
def yX8_isAsking : MethodName := ⟨RX8, "isAsking", "(I)Z"⟩
abbrev cX8_timeOf : ByteArray := prog_10_method_17_code
def yX8_timeOf : MethodName := ⟨RX8, "timeOf", "(I)I"⟩
abbrev cX8_votesOf : ByteArray := prog_10_method_18_code
def yX8_votesOf : MethodName := ⟨RX8, "votesOf", "(I)I"⟩
abbrev cX8_giftsOf : ByteArray := prog_10_method_19_code
def yX8_giftsOf : MethodName := ⟨RX8, "giftsOf", "(II)I"⟩
abbrev cX8_mayHave : ByteArray := prog_10_method_20_code
def yX8_mayHave : MethodName := ⟨RX8, "mayHave", "(II)Z"⟩
abbrev cX8_nextOf : ByteArray := prog_10_method_21_code
def yX8_nextOf : MethodName := ⟨RX8, "nextOf", "(I)I"⟩
abbrev cX8_next : ByteArray := prog_10_method_22_code
def yX8_next : MethodName := ⟨RX8, "next", "(I)I"⟩
abbrev cX8_give : ByteArray := prog_10_method_23_code
def yX8_give : MethodName := ⟨RX8, "give", "(I)I"⟩
abbrev cX8_undo : ByteArray := prog_10_method_24_code
def yX8_undo : MethodName := ⟨RX8, "undo", "()I"⟩
abbrev cX8_may : ByteArray := prog_10_method_25_code
def yX8_may : MethodName := ⟨RX8, "may", "(II)I"⟩
abbrev cX8_against : ByteArray := prog_10_method_26_code
def yX8_against : MethodName := ⟨RX8, "against", "(I)I"⟩
abbrev cX8_doubt : ByteArray := prog_10_method_27_code
def yX8_doubt : MethodName := ⟨RX8, "doubt", "(IZ)I"⟩
abbrev cX8_lookAtJudges : ByteArray := prog_10_method_28_code
def yX8_lookAtJudges : MethodName := ⟨RX8, "lookAtJudges", "()V"⟩
abbrev cX8_vote : ByteArray := prog_10_method_29_code
def yX8_vote : MethodName := ⟨RX8, "vote", "(III)I"⟩
abbrev cX8_settle : ByteArray := prog_10_method_30_code
def yX8_settle : MethodName := ⟨RX8, "settle", "(I)V"⟩
abbrev cX8_told : ByteArray := prog_10_method_31_code
def yX8_told : MethodName := ⟨RX8, "told", "(II)I"⟩
abbrev cX8_lateBy : ByteArray := prog_10_method_32_code
def yX8_lateBy : MethodName := ⟨RX8, "lateBy", "(I)I"⟩
abbrev cX8_about : ByteArray := prog_10_method_33_code
def yX8_about : MethodName := ⟨RX8, "about", "(II)I"⟩
abbrev cX8_judged : ByteArray := prog_10_method_34_code
def yX8_judged : MethodName := ⟨RX8, "judged", "(II)I"⟩
abbrev cX8_appeal : ByteArray := prog_10_method_35_code
def yX8_appeal : MethodName := ⟨RX8, "appeal", "(I)I"⟩
abbrev cX8_known : ByteArray := prog_10_method_36_code
def yX8_known : MethodName := ⟨RX8, "known", "(II)I"⟩
abbrev cX8_late : ByteArray := prog_10_method_37_code
def yX8_late : MethodName := ⟨RX8, "late", "()I"⟩
abbrev cX8_likeOnes : ByteArray := prog_10_method_38_code
def yX8_likeOnes : MethodName := ⟨RX8, "likeOnes", "(III)I"⟩
abbrev cX8_like : ByteArray := prog_10_method_39_code
def yX8_like : MethodName := ⟨RX8, "like", "(II)I"⟩
abbrev cX8_unlike : ByteArray := prog_10_method_40_code
def yX8_unlike : MethodName := ⟨RX8, "unlike", "(II)I"⟩
abbrev cX8_stands : ByteArray := prog_10_method_41_code
def yX8_stands : MethodName := ⟨RX8, "stands", "(I)Z"⟩
abbrev cX8_findStrikes : ByteArray := prog_10_method_42_code
def yX8_findStrikes : MethodName := ⟨RX8, "findStrikes", "(I)V"⟩
abbrev cX8_isHidden : ByteArray := prog_10_method_43_code
def yX8_isHidden : MethodName := ⟨RX8, "isHidden", "(I)Z"⟩
abbrev cX8_writer : ByteArray := prog_10_method_44_code
def yX8_writer : MethodName := ⟨RX8, "writer", "(II)I"⟩
abbrev cX8_level : ByteArray := prog_10_method_45_code
def yX8_level : MethodName := ⟨RX8, "level", "(I)I"⟩
abbrev cX8_hidden : ByteArray := prog_10_method_46_code
def yX8_hidden : MethodName := ⟨RX8, "hidden", "(I)I"⟩
abbrev cX8_count : ByteArray := prog_10_method_47_code
def yX8_count : MethodName := ⟨RX8, "count", "(I)I"⟩
abbrev cX8_check : ByteArray := prog_10_method_48_code
def yX8_check : MethodName := ⟨RX8, "check", "()I"⟩
def RJx145de : String := "java/io/Serializable"
def TJx145de : u_T := fun k => match k with
  | _ => ("", "", "", false)
def tyJx145de : Nat → FieldType := fun k => match k with
  | _ => .int
abbrev wsJx145de0 : List Cond := u_ws RJx145de TJx145de 0
theorem nmJx145de : ∀ a, a < 0 → ∀ b, b < 0 → a ≠ b → (TJx145de a).2.1 ≠ (TJx145de b).2.1 := by decide +kernel
theorem tyJx145de_ok : ∀ k, k < 0 → parseFieldDescriptor (TJx145de k).2.2.1 = some (tyJx145de k) := by decide +kernel
def RJx8e188 : String := "java/lang/Cloneable"
def TJx8e188 : u_T := fun k => match k with
  | _ => ("", "", "", false)
def tyJx8e188 : Nat → FieldType := fun k => match k with
  | _ => .int
abbrev wsJx8e1880 : List Cond := u_ws RJx8e188 TJx8e188 0
theorem nmJx8e188 : ∀ a, a < 0 → ∀ b, b < 0 → a ≠ b → (TJx8e188 a).2.1 ≠ (TJx8e188 b).2.1 := by decide +kernel
theorem tyJx8e188_ok : ∀ k, k < 0 → parseFieldDescriptor (TJx8e188 k).2.2.1 = some (tyJx8e188 k) := by decide +kernel
def RJ6 : String := "java/lang/Integer"
def TJ6 : u_T := fun k => match k with
  | _ => ("", "", "", false)
def tyJ6 : Nat → FieldType := fun k => match k with
  | _ => .int
abbrev wsJ60 : List Cond := u_ws RJ6 TJ6 0
theorem nmJ6 : ∀ a, a < 0 → ∀ b, b < 0 → a ≠ b → (TJ6 a).2.1 ≠ (TJ6 b).2.1 := by decide +kernel
theorem tyJ6_ok : ∀ k, k < 0 → parseFieldDescriptor (TJ6 k).2.2.1 = some (tyJ6 k) := by decide +kernel
abbrev cJ6_bitCount_0f7a4 : ByteArray := prog_13_method_49_code
def yJ6_bitCount_0f7a4 : MethodName := ⟨RJ6, "bitCount", "(I)I"⟩
def RJxab1ab : String := "java/lang/Iterable"
def TJxab1ab : u_T := fun k => match k with
  | _ => ("", "", "", false)
def tyJxab1ab : Nat → FieldType := fun k => match k with
  | _ => .int
abbrev wsJxab1ab0 : List Cond := u_ws RJxab1ab TJxab1ab 0
theorem nmJxab1ab : ∀ a, a < 0 → ∀ b, b < 0 → a ≠ b → (TJxab1ab a).2.1 ≠ (TJxab1ab b).2.1 := by decide +kernel
theorem tyJxab1ab_ok : ∀ k, k < 0 → parseFieldDescriptor (TJxab1ab k).2.2.1 = some (tyJxab1ab k) := by decide +kernel
def RJ9 : String := "java/lang/Math"
def TJ9 : u_T := fun k => match k with
  | _ => ("", "", "", false)
def tyJ9 : Nat → FieldType := fun k => match k with
  | _ => .int
abbrev wsJ90 : List Cond := u_ws RJ9 TJ9 0
theorem nmJ9 : ∀ a, a < 0 → ∀ b, b < 0 → a ≠ b → (TJ9 a).2.1 ≠ (TJ9 b).2.1 := by decide +kernel
theorem tyJ9_ok : ∀ k, k < 0 → parseFieldDescriptor (TJ9 k).2.2.1 = some (tyJ9 k) := by decide +kernel
abbrev cJ9_max_7cf53 : ByteArray := prog_15_method_65_code
def yJ9_max_7cf53 : MethodName := ⟨RJ9, "max", "(II)I"⟩
abbrev cJ9_min_7cf53 : ByteArray := prog_15_method_69_code
def yJ9_min_7cf53 : MethodName := ⟨RJ9, "min", "(II)I"⟩
def RJ10 : String := "java/lang/System"
def TJ10 : u_T := fun k => match k with
  | _ => ("", "", "", false)
def tyJ10 : Nat → FieldType := fun k => match k with
  | _ => .int
abbrev wsJ100 : List Cond := u_ws RJ10 TJ10 0
theorem nmJ10 : ∀ a, a < 0 → ∀ b, b < 0 → a ≠ b → (TJ10 a).2.1 ≠ (TJ10 b).2.1 := by decide +kernel
theorem tyJ10_ok : ∀ k, k < 0 → parseFieldDescriptor (TJ10 k).2.2.1 = some (tyJ10 k) := by decide +kernel
def RJxa1e45 : String := "java/util/AbstractCollection"
def TJxa1e45 : u_T := fun k => match k with
  | _ => ("", "", "", false)
def tyJxa1e45 : Nat → FieldType := fun k => match k with
  | _ => .int
abbrev wsJxa1e450 : List Cond := u_ws RJxa1e45 TJxa1e45 0
theorem nmJxa1e45 : ∀ a, a < 0 → ∀ b, b < 0 → a ≠ b → (TJxa1e45 a).2.1 ≠ (TJxa1e45 b).2.1 := by decide +kernel
theorem tyJxa1e45_ok : ∀ k, k < 0 → parseFieldDescriptor (TJxa1e45 k).2.2.1 = some (tyJxa1e45 k) := by decide +kernel
abbrev cJxa1e45_init_da8c8 : ByteArray := prog_17_method_1_code
def yJxa1e45_init_da8c8 : MethodName := ⟨RJxa1e45, "<init>", "()V"⟩
def RJxc12de : String := "java/util/AbstractList"
def TJxc12de : u_T := fun k => match k with
  | _ => ("", "", "", false)
def tyJxc12de : Nat → FieldType := fun k => match k with
  | _ => .int
abbrev wsJxc12de0 : List Cond := u_ws RJxc12de TJxc12de 0
theorem nmJxc12de : ∀ a, a < 0 → ∀ b, b < 0 → a ≠ b → (TJxc12de a).2.1 ≠ (TJxc12de b).2.1 := by decide +kernel
theorem tyJxc12de_ok : ∀ k, k < 0 → parseFieldDescriptor (TJxc12de k).2.2.1 = some (tyJxc12de k) := by decide +kernel
abbrev cJxc12de_init_da8c8 : ByteArray := prog_18_method_1_code
def yJxc12de_init_da8c8 : MethodName := ⟨RJxc12de, "<init>", "()V"⟩
def RJx4a65c : String := "java/util/ArrayList"
def TJx4a65c : u_T := fun k => match k with
  | 0 => ("java/util/AbstractList", "modCount", "I", false)
  | 1 => ("java/util/ArrayList", "elementData", "[Ljava/lang/Object;", false)
  | _ => ("java/util/ArrayList", "size", "I", false)
def tyJx4a65c : Nat → FieldType := fun k => match k with
  | 0 => .int
  | 1 => .array (.object "java/lang/Object")
  | _ => .int
abbrev wsJx4a65c0 : List Cond := u_ws RJx4a65c TJx4a65c 3
theorem nmJx4a65c : ∀ a, a < 3 → ∀ b, b < 3 → a ≠ b → (TJx4a65c a).2.1 ≠ (TJx4a65c b).2.1 := by decide +kernel
theorem tyJx4a65c_ok : ∀ k, k < 3 → parseFieldDescriptor (TJx4a65c k).2.2.1 = some (tyJx4a65c k) := by decide +kernel
abbrev cJx4a65c_init_da8c8 : ByteArray := prog_19_method_2_code
def yJx4a65c_init_da8c8 : MethodName := ⟨RJx4a65c, "<init>", "()V"⟩
abbrev cJx4a65c_grow_92f84 : ByteArray := prog_19_method_6_code
def yJx4a65c_grow_92f84 : MethodName := ⟨RJx4a65c, "grow", "(I)[Ljava/lang/Object;"⟩
abbrev cJx4a65c_grow_d5877 : ByteArray := prog_19_method_7_code
def yJx4a65c_grow_d5877 : MethodName := ⟨RJx4a65c, "grow", "()[Ljava/lang/Object;"⟩
abbrev cJx4a65c_size_8abf5 : ByteArray := prog_19_method_8_code
def yJx4a65c_size_8abf5 : MethodName := ⟨RJx4a65c, "size", "()I"⟩
abbrev cJx4a65c_elementData_915e3 : ByteArray := prog_19_method_18_code
def yJx4a65c_elementData_915e3 : MethodName := ⟨RJx4a65c, "elementData", "(I)Ljava/lang/Object;"⟩
abbrev cJx4a65c_get_915e3 : ByteArray := prog_19_method_20_code
def yJx4a65c_get_915e3 : MethodName := ⟨RJx4a65c, "get", "(I)Ljava/lang/Object;"⟩
abbrev cJx4a65c_add_72be8 : ByteArray := prog_19_method_24_code
def yJx4a65c_add_72be8 : MethodName := ⟨RJx4a65c, "add", "(Ljava/lang/Object;[Ljava/lang/Object;I)V"⟩
abbrev cJx4a65c_add_9ea2d : ByteArray := prog_19_method_25_code
def yJx4a65c_add_9ea2d : MethodName := ⟨RJx4a65c, "add", "(Ljava/lang/Object;)Z"⟩
abbrev cJx4a65c_remove_915e3 : ByteArray := prog_19_method_29_code
def yJx4a65c_remove_915e3 : MethodName := ⟨RJx4a65c, "remove", "(I)Ljava/lang/Object;"⟩
abbrev cJx4a65c_fastRemove_b59b0 : ByteArray := prog_19_method_39_code
def yJx4a65c_fastRemove_b59b0 : MethodName := ⟨RJx4a65c, "fastRemove", "([Ljava/lang/Object;I)V"⟩
def RJ7 : String := "java/util/Arrays"
def TJ7 : u_T := fun k => match k with
  | _ => ("", "", "", false)
def tyJ7 : Nat → FieldType := fun k => match k with
  | _ => .int
abbrev wsJ70 : List Cond := u_ws RJ7 TJ7 0
theorem nmJ7 : ∀ a, a < 0 → ∀ b, b < 0 → a ≠ b → (TJ7 a).2.1 ≠ (TJ7 b).2.1 := by decide +kernel
theorem tyJ7_ok : ∀ k, k < 0 → parseFieldDescriptor (TJ7 k).2.2.1 = some (tyJ7 k) := by decide +kernel
abbrev cJ7_copyOf_1904c : ByteArray := prog_20_method_119_code
def yJ7_copyOf_1904c : MethodName := ⟨RJ7, "copyOf", "([Ljava/lang/Object;I)[Ljava/lang/Object;"⟩
abbrev cJ7_copyOf_6403c : ByteArray := prog_20_method_120_code
def yJ7_copyOf_6403c : MethodName := ⟨RJ7, "copyOf", "([Ljava/lang/Object;ILjava/lang/Class;)[Ljava/lang/Object;"⟩
def RJx5ef63 : String := "java/util/Collection"
def TJx5ef63 : u_T := fun k => match k with
  | _ => ("", "", "", false)
def tyJx5ef63 : Nat → FieldType := fun k => match k with
  | _ => .int
abbrev wsJx5ef630 : List Cond := u_ws RJx5ef63 TJx5ef63 0
theorem nmJx5ef63 : ∀ a, a < 0 → ∀ b, b < 0 → a ≠ b → (TJx5ef63 a).2.1 ≠ (TJx5ef63 b).2.1 := by decide +kernel
theorem tyJx5ef63_ok : ∀ k, k < 0 → parseFieldDescriptor (TJx5ef63 k).2.2.1 = some (tyJx5ef63 k) := by decide +kernel
def RJxbd725 : String := "java/util/List"
def TJxbd725 : u_T := fun k => match k with
  | _ => ("", "", "", false)
def tyJxbd725 : Nat → FieldType := fun k => match k with
  | _ => .int
abbrev wsJxbd7250 : List Cond := u_ws RJxbd725 TJxbd725 0
theorem nmJxbd725 : ∀ a, a < 0 → ∀ b, b < 0 → a ≠ b → (TJxbd725 a).2.1 ≠ (TJxbd725 b).2.1 := by decide +kernel
theorem tyJxbd725_ok : ∀ k, k < 0 → parseFieldDescriptor (TJxbd725 k).2.2.1 = some (tyJxbd725 k) := by decide +kernel
def RJ15 : String := "java/util/Objects"
def TJ15 : u_T := fun k => match k with
  | _ => ("", "", "", false)
def tyJ15 : Nat → FieldType := fun k => match k with
  | _ => .int
abbrev wsJ150 : List Cond := u_ws RJ15 TJ15 0
theorem nmJ15 : ∀ a, a < 0 → ∀ b, b < 0 → a ≠ b → (TJ15 a).2.1 ≠ (TJ15 b).2.1 := by decide +kernel
theorem tyJ15_ok : ∀ k, k < 0 → parseFieldDescriptor (TJ15 k).2.2.1 = some (tyJ15 k) := by decide +kernel
abbrev cJ15_checkIndex_7cf53 : ByteArray := prog_23_method_17_code
def yJ15_checkIndex_7cf53 : MethodName := ⟨RJ15, "checkIndex", "(II)I"⟩
def RJxf0a74 : String := "java/util/RandomAccess"
def TJxf0a74 : u_T := fun k => match k with
  | _ => ("", "", "", false)
def tyJxf0a74 : Nat → FieldType := fun k => match k with
  | _ => .int
abbrev wsJxf0a740 : List Cond := u_ws RJxf0a74 TJxf0a74 0
theorem nmJxf0a74 : ∀ a, a < 0 → ∀ b, b < 0 → a ≠ b → (TJxf0a74 a).2.1 ≠ (TJxf0a74 b).2.1 := by decide +kernel
theorem tyJxf0a74_ok : ∀ k, k < 0 → parseFieldDescriptor (TJxf0a74 k).2.2.1 = some (tyJxf0a74 k) := by decide +kernel
def RJxa66e6 : String := "java/util/SequencedCollection"
def TJxa66e6 : u_T := fun k => match k with
  | _ => ("", "", "", false)
def tyJxa66e6 : Nat → FieldType := fun k => match k with
  | _ => .int
abbrev wsJxa66e60 : List Cond := u_ws RJxa66e6 TJxa66e6 0
theorem nmJxa66e6 : ∀ a, a < 0 → ∀ b, b < 0 → a ≠ b → (TJxa66e6 a).2.1 ≠ (TJxa66e6 b).2.1 := by decide +kernel
theorem tyJxa66e6_ok : ∀ k, k < 0 → parseFieldDescriptor (TJxa66e6 k).2.2.1 = some (tyJxa66e6 k) := by decide +kernel
def RJ8 : String := "jdk/internal/util/ArraysSupport"
def TJ8 : u_T := fun k => match k with
  | _ => ("", "", "", false)
def tyJ8 : Nat → FieldType := fun k => match k with
  | _ => .int
abbrev wsJ80 : List Cond := u_ws RJ8 TJ8 0
theorem nmJ8 : ∀ a, a < 0 → ∀ b, b < 0 → a ≠ b → (TJ8 a).2.1 ≠ (TJ8 b).2.1 := by decide +kernel
theorem tyJ8_ok : ∀ k, k < 0 → parseFieldDescriptor (TJ8 k).2.2.1 = some (tyJ8 k) := by decide +kernel
abbrev cJ8_newLength_cabcc : ByteArray := prog_26_method_27_code
def yJ8_newLength_cabcc : MethodName := ⟨RJ8, "newLength", "(III)I"⟩
abbrev cJ8_hugeLength_7cf53 : ByteArray := prog_26_method_28_code
def yJ8_hugeLength_7cf53 : MethodName := ⟨RJ8, "hugeLength", "(II)I"⟩
def RJ3 : String := "jdk/internal/util/Preconditions"
def TJ3 : u_T := fun k => match k with
  | _ => ("", "", "", false)
def tyJ3 : Nat → FieldType := fun k => match k with
  | _ => .int
abbrev wsJ30 : List Cond := u_ws RJ3 TJ3 0
theorem nmJ3 : ∀ a, a < 0 → ∀ b, b < 0 → a ≠ b → (TJ3 a).2.1 ≠ (TJ3 b).2.1 := by decide +kernel
theorem tyJ3_ok : ∀ k, k < 0 → parseFieldDescriptor (TJ3 k).2.2.1 = some (tyJ3 k) := by decide +kernel
abbrev cJ3_checkIndex_8e157 : ByteArray := prog_27_method_11_code
def yJ3_checkIndex_8e157 : MethodName := ⟨RJ3, "checkIndex", "(IILjava/util/function/BiFunction;)I"⟩
def RL : String := "ModeratorsBenchLaw"
abbrev cL_law : ByteArray := code
def yL_law : MethodName := ⟨RL, "law", "([I)Z"⟩
abbrev vwCl : List vw_C := [(RJx4a65c, TJx4a65c, 3), (RX0, TX0, 12), (RX1, TX1, 2), (RX2, TX2, 7), (RX3, TX3, 8), (RX4, TX4, 8), (RX5, TX5, 7), (RX6, TX6, 4), (RX7, TX7, 10), (RX8, TX8, 47)]
