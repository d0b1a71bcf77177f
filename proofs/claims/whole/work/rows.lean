section
-- ===== PART A: goes FIRST, ahead of the names: the tables' words, and 'selects' of the private methods out of them =====
/-- a private method of a class that the tables say can be made, by its rows of tables_1 -/
def lw_okq (q : MethodName × Nat) : Prop := (q.1.cls ≠ "java/lang/invoke/MethodHandle" ∧ q.1.cls ≠ "java/lang/invoke/VarHandle") ∧ Cond.instantiable q.1.cls q.2 ∈ tables_1 ∧ Cond.privateMethod q.1 ∈ tables_1 ∧ Cond.instanceMethod q.1 ∈ tables_1
theorem lw_p0 : lw_okq (⟨"ModeratorsBench", "ruleAt", "(I)LModeratorsBench$Rule;"⟩, 10) := ⟨⟨by decide +kernel, by decide +kernel⟩, List.mem_of_getElem? (i := 21) (by decide +kernel), List.mem_of_getElem? (i := 204) (by decide +kernel), List.mem_of_getElem? (i := 205) (by decide +kernel)⟩
theorem lw_p1 : lw_okq (⟨"java/util/ArrayList", "add", "(Ljava/lang/Object;[Ljava/lang/Object;I)V"⟩, 3) := ⟨⟨by decide +kernel, by decide +kernel⟩, List.mem_of_getElem? (i := 33) (by decide +kernel), List.mem_of_getElem? (i := 266) (by decide +kernel), List.mem_of_getElem? (i := 267) (by decide +kernel)⟩
theorem lw_p2 : lw_okq (⟨"java/util/ArrayList", "grow", "()[Ljava/lang/Object;"⟩, 3) := ⟨⟨by decide +kernel, by decide +kernel⟩, List.mem_of_getElem? (i := 33) (by decide +kernel), List.mem_of_getElem? (i := 270) (by decide +kernel), List.mem_of_getElem? (i := 271) (by decide +kernel)⟩
theorem lw_p3 : lw_okq (⟨"java/util/ArrayList", "grow", "(I)[Ljava/lang/Object;"⟩, 3) := ⟨⟨by decide +kernel, by decide +kernel⟩, List.mem_of_getElem? (i := 33) (by decide +kernel), List.mem_of_getElem? (i := 274) (by decide +kernel), List.mem_of_getElem? (i := 275) (by decide +kernel)⟩
theorem lw_p4 : lw_okq (⟨"ModeratorsBench", "postAt", "(I)LModeratorsBench$Post;"⟩, 10) := ⟨⟨by decide +kernel, by decide +kernel⟩, List.mem_of_getElem? (i := 21) (by decide +kernel), List.mem_of_getElem? (i := 323) (by decide +kernel), List.mem_of_getElem? (i := 324) (by decide +kernel)⟩
theorem lw_p5 : lw_okq (⟨"ModeratorsBench$Post", "caseUnder", "(I)LModeratorsBench$Case;"⟩, 7) := ⟨⟨by decide +kernel, by decide +kernel⟩, List.mem_of_getElem? (i := 228) (by decide +kernel), List.mem_of_getElem? (i := 341) (by decide +kernel), List.mem_of_getElem? (i := 342) (by decide +kernel)⟩
theorem lw_p6 : lw_okq (⟨"ModeratorsBench$Post", "addCase", "(LModeratorsBench$Case;)V"⟩, 7) := ⟨⟨by decide +kernel, by decide +kernel⟩, List.mem_of_getElem? (i := 228) (by decide +kernel), List.mem_of_getElem? (i := 434) (by decide +kernel), List.mem_of_getElem? (i := 435) (by decide +kernel)⟩
theorem lw_p7 : lw_okq (⟨"ModeratorsBench", "judgeAt", "(I)LModeratorsBench$Judge;"⟩, 10) := ⟨⟨by decide +kernel, by decide +kernel⟩, List.mem_of_getElem? (i := 21) (by decide +kernel), List.mem_of_getElem? (i := 442) (by decide +kernel), List.mem_of_getElem? (i := 443) (by decide +kernel)⟩
theorem lw_p8 : lw_okq (⟨"ModeratorsBench$Judge", "isKinOf", "(I)Z"⟩, 8) := ⟨⟨by decide +kernel, by decide +kernel⟩, List.mem_of_getElem? (i := 120) (by decide +kernel), List.mem_of_getElem? (i := 450) (by decide +kernel), List.mem_of_getElem? (i := 451) (by decide +kernel)⟩
theorem lw_p9 : lw_okq (⟨"ModeratorsBench$Judge", "setKin", "(IZ)V"⟩, 8) := ⟨⟨by decide +kernel, by decide +kernel⟩, List.mem_of_getElem? (i := 120) (by decide +kernel), List.mem_of_getElem? (i := 457) (by decide +kernel), List.mem_of_getElem? (i := 458) (by decide +kernel)⟩
theorem lw_p10 : lw_okq (⟨"ModeratorsBench", "layToRest", "(LModeratorsBench$Judge;)V"⟩, 10) := ⟨⟨by decide +kernel, by decide +kernel⟩, List.mem_of_getElem? (i := 21) (by decide +kernel), List.mem_of_getElem? (i := 466) (by decide +kernel), List.mem_of_getElem? (i := 467) (by decide +kernel)⟩
theorem lw_p11 : lw_okq (⟨"ModeratorsBench", "takeBack", "(I)V"⟩, 10) := ⟨⟨by decide +kernel, by decide +kernel⟩, List.mem_of_getElem? (i := 21) (by decide +kernel), List.mem_of_getElem? (i := 471) (by decide +kernel), List.mem_of_getElem? (i := 472) (by decide +kernel)⟩
theorem lw_p12 : lw_okq (⟨"java/util/ArrayList", "fastRemove", "([Ljava/lang/Object;I)V"⟩, 3) := ⟨⟨by decide +kernel, by decide +kernel⟩, List.mem_of_getElem? (i := 33) (by decide +kernel), List.mem_of_getElem? (i := 479) (by decide +kernel), List.mem_of_getElem? (i := 480) (by decide +kernel)⟩
theorem lw_p13 : lw_okq (⟨"ModeratorsBench", "nextFor", "(LModeratorsBench$Judge;)LModeratorsBench$Case;"⟩, 10) := ⟨⟨by decide +kernel, by decide +kernel⟩, List.mem_of_getElem? (i := 21) (by decide +kernel), List.mem_of_getElem? (i := 488) (by decide +kernel), List.mem_of_getElem? (i := 489) (by decide +kernel)⟩
theorem lw_p14 : lw_okq (⟨"ModeratorsBench$Case", "isUndecided", "()Z"⟩, 12) := ⟨⟨by decide +kernel, by decide +kernel⟩, List.mem_of_getElem? (i := 345) (by decide +kernel), List.mem_of_getElem? (i := 495) (by decide +kernel), List.mem_of_getElem? (i := 496) (by decide +kernel)⟩
theorem lw_p15 : lw_okq (⟨"ModeratorsBench$Case", "wantsJudges", "()Z"⟩, 12) := ⟨⟨by decide +kernel, by decide +kernel⟩, List.mem_of_getElem? (i := 345) (by decide +kernel), List.mem_of_getElem? (i := 499) (by decide +kernel), List.mem_of_getElem? (i := 500) (by decide +kernel)⟩
def lw_privs_1 : List (MethodName × Nat) := [(⟨"ModeratorsBench", "ruleAt", "(I)LModeratorsBench$Rule;"⟩, 10), (⟨"java/util/ArrayList", "add", "(Ljava/lang/Object;[Ljava/lang/Object;I)V"⟩, 3), (⟨"java/util/ArrayList", "grow", "()[Ljava/lang/Object;"⟩, 3), (⟨"java/util/ArrayList", "grow", "(I)[Ljava/lang/Object;"⟩, 3), (⟨"ModeratorsBench", "postAt", "(I)LModeratorsBench$Post;"⟩, 10), (⟨"ModeratorsBench$Post", "caseUnder", "(I)LModeratorsBench$Case;"⟩, 7), (⟨"ModeratorsBench$Post", "addCase", "(LModeratorsBench$Case;)V"⟩, 7), (⟨"ModeratorsBench", "judgeAt", "(I)LModeratorsBench$Judge;"⟩, 10), (⟨"ModeratorsBench$Judge", "isKinOf", "(I)Z"⟩, 8), (⟨"ModeratorsBench$Judge", "setKin", "(IZ)V"⟩, 8), (⟨"ModeratorsBench", "layToRest", "(LModeratorsBench$Judge;)V"⟩, 10), (⟨"ModeratorsBench", "takeBack", "(I)V"⟩, 10), (⟨"java/util/ArrayList", "fastRemove", "([Ljava/lang/Object;I)V"⟩, 3), (⟨"ModeratorsBench", "nextFor", "(LModeratorsBench$Judge;)LModeratorsBench$Case;"⟩, 10), (⟨"ModeratorsBench$Case", "isUndecided", "()Z"⟩, 12), (⟨"ModeratorsBench$Case", "wantsJudges", "()Z"⟩, 12)]
theorem lw_r1 : ∀ q ∈ lw_privs_1, lw_okq q := List.forall_mem_cons.mpr ⟨lw_p0, List.forall_mem_cons.mpr ⟨lw_p1, List.forall_mem_cons.mpr ⟨lw_p2, List.forall_mem_cons.mpr ⟨lw_p3, List.forall_mem_cons.mpr ⟨lw_p4, List.forall_mem_cons.mpr ⟨lw_p5, List.forall_mem_cons.mpr ⟨lw_p6, List.forall_mem_cons.mpr ⟨lw_p7, List.forall_mem_cons.mpr ⟨lw_p8, List.forall_mem_cons.mpr ⟨lw_p9, List.forall_mem_cons.mpr ⟨lw_p10, List.forall_mem_cons.mpr ⟨lw_p11, List.forall_mem_cons.mpr ⟨lw_p12, List.forall_mem_cons.mpr ⟨lw_p13, List.forall_mem_cons.mpr ⟨lw_p14, List.forall_mem_cons.mpr ⟨lw_p15, fun _ h => absurd h List.not_mem_nil⟩⟩⟩⟩⟩⟩⟩⟩⟩⟩⟩⟩⟩⟩⟩⟩
theorem lw_p16 : lw_okq (⟨"ModeratorsBench$Case", "hearing", "()LModeratorsBench$Hearing;"⟩, 12) := ⟨⟨by decide +kernel, by decide +kernel⟩, List.mem_of_getElem? (i := 345) (by decide +kernel), List.mem_of_getElem? (i := 503) (by decide +kernel), List.mem_of_getElem? (i := 504) (by decide +kernel)⟩
theorem lw_p17 : lw_okq (⟨"ModeratorsBench$Hearing", "votes", "()I"⟩, 7) := ⟨⟨by decide +kernel, by decide +kernel⟩, List.mem_of_getElem? (i := 351) (by decide +kernel), List.mem_of_getElem? (i := 507) (by decide +kernel), List.mem_of_getElem? (i := 508) (by decide +kernel)⟩
theorem lw_p18 : lw_okq (⟨"ModeratorsBench$Case", "giftsOut", "()I"⟩, 12) := ⟨⟨by decide +kernel, by decide +kernel⟩, List.mem_of_getElem? (i := 345) (by decide +kernel), List.mem_of_getElem? (i := 517) (by decide +kernel), List.mem_of_getElem? (i := 518) (by decide +kernel)⟩
theorem lw_p19 : lw_okq (⟨"ModeratorsBench$Judge", "isFree", "()Z"⟩, 8) := ⟨⟨by decide +kernel, by decide +kernel⟩, List.mem_of_getElem? (i := 120) (by decide +kernel), List.mem_of_getElem? (i := 522) (by decide +kernel), List.mem_of_getElem? (i := 523) (by decide +kernel)⟩
theorem lw_p20 : lw_okq (⟨"ModeratorsBench$Judge", "isSkilledIn", "(I)Z"⟩, 8) := ⟨⟨by decide +kernel, by decide +kernel⟩, List.mem_of_getElem? (i := 120) (by decide +kernel), List.mem_of_getElem? (i := 526) (by decide +kernel), List.mem_of_getElem? (i := 527) (by decide +kernel)⟩
theorem lw_p21 : lw_okq (⟨"ModeratorsBench$Case", "isHeldBy", "(LModeratorsBench$Judge;)Z"⟩, 12) := ⟨⟨by decide +kernel, by decide +kernel⟩, List.mem_of_getElem? (i := 345) (by decide +kernel), List.mem_of_getElem? (i := 530) (by decide +kernel), List.mem_of_getElem? (i := 531) (by decide +kernel)⟩
theorem lw_p22 : lw_okq (⟨"ModeratorsBench$Case", "hasVoteOf", "(LModeratorsBench$Judge;)Z"⟩, 12) := ⟨⟨by decide +kernel, by decide +kernel⟩, List.mem_of_getElem? (i := 345) (by decide +kernel), List.mem_of_getElem? (i := 534) (by decide +kernel), List.mem_of_getElem? (i := 535) (by decide +kernel)⟩
theorem lw_p23 : lw_okq (⟨"ModeratorsBench$Hearing", "hasVoter", "(LModeratorsBench$Judge;)Z"⟩, 7) := ⟨⟨by decide +kernel, by decide +kernel⟩, List.mem_of_getElem? (i := 351) (by decide +kernel), List.mem_of_getElem? (i := 538) (by decide +kernel), List.mem_of_getElem? (i := 539) (by decide +kernel)⟩
theorem lw_p24 : lw_okq (⟨"ModeratorsBench", "caseAt", "(I)LModeratorsBench$Case;"⟩, 10) := ⟨⟨by decide +kernel, by decide +kernel⟩, List.mem_of_getElem? (i := 21) (by decide +kernel), List.mem_of_getElem? (i := 568) (by decide +kernel), List.mem_of_getElem? (i := 569) (by decide +kernel)⟩
theorem lw_p25 : lw_okq (⟨"ModeratorsBench", "giftOf", "(LModeratorsBench$Judge;LModeratorsBench$Case;)I"⟩, 10) := ⟨⟨by decide +kernel, by decide +kernel⟩, List.mem_of_getElem? (i := 21) (by decide +kernel), List.mem_of_getElem? (i := 572) (by decide +kernel), List.mem_of_getElem? (i := 573) (by decide +kernel)⟩
theorem lw_p26 : lw_okq (⟨"ModeratorsBench$Hearing", "cast", "(LModeratorsBench$Judge;Z)V"⟩, 7) := ⟨⟨by decide +kernel, by decide +kernel⟩, List.mem_of_getElem? (i := 351) (by decide +kernel), List.mem_of_getElem? (i := 577) (by decide +kernel), List.mem_of_getElem? (i := 578) (by decide +kernel)⟩
theorem lw_p27 : lw_okq (⟨"ModeratorsBench", "settle", "(LModeratorsBench$Case;)V"⟩, 10) := ⟨⟨by decide +kernel, by decide +kernel⟩, List.mem_of_getElem? (i := 21) (by decide +kernel), List.mem_of_getElem? (i := 581) (by decide +kernel), List.mem_of_getElem? (i := 582) (by decide +kernel)⟩
theorem lw_p28 : lw_okq (⟨"ModeratorsBench$Hearing", "isAgreed", "()Z"⟩, 7) := ⟨⟨by decide +kernel, by decide +kernel⟩, List.mem_of_getElem? (i := 351) (by decide +kernel), List.mem_of_getElem? (i := 586) (by decide +kernel), List.mem_of_getElem? (i := 587) (by decide +kernel)⟩
theorem lw_p29 : lw_okq (⟨"ModeratorsBench$Hearing", "mayAskMore", "()Z"⟩, 7) := ⟨⟨by decide +kernel, by decide +kernel⟩, List.mem_of_getElem? (i := 351) (by decide +kernel), List.mem_of_getElem? (i := 590) (by decide +kernel), List.mem_of_getElem? (i := 591) (by decide +kernel)⟩
theorem lw_p30 : lw_okq (⟨"ModeratorsBench$Hearing", "askMore", "()V"⟩, 7) := ⟨⟨by decide +kernel, by decide +kernel⟩, List.mem_of_getElem? (i := 351) (by decide +kernel), List.mem_of_getElem? (i := 594) (by decide +kernel), List.mem_of_getElem? (i := 595) (by decide +kernel)⟩
theorem lw_p31 : lw_okq (⟨"ModeratorsBench$Case", "close", "()V"⟩, 12) := ⟨⟨by decide +kernel, by decide +kernel⟩, List.mem_of_getElem? (i := 345) (by decide +kernel), List.mem_of_getElem? (i := 598) (by decide +kernel), List.mem_of_getElem? (i := 599) (by decide +kernel)⟩
def lw_privs_2 : List (MethodName × Nat) := [(⟨"ModeratorsBench$Case", "hearing", "()LModeratorsBench$Hearing;"⟩, 12), (⟨"ModeratorsBench$Hearing", "votes", "()I"⟩, 7), (⟨"ModeratorsBench$Case", "giftsOut", "()I"⟩, 12), (⟨"ModeratorsBench$Judge", "isFree", "()Z"⟩, 8), (⟨"ModeratorsBench$Judge", "isSkilledIn", "(I)Z"⟩, 8), (⟨"ModeratorsBench$Case", "isHeldBy", "(LModeratorsBench$Judge;)Z"⟩, 12), (⟨"ModeratorsBench$Case", "hasVoteOf", "(LModeratorsBench$Judge;)Z"⟩, 12), (⟨"ModeratorsBench$Hearing", "hasVoter", "(LModeratorsBench$Judge;)Z"⟩, 7), (⟨"ModeratorsBench", "caseAt", "(I)LModeratorsBench$Case;"⟩, 10), (⟨"ModeratorsBench", "giftOf", "(LModeratorsBench$Judge;LModeratorsBench$Case;)I"⟩, 10), (⟨"ModeratorsBench$Hearing", "cast", "(LModeratorsBench$Judge;Z)V"⟩, 7), (⟨"ModeratorsBench", "settle", "(LModeratorsBench$Case;)V"⟩, 10), (⟨"ModeratorsBench$Hearing", "isAgreed", "()Z"⟩, 7), (⟨"ModeratorsBench$Hearing", "mayAskMore", "()Z"⟩, 7), (⟨"ModeratorsBench$Hearing", "askMore", "()V"⟩, 7), (⟨"ModeratorsBench$Case", "close", "()V"⟩, 12)]
theorem lw_r2 : ∀ q ∈ lw_privs_2, lw_okq q := List.forall_mem_cons.mpr ⟨lw_p16, List.forall_mem_cons.mpr ⟨lw_p17, List.forall_mem_cons.mpr ⟨lw_p18, List.forall_mem_cons.mpr ⟨lw_p19, List.forall_mem_cons.mpr ⟨lw_p20, List.forall_mem_cons.mpr ⟨lw_p21, List.forall_mem_cons.mpr ⟨lw_p22, List.forall_mem_cons.mpr ⟨lw_p23, List.forall_mem_cons.mpr ⟨lw_p24, List.forall_mem_cons.mpr ⟨lw_p25, List.forall_mem_cons.mpr ⟨lw_p26, List.forall_mem_cons.mpr ⟨lw_p27, List.forall_mem_cons.mpr ⟨lw_p28, List.forall_mem_cons.mpr ⟨lw_p29, List.forall_mem_cons.mpr ⟨lw_p30, List.forall_mem_cons.mpr ⟨lw_p31, fun _ h => absurd h List.not_mem_nil⟩⟩⟩⟩⟩⟩⟩⟩⟩⟩⟩⟩⟩⟩⟩⟩
theorem lw_p32 : lw_okq (⟨"ModeratorsBench$Hearing", "findsGuilty", "()Z"⟩, 7) := ⟨⟨by decide +kernel, by decide +kernel⟩, List.mem_of_getElem? (i := 351) (by decide +kernel), List.mem_of_getElem? (i := 602) (by decide +kernel), List.mem_of_getElem? (i := 603) (by decide +kernel)⟩
theorem lw_p33 : lw_okq (⟨"ModeratorsBench", "restDoubtedJudges", "()V"⟩, 10) := ⟨⟨by decide +kernel, by decide +kernel⟩, List.mem_of_getElem? (i := 21) (by decide +kernel), List.mem_of_getElem? (i := 606) (by decide +kernel), List.mem_of_getElem? (i := 607) (by decide +kernel)⟩
theorem lw_p34 : lw_okq (⟨"ModeratorsBench", "askedOf", "(LModeratorsBench$Judge;)I"⟩, 10) := ⟨⟨by decide +kernel, by decide +kernel⟩, List.mem_of_getElem? (i := 21) (by decide +kernel), List.mem_of_getElem? (i := 610) (by decide +kernel), List.mem_of_getElem? (i := 611) (by decide +kernel)⟩
theorem lw_p35 : lw_okq (⟨"ModeratorsBench$Case", "standOf", "(LModeratorsBench$Judge;)I"⟩, 12) := ⟨⟨by decide +kernel, by decide +kernel⟩, List.mem_of_getElem? (i := 345) (by decide +kernel), List.mem_of_getElem? (i := 614) (by decide +kernel), List.mem_of_getElem? (i := 615) (by decide +kernel)⟩
theorem lw_p36 : lw_okq (⟨"ModeratorsBench$Hearing", "standAgainst", "(LModeratorsBench$Judge;I)I"⟩, 7) := ⟨⟨by decide +kernel, by decide +kernel⟩, List.mem_of_getElem? (i := 351) (by decide +kernel), List.mem_of_getElem? (i := 618) (by decide +kernel), List.mem_of_getElem? (i := 619) (by decide +kernel)⟩
theorem lw_p37 : lw_okq (⟨"ModeratorsBench", "stoodAlone", "(LModeratorsBench$Judge;)I"⟩, 10) := ⟨⟨by decide +kernel, by decide +kernel⟩, List.mem_of_getElem? (i := 21) (by decide +kernel), List.mem_of_getElem? (i := 624) (by decide +kernel), List.mem_of_getElem? (i := 625) (by decide +kernel)⟩
theorem lw_p38 : lw_okq (⟨"ModeratorsBench", "lateBy", "(LModeratorsBench$Case;)I"⟩, 10) := ⟨⟨by decide +kernel, by decide +kernel⟩, List.mem_of_getElem? (i := 21) (by decide +kernel), List.mem_of_getElem? (i := 641) (by decide +kernel), List.mem_of_getElem? (i := 642) (by decide +kernel)⟩
theorem lw_p39 : lw_okq (⟨"ModeratorsBench$Case", "timesJudged", "()I"⟩, 12) := ⟨⟨by decide +kernel, by decide +kernel⟩, List.mem_of_getElem? (i := 345) (by decide +kernel), List.mem_of_getElem? (i := 646) (by decide +kernel), List.mem_of_getElem? (i := 647) (by decide +kernel)⟩
theorem lw_p40 : lw_okq (⟨"ModeratorsBench$Case", "latestJudgement", "()LModeratorsBench$Hearing;"⟩, 12) := ⟨⟨by decide +kernel, by decide +kernel⟩, List.mem_of_getElem? (i := 345) (by decide +kernel), List.mem_of_getElem? (i := 655) (by decide +kernel), List.mem_of_getElem? (i := 656) (by decide +kernel)⟩
theorem lw_p41 : lw_okq (⟨"ModeratorsBench$Case", "hearAgain", "(I)V"⟩, 12) := ⟨⟨by decide +kernel, by decide +kernel⟩, List.mem_of_getElem? (i := 345) (by decide +kernel), List.mem_of_getElem? (i := 663) (by decide +kernel), List.mem_of_getElem? (i := 664) (by decide +kernel)⟩
theorem lw_p42 : lw_okq (⟨"ModeratorsBench", "alike", "(LModeratorsBench$Case;IZ)I"⟩, 10) := ⟨⟨by decide +kernel, by decide +kernel⟩, List.mem_of_getElem? (i := 21) (by decide +kernel), List.mem_of_getElem? (i := 680) (by decide +kernel), List.mem_of_getElem? (i := 681) (by decide +kernel)⟩
theorem lw_p43 : lw_okq (⟨"ModeratorsBench$Case", "isAlike", "(LModeratorsBench$Case;I)Z"⟩, 12) := ⟨⟨by decide +kernel, by decide +kernel⟩, List.mem_of_getElem? (i := 345) (by decide +kernel), List.mem_of_getElem? (i := 684) (by decide +kernel), List.mem_of_getElem? (i := 685) (by decide +kernel)⟩
theorem lw_p44 : lw_okq (⟨"ModeratorsBench$Case", "guiltStands", "()Z"⟩, 12) := ⟨⟨by decide +kernel, by decide +kernel⟩, List.mem_of_getElem? (i := 345) (by decide +kernel), List.mem_of_getElem? (i := 689) (by decide +kernel), List.mem_of_getElem? (i := 690) (by decide +kernel)⟩
theorem lw_p45 : lw_okq (⟨"ModeratorsBench", "climbLadder", "(ILModeratorsBench$Case;)V"⟩, 10) := ⟨⟨by decide +kernel, by decide +kernel⟩, List.mem_of_getElem? (i := 21) (by decide +kernel), List.mem_of_getElem? (i := 702) (by decide +kernel), List.mem_of_getElem? (i := 703) (by decide +kernel)⟩
theorem lw_p46 : lw_okq (⟨"ModeratorsBench$Ladder", "restart", "()V"⟩, 8) := ⟨⟨by decide +kernel, by decide +kernel⟩, List.mem_of_getElem? (i := 59) (by decide +kernel), List.mem_of_getElem? (i := 706) (by decide +kernel), List.mem_of_getElem? (i := 707) (by decide +kernel)⟩
theorem lw_p47 : lw_okq (⟨"ModeratorsBench$Case", "bringsStrike", "()Z"⟩, 12) := ⟨⟨by decide +kernel, by decide +kernel⟩, List.mem_of_getElem? (i := 345) (by decide +kernel), List.mem_of_getElem? (i := 710) (by decide +kernel), List.mem_of_getElem? (i := 711) (by decide +kernel)⟩
def lw_privs_3 : List (MethodName × Nat) := [(⟨"ModeratorsBench$Hearing", "findsGuilty", "()Z"⟩, 7), (⟨"ModeratorsBench", "restDoubtedJudges", "()V"⟩, 10), (⟨"ModeratorsBench", "askedOf", "(LModeratorsBench$Judge;)I"⟩, 10), (⟨"ModeratorsBench$Case", "standOf", "(LModeratorsBench$Judge;)I"⟩, 12), (⟨"ModeratorsBench$Hearing", "standAgainst", "(LModeratorsBench$Judge;I)I"⟩, 7), (⟨"ModeratorsBench", "stoodAlone", "(LModeratorsBench$Judge;)I"⟩, 10), (⟨"ModeratorsBench", "lateBy", "(LModeratorsBench$Case;)I"⟩, 10), (⟨"ModeratorsBench$Case", "timesJudged", "()I"⟩, 12), (⟨"ModeratorsBench$Case", "latestJudgement", "()LModeratorsBench$Hearing;"⟩, 12), (⟨"ModeratorsBench$Case", "hearAgain", "(I)V"⟩, 12), (⟨"ModeratorsBench", "alike", "(LModeratorsBench$Case;IZ)I"⟩, 10), (⟨"ModeratorsBench$Case", "isAlike", "(LModeratorsBench$Case;I)Z"⟩, 12), (⟨"ModeratorsBench$Case", "guiltStands", "()Z"⟩, 12), (⟨"ModeratorsBench", "climbLadder", "(ILModeratorsBench$Case;)V"⟩, 10), (⟨"ModeratorsBench$Ladder", "restart", "()V"⟩, 8), (⟨"ModeratorsBench$Case", "bringsStrike", "()Z"⟩, 12)]
theorem lw_r3 : ∀ q ∈ lw_privs_3, lw_okq q := List.forall_mem_cons.mpr ⟨lw_p32, List.forall_mem_cons.mpr ⟨lw_p33, List.forall_mem_cons.mpr ⟨lw_p34, List.forall_mem_cons.mpr ⟨lw_p35, List.forall_mem_cons.mpr ⟨lw_p36, List.forall_mem_cons.mpr ⟨lw_p37, List.forall_mem_cons.mpr ⟨lw_p38, List.forall_mem_cons.mpr ⟨lw_p39, List.forall_mem_cons.mpr ⟨lw_p40, List.forall_mem_cons.mpr ⟨lw_p41, List.forall_mem_cons.mpr ⟨lw_p42, List.forall_mem_cons.mpr ⟨lw_p43, List.forall_mem_cons.mpr ⟨lw_p44, List.forall_mem_cons.mpr ⟨lw_p45, List.forall_mem_cons.mpr ⟨lw_p46, List.forall_mem_cons.mpr ⟨lw_p47, fun _ h => absurd h List.not_mem_nil⟩⟩⟩⟩⟩⟩⟩⟩⟩⟩⟩⟩⟩⟩⟩⟩
theorem lw_p48 : lw_okq (⟨"ModeratorsBench$Ladder", "climb", "(II)V"⟩, 8) := ⟨⟨by decide +kernel, by decide +kernel⟩, List.mem_of_getElem? (i := 59) (by decide +kernel), List.mem_of_getElem? (i := 715) (by decide +kernel), List.mem_of_getElem? (i := 716) (by decide +kernel)⟩
theorem lw_p49 : lw_okq (⟨"ModeratorsBench$Ladder", "holdingAt", "(I)I"⟩, 8) := ⟨⟨by decide +kernel, by decide +kernel⟩, List.mem_of_getElem? (i := 59) (by decide +kernel), List.mem_of_getElem? (i := 719) (by decide +kernel), List.mem_of_getElem? (i := 720) (by decide +kernel)⟩
theorem lw_p50 : lw_okq (⟨"ModeratorsBench", "timesWarned", "(I)I"⟩, 10) := ⟨⟨by decide +kernel, by decide +kernel⟩, List.mem_of_getElem? (i := 21) (by decide +kernel), List.mem_of_getElem? (i := 725) (by decide +kernel), List.mem_of_getElem? (i := 726) (by decide +kernel)⟩
theorem lw_p51 : lw_okq (⟨"ModeratorsBench", "postsOf", "(IZ)I"⟩, 10) := ⟨⟨by decide +kernel, by decide +kernel⟩, List.mem_of_getElem? (i := 21) (by decide +kernel), List.mem_of_getElem? (i := 729) (by decide +kernel), List.mem_of_getElem? (i := 730) (by decide +kernel)⟩
theorem lw_p52 : lw_okq (⟨"ModeratorsBench$Post", "isHidden", "()Z"⟩, 7) := ⟨⟨by decide +kernel, by decide +kernel⟩, List.mem_of_getElem? (i := 228) (by decide +kernel), List.mem_of_getElem? (i := 733) (by decide +kernel), List.mem_of_getElem? (i := 734) (by decide +kernel)⟩
theorem lw_p53 : lw_okq (⟨"ModeratorsBench", "undecidedCases", "()I"⟩, 10) := ⟨⟨by decide +kernel, by decide +kernel⟩, List.mem_of_getElem? (i := 21) (by decide +kernel), List.mem_of_getElem? (i := 750) (by decide +kernel), List.mem_of_getElem? (i := 751) (by decide +kernel)⟩
theorem lw_p54 : lw_okq (⟨"ModeratorsBench$Case", "staysWithinAsked", "()Z"⟩, 12) := ⟨⟨by decide +kernel, by decide +kernel⟩, List.mem_of_getElem? (i := 345) (by decide +kernel), List.mem_of_getElem? (i := 758) (by decide +kernel), List.mem_of_getElem? (i := 759) (by decide +kernel)⟩
theorem lw_p55 : lw_okq (⟨"ModeratorsBench$Case", "everyJudgeOnce", "()Z"⟩, 12) := ⟨⟨by decide +kernel, by decide +kernel⟩, List.mem_of_getElem? (i := 345) (by decide +kernel), List.mem_of_getElem? (i := 762) (by decide +kernel), List.mem_of_getElem? (i := 763) (by decide +kernel)⟩
theorem lw_p56 : lw_okq (⟨"ModeratorsBenchModel", "giveBack", "(I)V"⟩, 47) := ⟨⟨by decide +kernel, by decide +kernel⟩, List.mem_of_getElem? (i := 766) (by decide +kernel), List.mem_of_getElem? (i := 964) (by decide +kernel), List.mem_of_getElem? (i := 965) (by decide +kernel)⟩
theorem lw_p57 : lw_okq (⟨"ModeratorsBenchModel", "nextOf", "(I)I"⟩, 47) := ⟨⟨by decide +kernel, by decide +kernel⟩, List.mem_of_getElem? (i := 766) (by decide +kernel), List.mem_of_getElem? (i := 972) (by decide +kernel), List.mem_of_getElem? (i := 973) (by decide +kernel)⟩
theorem lw_p58 : lw_okq (⟨"ModeratorsBenchModel", "mayHave", "(II)Z"⟩, 47) := ⟨⟨by decide +kernel, by decide +kernel⟩, List.mem_of_getElem? (i := 766) (by decide +kernel), List.mem_of_getElem? (i := 976) (by decide +kernel), List.mem_of_getElem? (i := 977) (by decide +kernel)⟩
theorem lw_p59 : lw_okq (⟨"ModeratorsBenchModel", "isAsking", "(I)Z"⟩, 47) := ⟨⟨by decide +kernel, by decide +kernel⟩, List.mem_of_getElem? (i := 766) (by decide +kernel), List.mem_of_getElem? (i := 980) (by decide +kernel), List.mem_of_getElem? (i := 981) (by decide +kernel)⟩
theorem lw_p60 : lw_okq (⟨"ModeratorsBenchModel", "giftsOf", "(II)I"⟩, 47) := ⟨⟨by decide +kernel, by decide +kernel⟩, List.mem_of_getElem? (i := 766) (by decide +kernel), List.mem_of_getElem? (i := 984) (by decide +kernel), List.mem_of_getElem? (i := 985) (by decide +kernel)⟩
theorem lw_p61 : lw_okq (⟨"ModeratorsBenchModel", "votesOf", "(I)I"⟩, 47) := ⟨⟨by decide +kernel, by decide +kernel⟩, List.mem_of_getElem? (i := 766) (by decide +kernel), List.mem_of_getElem? (i := 988) (by decide +kernel), List.mem_of_getElem? (i := 989) (by decide +kernel)⟩
theorem lw_p62 : lw_okq (⟨"ModeratorsBenchModel", "timeOf", "(I)I"⟩, 47) := ⟨⟨by decide +kernel, by decide +kernel⟩, List.mem_of_getElem? (i := 766) (by decide +kernel), List.mem_of_getElem? (i := 992) (by decide +kernel), List.mem_of_getElem? (i := 993) (by decide +kernel)⟩
theorem lw_p63 : lw_okq (⟨"ModeratorsBenchModel", "isCase", "(I)Z"⟩, 47) := ⟨⟨by decide +kernel, by decide +kernel⟩, List.mem_of_getElem? (i := 766) (by decide +kernel), List.mem_of_getElem? (i := 1008) (by decide +kernel), List.mem_of_getElem? (i := 1009) (by decide +kernel)⟩
def lw_privs_4 : List (MethodName × Nat) := [(⟨"ModeratorsBench$Ladder", "climb", "(II)V"⟩, 8), (⟨"ModeratorsBench$Ladder", "holdingAt", "(I)I"⟩, 8), (⟨"ModeratorsBench", "timesWarned", "(I)I"⟩, 10), (⟨"ModeratorsBench", "postsOf", "(IZ)I"⟩, 10), (⟨"ModeratorsBench$Post", "isHidden", "()Z"⟩, 7), (⟨"ModeratorsBench", "undecidedCases", "()I"⟩, 10), (⟨"ModeratorsBench$Case", "staysWithinAsked", "()Z"⟩, 12), (⟨"ModeratorsBench$Case", "everyJudgeOnce", "()Z"⟩, 12), (⟨"ModeratorsBenchModel", "giveBack", "(I)V"⟩, 47), (⟨"ModeratorsBenchModel", "nextOf", "(I)I"⟩, 47), (⟨"ModeratorsBenchModel", "mayHave", "(II)Z"⟩, 47), (⟨"ModeratorsBenchModel", "isAsking", "(I)Z"⟩, 47), (⟨"ModeratorsBenchModel", "giftsOf", "(II)I"⟩, 47), (⟨"ModeratorsBenchModel", "votesOf", "(I)I"⟩, 47), (⟨"ModeratorsBenchModel", "timeOf", "(I)I"⟩, 47), (⟨"ModeratorsBenchModel", "isCase", "(I)Z"⟩, 47)]
theorem lw_r4 : ∀ q ∈ lw_privs_4, lw_okq q := List.forall_mem_cons.mpr ⟨lw_p48, List.forall_mem_cons.mpr ⟨lw_p49, List.forall_mem_cons.mpr ⟨lw_p50, List.forall_mem_cons.mpr ⟨lw_p51, List.forall_mem_cons.mpr ⟨lw_p52, List.forall_mem_cons.mpr ⟨lw_p53, List.forall_mem_cons.mpr ⟨lw_p54, List.forall_mem_cons.mpr ⟨lw_p55, List.forall_mem_cons.mpr ⟨lw_p56, List.forall_mem_cons.mpr ⟨lw_p57, List.forall_mem_cons.mpr ⟨lw_p58, List.forall_mem_cons.mpr ⟨lw_p59, List.forall_mem_cons.mpr ⟨lw_p60, List.forall_mem_cons.mpr ⟨lw_p61, List.forall_mem_cons.mpr ⟨lw_p62, List.forall_mem_cons.mpr ⟨lw_p63, fun _ h => absurd h List.not_mem_nil⟩⟩⟩⟩⟩⟩⟩⟩⟩⟩⟩⟩⟩⟩⟩⟩
theorem lw_p64 : lw_okq (⟨"ModeratorsBenchModel", "settle", "(I)V"⟩, 47) := ⟨⟨by decide +kernel, by decide +kernel⟩, List.mem_of_getElem? (i := 766) (by decide +kernel), List.mem_of_getElem? (i := 1016) (by decide +kernel), List.mem_of_getElem? (i := 1017) (by decide +kernel)⟩
theorem lw_p65 : lw_okq (⟨"ModeratorsBenchModel", "lookAtJudges", "()V"⟩, 47) := ⟨⟨by decide +kernel, by decide +kernel⟩, List.mem_of_getElem? (i := 766) (by decide +kernel), List.mem_of_getElem? (i := 1020) (by decide +kernel), List.mem_of_getElem? (i := 1021) (by decide +kernel)⟩
theorem lw_p66 : lw_okq (⟨"ModeratorsBenchModel", "doubt", "(IZ)I"⟩, 47) := ⟨⟨by decide +kernel, by decide +kernel⟩, List.mem_of_getElem? (i := 766) (by decide +kernel), List.mem_of_getElem? (i := 1024) (by decide +kernel), List.mem_of_getElem? (i := 1025) (by decide +kernel)⟩
theorem lw_p67 : lw_okq (⟨"ModeratorsBenchModel", "against", "(I)I"⟩, 47) := ⟨⟨by decide +kernel, by decide +kernel⟩, List.mem_of_getElem? (i := 766) (by decide +kernel), List.mem_of_getElem? (i := 1028) (by decide +kernel), List.mem_of_getElem? (i := 1029) (by decide +kernel)⟩
theorem lw_p68 : lw_okq (⟨"ModeratorsBenchModel", "lateBy", "(I)I"⟩, 47) := ⟨⟨by decide +kernel, by decide +kernel⟩, List.mem_of_getElem? (i := 766) (by decide +kernel), List.mem_of_getElem? (i := 1040) (by decide +kernel), List.mem_of_getElem? (i := 1041) (by decide +kernel)⟩
theorem lw_p69 : lw_okq (⟨"ModeratorsBenchModel", "likeOnes", "(III)I"⟩, 47) := ⟨⟨by decide +kernel, by decide +kernel⟩, List.mem_of_getElem? (i := 766) (by decide +kernel), List.mem_of_getElem? (i := 1064) (by decide +kernel), List.mem_of_getElem? (i := 1065) (by decide +kernel)⟩
theorem lw_p70 : lw_okq (⟨"ModeratorsBenchModel", "findStrikes", "(I)V"⟩, 47) := ⟨⟨by decide +kernel, by decide +kernel⟩, List.mem_of_getElem? (i := 766) (by decide +kernel), List.mem_of_getElem? (i := 1076) (by decide +kernel), List.mem_of_getElem? (i := 1077) (by decide +kernel)⟩
theorem lw_p71 : lw_okq (⟨"ModeratorsBenchModel", "stands", "(I)Z"⟩, 47) := ⟨⟨by decide +kernel, by decide +kernel⟩, List.mem_of_getElem? (i := 766) (by decide +kernel), List.mem_of_getElem? (i := 1080) (by decide +kernel), List.mem_of_getElem? (i := 1081) (by decide +kernel)⟩
theorem lw_p72 : lw_okq (⟨"ModeratorsBenchModel", "isHidden", "(I)Z"⟩, 47) := ⟨⟨by decide +kernel, by decide +kernel⟩, List.mem_of_getElem? (i := 766) (by decide +kernel), List.mem_of_getElem? (i := 1084) (by decide +kernel), List.mem_of_getElem? (i := 1085) (by decide +kernel)⟩
def lw_privs_5 : List (MethodName × Nat) := [(⟨"ModeratorsBenchModel", "settle", "(I)V"⟩, 47), (⟨"ModeratorsBenchModel", "lookAtJudges", "()V"⟩, 47), (⟨"ModeratorsBenchModel", "doubt", "(IZ)I"⟩, 47), (⟨"ModeratorsBenchModel", "against", "(I)I"⟩, 47), (⟨"ModeratorsBenchModel", "lateBy", "(I)I"⟩, 47), (⟨"ModeratorsBenchModel", "likeOnes", "(III)I"⟩, 47), (⟨"ModeratorsBenchModel", "findStrikes", "(I)V"⟩, 47), (⟨"ModeratorsBenchModel", "stands", "(I)Z"⟩, 47), (⟨"ModeratorsBenchModel", "isHidden", "(I)Z"⟩, 47)]
theorem lw_r5 : ∀ q ∈ lw_privs_5, lw_okq q := List.forall_mem_cons.mpr ⟨lw_p64, List.forall_mem_cons.mpr ⟨lw_p65, List.forall_mem_cons.mpr ⟨lw_p66, List.forall_mem_cons.mpr ⟨lw_p67, List.forall_mem_cons.mpr ⟨lw_p68, List.forall_mem_cons.mpr ⟨lw_p69, List.forall_mem_cons.mpr ⟨lw_p70, List.forall_mem_cons.mpr ⟨lw_p71, List.forall_mem_cons.mpr ⟨lw_p72, fun _ h => absurd h List.not_mem_nil⟩⟩⟩⟩⟩⟩⟩⟩⟩
def lw_privs : List (MethodName × Nat) := lw_privs_1 ++ (lw_privs_2 ++ (lw_privs_3 ++ (lw_privs_4 ++ (lw_privs_5))))
def lw_tbl : List Cond := k2_sels lw_privs ++ tables_1
theorem lw_privs_ok : ∀ q ∈ lw_privs, lw_okq q := by
  show ∀ q ∈ lw_privs_1 ++ (lw_privs_2 ++ (lw_privs_3 ++ (lw_privs_4 ++ (lw_privs_5)))), lw_okq q
  exact List.forall_mem_append.mpr ⟨lw_r1, List.forall_mem_append.mpr ⟨lw_r2, List.forall_mem_append.mpr ⟨lw_r3, List.forall_mem_append.mpr ⟨lw_r4, lw_r5⟩⟩⟩⟩
def RX0 : String := "ModeratorsBench$Case"
def TX0 : u_T := fun k => match k with
  | 0 => ("ModeratorsBench$Case", "number", "I", true)
  | 1 => ("ModeratorsBench$Case", "post", "LModeratorsBench$Post;", true)
  | 2 => ("ModeratorsBench$Case", "rule", "LModeratorsBench$Rule;", true)
  | 3 => ("ModeratorsBench$Case", "grade", "I", true)
  | 4 => ("ModeratorsBench$Case", "first", "LModeratorsBench$Hearing;", true)
  | 5 => ("ModeratorsBench$Case", "second", "LModeratorsBench$Hearing;", false)
  | 6 => ("ModeratorsBench$Case", "since", "I", false)
  | 7 => ("ModeratorsBench$Case", "complaints", "I", false)
  | 8 => ("ModeratorsBench$Case", "state", "I", false)
  | 9 => ("ModeratorsBench$Case", "knownGuilt", "I", false)
  | 10 => ("ModeratorsBench$Case", "holders", "I", false)
  | _ => ("ModeratorsBench$Case", "nextOfPost", "LModeratorsBench$Case;", false)
def tyX0 : Nat → FieldType := fun k => match k with
  | 0 => .int
  | 1 => .object "ModeratorsBench$Post"
  | 2 => .object "ModeratorsBench$Rule"
  | 3 => .int
  | 4 => .object "ModeratorsBench$Hearing"
  | 5 => .object "ModeratorsBench$Hearing"
  | 6 => .int
  | 7 => .int
  | 8 => .int
  | 9 => .int
  | 10 => .int
  | _ => .object "ModeratorsBench$Case"
abbrev wsX00 : List Cond := u_ws RX0 TX0 12
theorem nmX0 : ∀ a, a < 12 → ∀ b, b < 12 → a ≠ b → (TX0 a).2.1 ≠ (TX0 b).2.1 := by decide +kernel
theorem tyX0_ok : ∀ k, k < 12 → parseFieldDescriptor (TX0 k).2.2.1 = some (tyX0 k) := by decide +kernel
abbrev cX0_init : ByteArray := prog_2_method_1_code
def yX0_init : MethodName := ⟨RX0, "<init>", "(ILModeratorsBench$Post;LModeratorsBench$Rule;I)V"⟩
abbrev cX0_hearing : ByteArray := prog_2_method_2_code
def yX0_hearing : MethodName := ⟨RX0, "hearing", "()LModeratorsBench$Hearing;"⟩
abbrev cX0_isUndecided : ByteArray := prog_2_method_3_code
def yX0_isUndecided : MethodName := ⟨RX0, "isUndecided", "()Z"⟩
abbrev cX0_guiltStands : ByteArray := prog_2_method_4_code
def yX0_guiltStands : MethodName := ⟨RX0, "guiltStands", "()Z"⟩
abbrev cX0_bringsStrike : ByteArray := prog_2_method_5_code
def yX0_bringsStrike : MethodName := ⟨RX0, "bringsStrike", "()Z"⟩
abbrev cX0_giftsOut : ByteArray := prog_2_method_6_code
def yX0_giftsOut : MethodName := ⟨RX0, "giftsOut", "()I"⟩
abbrev cX0_wantsJudges : ByteArray := prog_2_method_7_code
def yX0_wantsJudges : MethodName := ⟨RX0, "wantsJudges", "()Z"⟩
abbrev cX0_isHeldBy : ByteArray := prog_2_method_8_code
def yX0_isHeldBy : MethodName := ⟨RX0, "isHeldBy", "(LModeratorsBench$Judge;)Z"⟩
abbrev cX0_hasVoteOf : ByteArray := prog_2_method_9_code
def yX0_hasVoteOf : MethodName := ⟨RX0, "hasVoteOf", "(LModeratorsBench$Judge;)Z"⟩
abbrev cX0_hearAgain : ByteArray := prog_2_method_10_code
def yX0_hearAgain : MethodName := ⟨RX0, "hearAgain", "(I)V"⟩
abbrev cX0_close : ByteArray := prog_2_method_11_code
def yX0_close : MethodName := ⟨RX0, "close", "()V"⟩
abbrev cX0_latestJudgement : ByteArray := prog_2_method_12_code
def yX0_latestJudgement : MethodName := ⟨RX0, "latestJudgement", "()LModeratorsBench$Hearing;"⟩
abbrev cX0_timesJudged : ByteArray := prog_2_method_13_code
def yX0_timesJudged : MethodName := ⟨RX0, "timesJudged", "()I"⟩
abbrev cX0_isAlike : ByteArray := prog_2_method_14_code
def yX0_isAlike : MethodName := ⟨RX0, "isAlike", "(LModeratorsBench$Case;I)Z"⟩
abbrev cX0_standOf : ByteArray := prog_2_method_15_code
def yX0_standOf : MethodName := ⟨RX0, "standOf", "(LModeratorsBench$Judge;)I"⟩
abbrev cX0_staysWithinAsked : ByteArray := prog_2_method_16_code
def yX0_staysWithinAsked : MethodName := ⟨RX0, "staysWithinAsked", "()Z"⟩
abbrev cX0_everyJudgeOnce : ByteArray := prog_2_method_17_code
def yX0_everyJudgeOnce : MethodName := ⟨RX0, "everyJudgeOnce", "()Z"⟩
def RX1 : String := "ModeratorsBench$Gift"
def TX1 : u_T := fun k => match k with
  | 0 => ("ModeratorsBench$Gift", "judge", "LModeratorsBench$Judge;", true)
  | _ => ("ModeratorsBench$Gift", "held", "LModeratorsBench$Case;", true)
def tyX1 : Nat → FieldType := fun k => match k with
  | 0 => .object "ModeratorsBench$Judge"
  | _ => .object "ModeratorsBench$Case"
abbrev wsX10 : List Cond := u_ws RX1 TX1 2
theorem nmX1 : ∀ a, a < 2 → ∀ b, b < 2 → a ≠ b → (TX1 a).2.1 ≠ (TX1 b).2.1 := by decide +kernel
theorem tyX1_ok : ∀ k, k < 2 → parseFieldDescriptor (TX1 k).2.2.1 = some (tyX1 k) := by decide +kernel
abbrev cX1_init : ByteArray := prog_3_method_1_code
def yX1_init : MethodName := ⟨RX1, "<init>", "(LModeratorsBench$Judge;LModeratorsBench$Case;)V"⟩
def RX2 : String := "ModeratorsBench$Hearing"
def TX2 : u_T := fun k => match k with
  | 0 => ("ModeratorsBench$Hearing", "asks", "I", false)
  | 1 => ("ModeratorsBench$Hearing", "timesMore", "I", false)
  | 2 => ("ModeratorsBench$Hearing", "voters", "I", false)
  | 3 => ("ModeratorsBench$Hearing", "guiltyVoters", "I", false)
  | 4 => ("ModeratorsBench$Hearing", "guiltyWeight", "I", false)
  | 5 => ("ModeratorsBench$Hearing", "otherWeight", "I", false)
  | _ => ("ModeratorsBench$Hearing", "over", "Z", false)
def tyX2 : Nat → FieldType := fun k => match k with
  | 0 => .int
  | 1 => .int
  | 2 => .int
  | 3 => .int
  | 4 => .int
  | 5 => .int
  | _ => .boolean
abbrev wsX20 : List Cond := u_ws RX2 TX2 7
theorem nmX2 : ∀ a, a < 7 → ∀ b, b < 7 → a ≠ b → (TX2 a).2.1 ≠ (TX2 b).2.1 := by decide +kernel
theorem tyX2_ok : ∀ k, k < 7 → parseFieldDescriptor (TX2 k).2.2.1 = some (tyX2 k) := by decide +kernel
abbrev cX2_init : ByteArray := prog_4_method_1_code
def yX2_init : MethodName := ⟨RX2, "<init>", "(I)V"⟩
abbrev cX2_votes : ByteArray := prog_4_method_2_code
def yX2_votes : MethodName := ⟨RX2, "votes", "()I"⟩
abbrev cX2_cast : ByteArray := prog_4_method_3_code
def yX2_cast : MethodName := ⟨RX2, "cast", "(LModeratorsBench$Judge;Z)V"⟩
abbrev cX2_isAgreed : ByteArray := prog_4_method_4_code
def yX2_isAgreed : MethodName := ⟨RX2, "isAgreed", "()Z"⟩
abbrev cX2_mayAskMore : ByteArray := prog_4_method_5_code
def yX2_mayAskMore : MethodName := ⟨RX2, "mayAskMore", "()Z"⟩
abbrev cX2_askMore : ByteArray := prog_4_method_6_code
def yX2_askMore : MethodName := ⟨RX2, "askMore", "()V"⟩
abbrev cX2_findsGuilty : ByteArray := prog_4_method_7_code
def yX2_findsGuilty : MethodName := ⟨RX2, "findsGuilty", "()Z"⟩
abbrev cX2_hasVoter : ByteArray := prog_4_method_8_code
def yX2_hasVoter : MethodName := ⟨RX2, "hasVoter", "(LModeratorsBench$Judge;)Z"⟩
abbrev cX2_standAgainst : ByteArray := prog_4_method_9_code
def yX2_standAgainst : MethodName := ⟨RX2, "standAgainst", "(LModeratorsBench$Judge;I)I"⟩
def RX3 : String := "ModeratorsBench$Judge"
def TX3 : u_T := fun k => match k with
  | 0 => ("ModeratorsBench$Judge", "bit", "I", true)
  | 1 => ("ModeratorsBench$Judge", "skills", "I", false)
  | 2 => ("ModeratorsBench$Judge", "kinBits", "J", false)
  | 3 => ("ModeratorsBench$Judge", "load", "I", false)
  | 4 => ("ModeratorsBench$Judge", "weight", "I", false)
  | 5 => ("ModeratorsBench$Judge", "rests", "Z", false)
  | 6 => ("ModeratorsBench$Judge", "gifts", "I", false)
  | _ => ("ModeratorsBench$Judge", "votes", "I", false)
def tyX3 : Nat → FieldType := fun k => match k with
  | 0 => .int
  | 1 => .int
  | 2 => .long
  | 3 => .int
  | 4 => .int
  | 5 => .boolean
  | 6 => .int
  | _ => .int
abbrev wsX30 : List Cond := u_ws RX3 TX3 8
theorem nmX3 : ∀ a, a < 8 → ∀ b, b < 8 → a ≠ b → (TX3 a).2.1 ≠ (TX3 b).2.1 := by decide +kernel
theorem tyX3_ok : ∀ k, k < 8 → parseFieldDescriptor (TX3 k).2.2.1 = some (tyX3 k) := by decide +kernel
abbrev cX3_init : ByteArray := prog_5_method_1_code
def yX3_init : MethodName := ⟨RX3, "<init>", "(I)V"⟩
abbrev cX3_isFree : ByteArray := prog_5_method_2_code
def yX3_isFree : MethodName := ⟨RX3, "isFree", "()Z"⟩
abbrev cX3_isSkilledIn : ByteArray := prog_5_method_3_code
def yX3_isSkilledIn : MethodName := ⟨RX3, "isSkilledIn", "(I)Z"⟩
abbrev cX3_isKinOf : ByteArray := prog_5_method_4_code
def yX3_isKinOf : MethodName := ⟨RX3, "isKinOf", "(I)Z"⟩
abbrev cX3_setKin : ByteArray := prog_5_method_5_code
def yX3_setKin : MethodName := ⟨RX3, "setKin", "(IZ)V"⟩
def RX4 : String := "ModeratorsBench$Ladder"
def TX4 : u_T := fun k => match k with
  | 0 => ("ModeratorsBench$Ladder", "fade", "I", false)
  | 1 => ("ModeratorsBench$Ladder", "quiet", "I", false)
  | 2 => ("ModeratorsBench$Ladder", "strikeTicks", "[I", true)
  | 3 => ("ModeratorsBench$Ladder", "strikes", "I", false)
  | 4 => ("ModeratorsBench$Ladder", "faded", "I", false)
  | 5 => ("ModeratorsBench$Ladder", "level", "I", false)
  | 6 => ("ModeratorsBench$Ladder", "silent", "Z", false)
  | _ => ("ModeratorsBench$Ladder", "goneFrom", "I", false)
def tyX4 : Nat → FieldType := fun k => match k with
  | 0 => .int
  | 1 => .int
  | 2 => .array .int
  | 3 => .int
  | 4 => .int
  | 5 => .int
  | 6 => .boolean
  | _ => .int
abbrev wsX40 : List Cond := u_ws RX4 TX4 8
theorem nmX4 : ∀ a, a < 8 → ∀ b, b < 8 → a ≠ b → (TX4 a).2.1 ≠ (TX4 b).2.1 := by decide +kernel
theorem tyX4_ok : ∀ k, k < 8 → parseFieldDescriptor (TX4 k).2.2.1 = some (tyX4 k) := by decide +kernel
abbrev cX4_init : ByteArray := prog_6_method_1_code
def yX4_init : MethodName := ⟨RX4, "<init>", "()V"⟩
abbrev cX4_restart : ByteArray := prog_6_method_2_code
def yX4_restart : MethodName := ⟨RX4, "restart", "()V"⟩
abbrev cX4_climb : ByteArray := prog_6_method_3_code
def yX4_climb : MethodName := ⟨RX4, "climb", "(II)V"⟩
abbrev cX4_holdingAt : ByteArray := prog_6_method_4_code
def yX4_holdingAt : MethodName := ⟨RX4, "holdingAt", "(I)I"⟩
def RX5 : String := "ModeratorsBench$Post"
def TX5 : u_T := fun k => match k with
  | 0 => ("ModeratorsBench$Post", "number", "I", true)
  | 1 => ("ModeratorsBench$Post", "author", "I", true)
  | 2 => ("ModeratorsBench$Post", "reach", "I", true)
  | 3 => ("ModeratorsBench$Post", "marks", "I", true)
  | 4 => ("ModeratorsBench$Post", "came", "I", true)
  | 5 => ("ModeratorsBench$Post", "firstCase", "LModeratorsBench$Case;", false)
  | _ => ("ModeratorsBench$Post", "lastCase", "LModeratorsBench$Case;", false)
def tyX5 : Nat → FieldType := fun k => match k with
  | 0 => .int
  | 1 => .int
  | 2 => .int
  | 3 => .int
  | 4 => .int
  | 5 => .object "ModeratorsBench$Case"
  | _ => .object "ModeratorsBench$Case"
abbrev wsX50 : List Cond := u_ws RX5 TX5 7
theorem nmX5 : ∀ a, a < 7 → ∀ b, b < 7 → a ≠ b → (TX5 a).2.1 ≠ (TX5 b).2.1 := by decide +kernel
theorem tyX5_ok : ∀ k, k < 7 → parseFieldDescriptor (TX5 k).2.2.1 = some (tyX5 k) := by decide +kernel
abbrev cX5_init : ByteArray := prog_7_method_1_code
def yX5_init : MethodName := ⟨RX5, "<init>", "(IIIII)V"⟩
abbrev cX5_addCase : ByteArray := prog_7_method_2_code
def yX5_addCase : MethodName := ⟨RX5, "addCase", "(LModeratorsBench$Case;)V"⟩
abbrev cX5_caseUnder : ByteArray := prog_7_method_3_code
def yX5_caseUnder : MethodName := ⟨RX5, "caseUnder", "(I)LModeratorsBench$Case;"⟩
abbrev cX5_isHidden : ByteArray := prog_7_method_4_code
def yX5_isHidden : MethodName := ⟨RX5, "isHidden", "()Z"⟩
def RX6 : String := "ModeratorsBench$Rule"
def TX6 : u_T := fun k => match k with
  | 0 => ("ModeratorsBench$Rule", "number", "I", true)
  | 1 => ("ModeratorsBench$Rule", "grade", "I", false)
  | 2 => ("ModeratorsBench$Rule", "harm", "I", false)
  | _ => ("ModeratorsBench$Rule", "follows", "I", false)
def tyX6 : Nat → FieldType := fun k => match k with
  | 0 => .int
  | 1 => .int
  | 2 => .int
  | _ => .int
abbrev wsX60 : List Cond := u_ws RX6 TX6 4
theorem nmX6 : ∀ a, a < 4 → ∀ b, b < 4 → a ≠ b → (TX6 a).2.1 ≠ (TX6 b).2.1 := by decide +kernel
theorem tyX6_ok : ∀ k, k < 4 → parseFieldDescriptor (TX6 k).2.2.1 = some (tyX6 k) := by decide +kernel
abbrev cX6_init : ByteArray := prog_8_method_1_code
def yX6_init : MethodName := ⟨RX6, "<init>", "(I)V"⟩
def RX7 : String := "ModeratorsBench"
def TX7 : u_T := fun k => match k with
  | 0 => ("ModeratorsBench", "rules", "[LModeratorsBench$Rule;", true)
  | 1 => ("ModeratorsBench", "judges", "[LModeratorsBench$Judge;", true)
  | 2 => ("ModeratorsBench", "posts", "Ljava/util/ArrayList;", true)
  | 3 => ("ModeratorsBench", "cases", "Ljava/util/ArrayList;", true)
  | 4 => ("ModeratorsBench", "gifts", "Ljava/util/ArrayList;", true)
  | 5 => ("ModeratorsBench", "dueOfGrade", "[I", true)
  | 6 => ("ModeratorsBench", "ladder", "LModeratorsBench$Ladder;", true)
  | 7 => ("ModeratorsBench", "now", "I", false)
  | 8 => ("ModeratorsBench", "doubtLimit", "I", false)
  | _ => ("ModeratorsBench", "judgements", "I", false)
def tyX7 : Nat → FieldType := fun k => match k with
  | 0 => .array (.object "ModeratorsBench$Rule")
  | 1 => .array (.object "ModeratorsBench$Judge")
  | 2 => .object "java/util/ArrayList"
  | 3 => .object "java/util/ArrayList"
  | 4 => .object "java/util/ArrayList"
  | 5 => .array .int
  | 6 => .object "ModeratorsBench$Ladder"
  | 7 => .int
  | 8 => .int
  | _ => .int
abbrev wsX70 : List Cond := u_ws RX7 TX7 10
theorem nmX7 : ∀ a, a < 10 → ∀ b, b < 10 → a ≠ b → (TX7 a).2.1 ≠ (TX7 b).2.1 := by decide +kernel
theorem tyX7_ok : ∀ k, k < 10 → parseFieldDescriptor (TX7 k).2.2.1 = some (tyX7 k) := by decide +kernel
abbrev cX7_init : ByteArray := prog_1_method_1_code
def yX7_init : MethodName := ⟨RX7, "<init>", "()V"⟩
abbrev cX7_tick : ByteArray := prog_1_method_2_code
def yX7_tick : MethodName := ⟨RX7, "tick", "(I)I"⟩
abbrev cX7_rule : ByteArray := prog_1_method_3_code
def yX7_rule : MethodName := ⟨RX7, "rule", "(IIII)I"⟩
abbrev cX7_ladder : ByteArray := prog_1_method_4_code
def yX7_ladder : MethodName := ⟨RX7, "ladder", "(II)I"⟩
abbrev cX7_due : ByteArray := prog_1_method_5_code
def yX7_due : MethodName := ⟨RX7, "due", "(II)I"⟩
abbrev cX7_limit : ByteArray := prog_1_method_6_code
def yX7_limit : MethodName := ⟨RX7, "limit", "(I)I"⟩
abbrev cX7_post : ByteArray := prog_1_method_7_code
def yX7_post : MethodName := ⟨RX7, "post", "(III)I"⟩
abbrev cX7_complain : ByteArray := prog_1_method_8_code
def yX7_complain : MethodName := ⟨RX7, "complain", "(II)I"⟩
abbrev cX7_judge : ByteArray := prog_1_method_9_code
def yX7_judge : MethodName := ⟨RX7, "judge", "(IIII)I"⟩
abbrev cX7_kin : ByteArray := prog_1_method_10_code
def yX7_kin : MethodName := ⟨RX7, "kin", "(III)I"⟩
abbrev cX7_rest : ByteArray := prog_1_method_11_code
def yX7_rest : MethodName := ⟨RX7, "rest", "(II)I"⟩
abbrev cX7_next : ByteArray := prog_1_method_12_code
def yX7_next : MethodName := ⟨RX7, "next", "(I)I"⟩
abbrev cX7_give : ByteArray := prog_1_method_13_code
def yX7_give : MethodName := ⟨RX7, "give", "(I)I"⟩
abbrev cX7_undo : ByteArray := prog_1_method_14_code
def yX7_undo : MethodName := ⟨RX7, "undo", "()I"⟩
abbrev cX7_vote : ByteArray := prog_1_method_15_code
def yX7_vote : MethodName := ⟨RX7, "vote", "(III)I"⟩
abbrev cX7_may : ByteArray := prog_1_method_16_code
def yX7_may : MethodName := ⟨RX7, "may", "(II)I"⟩
abbrev cX7_told : ByteArray := prog_1_method_17_code
def yX7_told : MethodName := ⟨RX7, "told", "(II)I"⟩
abbrev cX7_about : ByteArray := prog_1_method_18_code
def yX7_about : MethodName := ⟨RX7, "about", "(II)I"⟩
abbrev cX7_judged : ByteArray := prog_1_method_19_code
def yX7_judged : MethodName := ⟨RX7, "judged", "(II)I"⟩
abbrev cX7_appeal : ByteArray := prog_1_method_20_code
def yX7_appeal : MethodName := ⟨RX7, "appeal", "(I)I"⟩
abbrev cX7_known : ByteArray := prog_1_method_21_code
def yX7_known : MethodName := ⟨RX7, "known", "(II)I"⟩
abbrev cX7_late : ByteArray := prog_1_method_22_code
def yX7_late : MethodName := ⟨RX7, "late", "()I"⟩
abbrev cX7_like : ByteArray := prog_1_method_23_code
def yX7_like : MethodName := ⟨RX7, "like", "(II)I"⟩
abbrev cX7_unlike : ByteArray := prog_1_method_24_code
def yX7_unlike : MethodName := ⟨RX7, "unlike", "(II)I"⟩
abbrev cX7_writer : ByteArray := prog_1_method_25_code
def yX7_writer : MethodName := ⟨RX7, "writer", "(II)I"⟩
abbrev cX7_level : ByteArray := prog_1_method_26_code
def yX7_level : MethodName := ⟨RX7, "level", "(I)I"⟩
abbrev cX7_hidden : ByteArray := prog_1_method_27_code
def yX7_hidden : MethodName := ⟨RX7, "hidden", "(I)I"⟩
abbrev cX7_count : ByteArray := prog_1_method_28_code
def yX7_count : MethodName := ⟨RX7, "count", "(I)I"⟩
abbrev cX7_check : ByteArray := prog_1_method_29_code
def yX7_check : MethodName := ⟨RX7, "check", "()I"⟩
abbrev cX7_ruleAt : ByteArray := prog_1_method_30_code
def yX7_ruleAt : MethodName := ⟨RX7, "ruleAt", "(I)LModeratorsBench$Rule;"⟩
abbrev cX7_judgeAt : ByteArray := prog_1_method_31_code
def yX7_judgeAt : MethodName := ⟨RX7, "judgeAt", "(I)LModeratorsBench$Judge;"⟩
abbrev cX7_postAt : ByteArray := prog_1_method_32_code
def yX7_postAt : MethodName := ⟨RX7, "postAt", "(I)LModeratorsBench$Post;"⟩
abbrev cX7_caseAt : ByteArray := prog_1_method_33_code
def yX7_caseAt : MethodName := ⟨RX7, "caseAt", "(I)LModeratorsBench$Case;"⟩
abbrev cX7_within : ByteArray := prog_1_method_34_code
def yX7_within : MethodName := ⟨RX7, "within", "(III)Z"⟩
abbrev cX7_asNumber : ByteArray := prog_1_method_35_code
def yX7_asNumber : MethodName := ⟨RX7, "asNumber", "(Z)I"⟩
abbrev cX7_mayHave : ByteArray := prog_1_method_36_code
def yX7_mayHave : MethodName := ⟨RX7, "mayHave", "(LModeratorsBench$Judge;LModeratorsBench$Case;)Z"⟩
abbrev cX7_nextFor : ByteArray := prog_1_method_37_code
def yX7_nextFor : MethodName := ⟨RX7, "nextFor", "(LModeratorsBench$Judge;)LModeratorsBench$Case;"⟩
abbrev cX7_giftOf : ByteArray := prog_1_method_38_code
def yX7_giftOf : MethodName := ⟨RX7, "giftOf", "(LModeratorsBench$Judge;LModeratorsBench$Case;)I"⟩
abbrev cX7_takeBack : ByteArray := prog_1_method_39_code
def yX7_takeBack : MethodName := ⟨RX7, "takeBack", "(I)V"⟩
abbrev cX7_layToRest : ByteArray := prog_1_method_40_code
def yX7_layToRest : MethodName := ⟨RX7, "layToRest", "(LModeratorsBench$Judge;)V"⟩
abbrev cX7_settle : ByteArray := prog_1_method_41_code
def yX7_settle : MethodName := ⟨RX7, "settle", "(LModeratorsBench$Case;)V"⟩
abbrev cX7_restDoubtedJudges : ByteArray := prog_1_method_42_code
def yX7_restDoubtedJudges : MethodName := ⟨RX7, "restDoubtedJudges", "()V"⟩
abbrev cX7_askedOf : ByteArray := prog_1_method_43_code
def yX7_askedOf : MethodName := ⟨RX7, "askedOf", "(LModeratorsBench$Judge;)I"⟩
abbrev cX7_stoodAlone : ByteArray := prog_1_method_44_code
def yX7_stoodAlone : MethodName := ⟨RX7, "stoodAlone", "(LModeratorsBench$Judge;)I"⟩
abbrev cX7_lateBy : ByteArray := prog_1_method_45_code
def yX7_lateBy : MethodName := ⟨RX7, "lateBy", "(LModeratorsBench$Case;)I"⟩
abbrev cX7_alike : ByteArray := prog_1_method_46_code
def yX7_alike : MethodName := ⟨RX7, "alike", "(LModeratorsBench$Case;IZ)I"⟩
abbrev cX7_undecidedCases : ByteArray := prog_1_method_47_code
def yX7_undecidedCases : MethodName := ⟨RX7, "undecidedCases", "()I"⟩
abbrev cX7_climbLadder : ByteArray := prog_1_method_48_code
def yX7_climbLadder : MethodName := ⟨RX7, "climbLadder", "(ILModeratorsBench$Case;)V"⟩
abbrev cX7_timesWarned : ByteArray := prog_1_method_49_code
def yX7_timesWarned : MethodName := ⟨RX7, "timesWarned", "(I)I"⟩
abbrev cX7_postsOf : ByteArray := prog_1_method_50_code
def yX7_postsOf : MethodName := ⟨RX7, "postsOf", "(IZ)I"⟩
def RX8 : String := "ModeratorsBenchModel"
def TX8 : u_T := fun k => match k with
  | 0 => ("ModeratorsBenchModel", "tick", "I", false)
  | 1 => ("ModeratorsBenchModel", "grade", "[I", true)
  | 2 => ("ModeratorsBenchModel", "harm", "[I", true)
  | 3 => ("ModeratorsBenchModel", "follows", "[I", true)
  | 4 => ("ModeratorsBenchModel", "due", "[I", true)
  | 5 => ("ModeratorsBenchModel", "fade", "I", false)
  | 6 => ("ModeratorsBenchModel", "quiet", "I", false)
  | 7 => ("ModeratorsBenchModel", "limit", "I", false)
  | 8 => ("ModeratorsBenchModel", "writer", "[I", true)
  | 9 => ("ModeratorsBenchModel", "came", "[I", true)
  | 10 => ("ModeratorsBenchModel", "reach", "[I", true)
  | 11 => ("ModeratorsBenchModel", "marks", "[I", true)
  | 12 => ("ModeratorsBenchModel", "posts", "I", false)
  | 13 => ("ModeratorsBenchModel", "post", "[I", true)
  | 14 => ("ModeratorsBenchModel", "rule", "[I", true)
  | 15 => ("ModeratorsBenchModel", "state", "[I", true)
  | 16 => ("ModeratorsBenchModel", "complaints", "[I", true)
  | 17 => ("ModeratorsBenchModel", "caseGrade", "[I", true)
  | 18 => ("ModeratorsBenchModel", "waitsFrom", "[I", true)
  | 19 => ("ModeratorsBenchModel", "asks", "[I", true)
  | 20 => ("ModeratorsBenchModel", "mores", "[I", true)
  | 21 => ("ModeratorsBenchModel", "times", "[I", true)
  | 22 => ("ModeratorsBenchModel", "known", "[I", true)
  | 23 => ("ModeratorsBenchModel", "result", "[I", true)
  | 24 => ("ModeratorsBenchModel", "lastVotes", "[I", true)
  | 25 => ("ModeratorsBenchModel", "lastGuilty", "[I", true)
  | 26 => ("ModeratorsBenchModel", "lastOthers", "[I", true)
  | 27 => ("ModeratorsBenchModel", "cases", "I", false)
  | 28 => ("ModeratorsBenchModel", "judgements", "I", false)
  | 29 => ("ModeratorsBenchModel", "skills", "[I", true)
  | 30 => ("ModeratorsBenchModel", "kin", "[J", true)
  | 31 => ("ModeratorsBenchModel", "load", "[I", true)
  | 32 => ("ModeratorsBenchModel", "weight", "[I", true)
  | 33 => ("ModeratorsBenchModel", "rests", "[Z", true)
  | 34 => ("ModeratorsBenchModel", "giftJudge", "[I", true)
  | 35 => ("ModeratorsBenchModel", "giftCase", "[I", true)
  | 36 => ("ModeratorsBenchModel", "gifts", "I", false)
  | 37 => ("ModeratorsBenchModel", "voteJudge", "[I", true)
  | 38 => ("ModeratorsBenchModel", "voteCase", "[I", true)
  | 39 => ("ModeratorsBenchModel", "voteTime", "[I", true)
  | 40 => ("ModeratorsBenchModel", "voteGuilty", "[I", true)
  | 41 => ("ModeratorsBenchModel", "voteWeight", "[I", true)
  | 42 => ("ModeratorsBenchModel", "votes", "I", false)
  | 43 => ("ModeratorsBenchModel", "strikeCase", "[I", true)
  | 44 => ("ModeratorsBenchModel", "strikeTick", "[I", true)
  | 45 => ("ModeratorsBenchModel", "strikeLevel", "[I", true)
  | _ => ("ModeratorsBenchModel", "strikes", "I", false)
def tyX8 : Nat → FieldType := fun k => match k with
  | 0 => .int
  | 1 => .array .int
  | 2 => .array .int
  | 3 => .array .int
  | 4 => .array .int
  | 5 => .int
  | 6 => .int
  | 7 => .int
  | 8 => .array .int
  | 9 => .array .int
  | 10 => .array .int
  | 11 => .array .int
  | 12 => .int
  | 13 => .array .int
  | 14 => .array .int
  | 15 => .array .int
  | 16 => .array .int
  | 17 => .array .int
  | 18 => .array .int
  | 19 => .array .int
  | 20 => .array .int
  | 21 => .array .int
  | 22 => .array .int
  | 23 => .array .int
  | 24 => .array .int
  | 25 => .array .int
  | 26 => .array .int
  | 27 => .int
  | 28 => .int
  | 29 => .array .int
  | 30 => .array .long
  | 31 => .array .int
  | 32 => .array .int
  | 33 => .array .boolean
  | 34 => .array .int
  | 35 => .array .int
  | 36 => .int
  | 37 => .array .int
  | 38 => .array .int
  | 39 => .array .int
  | 40 => .array .int
  | 41 => .array .int
  | 42 => .int
  | 43 => .array .int
  | 44 => .array .int
  | 45 => .array .int
  | _ => .int
abbrev wsX80 : List Cond := u_ws RX8 TX8 47
theorem nmX8 : ∀ a, a < 47 → ∀ b, b < 47 → a ≠ b → (TX8 a).2.1 ≠ (TX8 b).2.1 := by decide +kernel
theorem tyX8_ok : ∀ k, k < 47 → parseFieldDescriptor (TX8 k).2.2.1 = some (tyX8 k) := by decide +kernel
abbrev cX8_init : ByteArray := prog_10_method_1_code
def yX8_init : MethodName := ⟨RX8, "<init>", "()V"⟩
abbrev cX8_within : ByteArray := prog_10_method_2_code
def yX8_within : MethodName := ⟨RX8, "within", "(III)Z"⟩
abbrev cX8_isJudge : ByteArray := prog_10_method_3_code
def yX8_isJudge : MethodName := ⟨RX8, "isJudge", "(I)Z"⟩
abbrev cX8_isCase : ByteArray := prog_10_method_4_code
def yX8_isCase : MethodName := ⟨RX8, "isCase", "(I)Z"⟩
abbrev cX8_tick : ByteArray := prog_10_method_5_code
def yX8_tick : MethodName := ⟨RX8, "tick", "(I)I"⟩
abbrev cX8_rule : ByteArray := prog_10_method_6_code
def yX8_rule : MethodName := ⟨RX8, "rule", "(IIII)I"⟩
abbrev cX8_ladder : ByteArray := prog_10_method_7_code
def yX8_ladder : MethodName := ⟨RX8, "ladder", "(II)I"⟩
abbrev cX8_due : ByteArray := prog_10_method_8_code
def yX8_due : MethodName := ⟨RX8, "due", "(II)I"⟩
abbrev cX8_limit : ByteArray := prog_10_method_9_code
def yX8_limit : MethodName := ⟨RX8, "limit", "(I)I"⟩
abbrev cX8_post : ByteArray := prog_10_method_10_code
def yX8_post : MethodName := ⟨RX8, "post", "(III)I"⟩
abbrev cX8_complain : ByteArray := prog_10_method_11_code
def yX8_complain : MethodName := ⟨RX8, "complain", "(II)I"⟩
abbrev cX8_judge : ByteArray := prog_10_method_12_code
def yX8_judge : MethodName := ⟨RX8, "judge", "(IIII)I"⟩
abbrev cX8_kin : ByteArray := prog_10_method_13_code
def yX8_kin : MethodName := ⟨RX8, "kin", "(III)I"⟩
abbrev cX8_giveBack : ByteArray := prog_10_method_14_code
def yX8_giveBack : MethodName := ⟨RX8, "giveBack", "(I)V"⟩
abbrev cX8_rest : ByteArray := prog_10_method_15_code
def yX8_rest : MethodName := ⟨RX8, "rest", "(II)I"⟩
abbrev cX8_isAsking : ByteArray := prog_10_method_16_code
def yX8_isAsking : MethodName := ⟨RX8, "isAsking", "(I)Z"⟩
abbrev cX8_timeOf : ByteArray := prog_10_method_17_code
def yX8_timeOf : MethodName := ⟨RX8, "timeOf", "(I)I"⟩
abbrev cX8_votesOf : ByteArray := prog_10_method_18_code
def yX8_votesOf : MethodName := ⟨RX8, "votesOf", "(I)I"⟩
abbrev cX8_giftsOf : ByteArray := prog_10_method_19_code
def yX8_giftsOf : MethodName := ⟨RX8, "giftsOf", "(II)I"⟩
abbrev cX8_mayHave : ByteArray := prog_10_method_20_code
def yX8_mayHave : MethodName := ⟨RX8, "mayHave", "(II)Z"⟩
abbrev cX8_nextOf : ByteArray := prog_10_method_21_code
def yX8_nextOf : MethodName := ⟨RX8, "nextOf", "(I)I"⟩
abbrev cX8_next : ByteArray := prog_10_method_22_code
def yX8_next : MethodName := ⟨RX8, "next", "(I)I"⟩
abbrev cX8_give : ByteArray := prog_10_method_23_code
def yX8_give : MethodName := ⟨RX8, "give", "(I)I"⟩
abbrev cX8_undo : ByteArray := prog_10_method_24_code
def yX8_undo : MethodName := ⟨RX8, "undo", "()I"⟩
abbrev cX8_may : ByteArray := prog_10_method_25_code
def yX8_may : MethodName := ⟨RX8, "may", "(II)I"⟩
abbrev cX8_against : ByteArray := prog_10_method_26_code
def yX8_against : MethodName := ⟨RX8, "against", "(I)I"⟩
abbrev cX8_doubt : ByteArray := prog_10_method_27_code
def yX8_doubt : MethodName := ⟨RX8, "doubt", "(IZ)I"⟩
abbrev cX8_lookAtJudges : ByteArray := prog_10_method_28_code
def yX8_lookAtJudges : MethodName := ⟨RX8, "lookAtJudges", "()V"⟩
abbrev cX8_vote : ByteArray := prog_10_method_29_code
def yX8_vote : MethodName := ⟨RX8, "vote", "(III)I"⟩
abbrev cX8_settle : ByteArray := prog_10_method_30_code
def yX8_settle : MethodName := ⟨RX8, "settle", "(I)V"⟩
abbrev cX8_told : ByteArray := prog_10_method_31_code
def yX8_told : MethodName := ⟨RX8, "told", "(II)I"⟩
abbrev cX8_lateBy : ByteArray := prog_10_method_32_code
def yX8_lateBy : MethodName := ⟨RX8, "lateBy", "(I)I"⟩
abbrev cX8_about : ByteArray := prog_10_method_33_code
def yX8_about : MethodName := ⟨RX8, "about", "(II)I"⟩
abbrev cX8_judged : ByteArray := prog_10_method_34_code
def yX8_judged : MethodName := ⟨RX8, "judged", "(II)I"⟩
abbrev cX8_appeal : ByteArray := prog_10_method_35_code
def yX8_appeal : MethodName := ⟨RX8, "appeal", "(I)I"⟩
abbrev cX8_known : ByteArray := prog_10_method_36_code
def yX8_known : MethodName := ⟨RX8, "known", "(II)I"⟩
abbrev cX8_late : ByteArray := prog_10_method_37_code
def yX8_late : MethodName := ⟨RX8, "late", "()I"⟩
abbrev cX8_likeOnes : ByteArray := prog_10_method_38_code
def yX8_likeOnes : MethodName := ⟨RX8, "likeOnes", "(III)I"⟩
abbrev cX8_like : ByteArray := prog_10_method_39_code
def yX8_like : MethodName := ⟨RX8, "like", "(II)I"⟩
abbrev cX8_unlike : ByteArray := prog_10_method_40_code
def yX8_unlike : MethodName := ⟨RX8, "unlike", "(II)I"⟩
abbrev cX8_stands : ByteArray := prog_10_method_41_code
def yX8_stands : MethodName := ⟨RX8, "stands", "(I)Z"⟩
abbrev cX8_findStrikes : ByteArray := prog_10_method_42_code
def yX8_findStrikes : MethodName := ⟨RX8, "findStrikes", "(I)V"⟩
abbrev cX8_isHidden : ByteArray := prog_10_method_43_code
def yX8_isHidden : MethodName := ⟨RX8, "isHidden", "(I)Z"⟩
abbrev cX8_writer : ByteArray := prog_10_method_44_code
def yX8_writer : MethodName := ⟨RX8, "writer", "(II)I"⟩
abbrev cX8_level : ByteArray := prog_10_method_45_code
def yX8_level : MethodName := ⟨RX8, "level", "(I)I"⟩
abbrev cX8_hidden : ByteArray := prog_10_method_46_code
def yX8_hidden : MethodName := ⟨RX8, "hidden", "(I)I"⟩
abbrev cX8_count : ByteArray := prog_10_method_47_code
def yX8_count : MethodName := ⟨RX8, "count", "(I)I"⟩
abbrev cX8_check : ByteArray := prog_10_method_48_code
def yX8_check : MethodName := ⟨RX8, "check", "()I"⟩
def RJx145de : String := "java/io/Serializable"
def TJx145de : u_T := fun k => match k with
  | _ => ("", "", "", false)
def tyJx145de : Nat → FieldType := fun k => match k with
  | _ => .int
abbrev wsJx145de0 : List Cond := u_ws RJx145de TJx145de 0
theorem nmJx145de : ∀ a, a < 0 → ∀ b, b < 0 → a ≠ b → (TJx145de a).2.1 ≠ (TJx145de b).2.1 := by decide +kernel
theorem tyJx145de_ok : ∀ k, k < 0 → parseFieldDescriptor (TJx145de k).2.2.1 = some (tyJx145de k) := by decide +kernel
def RJx8e188 : String := "java/lang/Cloneable"
def TJx8e188 : u_T := fun k => match k with
  | _ => ("", "", "", false)
def tyJx8e188 : Nat → FieldType := fun k => match k with
  | _ => .int
abbrev wsJx8e1880 : List Cond := u_ws RJx8e188 TJx8e188 0
theorem nmJx8e188 : ∀ a, a < 0 → ∀ b, b < 0 → a ≠ b → (TJx8e188 a).2.1 ≠ (TJx8e188 b).2.1 := by decide +kernel
theorem tyJx8e188_ok : ∀ k, k < 0 → parseFieldDescriptor (TJx8e188 k).2.2.1 = some (tyJx8e188 k) := by decide +kernel
def RJ6 : String := "java/lang/Integer"
def TJ6 : u_T := fun k => match k with
  | _ => ("", "", "", false)
def tyJ6 : Nat → FieldType := fun k => match k with
  | _ => .int
abbrev wsJ60 : List Cond := u_ws RJ6 TJ6 0
theorem nmJ6 : ∀ a, a < 0 → ∀ b, b < 0 → a ≠ b → (TJ6 a).2.1 ≠ (TJ6 b).2.1 := by decide +kernel
theorem tyJ6_ok : ∀ k, k < 0 → parseFieldDescriptor (TJ6 k).2.2.1 = some (tyJ6 k) := by decide +kernel
abbrev cJ6_bitCount_0f7a4 : ByteArray := prog_13_method_49_code
def yJ6_bitCount_0f7a4 : MethodName := ⟨RJ6, "bitCount", "(I)I"⟩
def RJxab1ab : String := "java/lang/Iterable"
def TJxab1ab : u_T := fun k => match k with
  | _ => ("", "", "", false)
def tyJxab1ab : Nat → FieldType := fun k => match k with
  | _ => .int
abbrev wsJxab1ab0 : List Cond := u_ws RJxab1ab TJxab1ab 0
theorem nmJxab1ab : ∀ a, a < 0 → ∀ b, b < 0 → a ≠ b → (TJxab1ab a).2.1 ≠ (TJxab1ab b).2.1 := by decide +kernel
theorem tyJxab1ab_ok : ∀ k, k < 0 → parseFieldDescriptor (TJxab1ab k).2.2.1 = some (tyJxab1ab k) := by decide +kernel
def RJ9 : String := "java/lang/Math"
def TJ9 : u_T := fun k => match k with
  | _ => ("", "", "", false)
def tyJ9 : Nat → FieldType := fun k => match k with
  | _ => .int
abbrev wsJ90 : List Cond := u_ws RJ9 TJ9 0
theorem nmJ9 : ∀ a, a < 0 → ∀ b, b < 0 → a ≠ b → (TJ9 a).2.1 ≠ (TJ9 b).2.1 := by decide +kernel
theorem tyJ9_ok : ∀ k, k < 0 → parseFieldDescriptor (TJ9 k).2.2.1 = some (tyJ9 k) := by decide +kernel
abbrev cJ9_max_7cf53 : ByteArray := prog_15_method_65_code
def yJ9_max_7cf53 : MethodName := ⟨RJ9, "max", "(II)I"⟩
abbrev cJ9_min_7cf53 : ByteArray := prog_15_method_69_code
def yJ9_min_7cf53 : MethodName := ⟨RJ9, "min", "(II)I"⟩
def RJ10 : String := "java/lang/System"
def TJ10 : u_T := fun k => match k with
  | _ => ("", "", "", false)
def tyJ10 : Nat → FieldType := fun k => match k with
  | _ => .int
abbrev wsJ100 : List Cond := u_ws RJ10 TJ10 0
theorem nmJ10 : ∀ a, a < 0 → ∀ b, b < 0 → a ≠ b → (TJ10 a).2.1 ≠ (TJ10 b).2.1 := by decide +kernel
theorem tyJ10_ok : ∀ k, k < 0 → parseFieldDescriptor (TJ10 k).2.2.1 = some (tyJ10 k) := by decide +kernel
def RJxa1e45 : String := "java/util/AbstractCollection"
def TJxa1e45 : u_T := fun k => match k with
  | _ => ("", "", "", false)
def tyJxa1e45 : Nat → FieldType := fun k => match k with
  | _ => .int
abbrev wsJxa1e450 : List Cond := u_ws RJxa1e45 TJxa1e45 0
theorem nmJxa1e45 : ∀ a, a < 0 → ∀ b, b < 0 → a ≠ b → (TJxa1e45 a).2.1 ≠ (TJxa1e45 b).2.1 := by decide +kernel
theorem tyJxa1e45_ok : ∀ k, k < 0 → parseFieldDescriptor (TJxa1e45 k).2.2.1 = some (tyJxa1e45 k) := by decide +kernel
abbrev cJxa1e45_init_da8c8 : ByteArray := prog_17_method_1_code
def yJxa1e45_init_da8c8 : MethodName := ⟨RJxa1e45, "<init>", "()V"⟩
def RJxc12de : String := "java/util/AbstractList"
def TJxc12de : u_T := fun k => match k with
  | _ => ("", "", "", false)
def tyJxc12de : Nat → FieldType := fun k => match k with
  | _ => .int
abbrev wsJxc12de0 : List Cond := u_ws RJxc12de TJxc12de 0
theorem nmJxc12de : ∀ a, a < 0 → ∀ b, b < 0 → a ≠ b → (TJxc12de a).2.1 ≠ (TJxc12de b).2.1 := by decide +kernel
theorem tyJxc12de_ok : ∀ k, k < 0 → parseFieldDescriptor (TJxc12de k).2.2.1 = some (tyJxc12de k) := by decide +kernel
abbrev cJxc12de_init_da8c8 : ByteArray := prog_18_method_1_code
def yJxc12de_init_da8c8 : MethodName := ⟨RJxc12de, "<init>", "()V"⟩
def RJx4a65c : String := "java/util/ArrayList"
def TJx4a65c : u_T := fun k => match k with
  | 0 => ("java/util/AbstractList", "modCount", "I", false)
  | 1 => ("java/util/ArrayList", "elementData", "[Ljava/lang/Object;", false)
  | _ => ("java/util/ArrayList", "size", "I", false)
def tyJx4a65c : Nat → FieldType := fun k => match k with
  | 0 => .int
  | 1 => .array (.object "java/lang/Object")
  | _ => .int
abbrev wsJx4a65c0 : List Cond := u_ws RJx4a65c TJx4a65c 3
theorem nmJx4a65c : ∀ a, a < 3 → ∀ b, b < 3 → a ≠ b → (TJx4a65c a).2.1 ≠ (TJx4a65c b).2.1 := by decide +kernel
theorem tyJx4a65c_ok : ∀ k, k < 3 → parseFieldDescriptor (TJx4a65c k).2.2.1 = some (tyJx4a65c k) := by decide +kernel
abbrev cJx4a65c_init_da8c8 : ByteArray := prog_19_method_2_code
def yJx4a65c_init_da8c8 : MethodName := ⟨RJx4a65c, "<init>", "()V"⟩
abbrev cJx4a65c_grow_92f84 : ByteArray := prog_19_method_6_code
def yJx4a65c_grow_92f84 : MethodName := ⟨RJx4a65c, "grow", "(I)[Ljava/lang/Object;"⟩
abbrev cJx4a65c_grow_d5877 : ByteArray := prog_19_method_7_code
def yJx4a65c_grow_d5877 : MethodName := ⟨RJx4a65c, "grow", "()[Ljava/lang/Object;"⟩
abbrev cJx4a65c_size_8abf5 : ByteArray := prog_19_method_8_code
def yJx4a65c_size_8abf5 : MethodName := ⟨RJx4a65c, "size", "()I"⟩
abbrev cJx4a65c_elementData_915e3 : ByteArray := prog_19_method_18_code
def yJx4a65c_elementData_915e3 : MethodName := ⟨RJx4a65c, "elementData", "(I)Ljava/lang/Object;"⟩
abbrev cJx4a65c_get_915e3 : ByteArray := prog_19_method_20_code
def yJx4a65c_get_915e3 : MethodName := ⟨RJx4a65c, "get", "(I)Ljava/lang/Object;"⟩
abbrev cJx4a65c_add_72be8 : ByteArray := prog_19_method_24_code
def yJx4a65c_add_72be8 : MethodName := ⟨RJx4a65c, "add", "(Ljava/lang/Object;[Ljava/lang/Object;I)V"⟩
abbrev cJx4a65c_add_9ea2d : ByteArray := prog_19_method_25_code
def yJx4a65c_add_9ea2d : MethodName := ⟨RJx4a65c, "add", "(Ljava/lang/Object;)Z"⟩
abbrev cJx4a65c_remove_915e3 : ByteArray := prog_19_method_29_code
def yJx4a65c_remove_915e3 : MethodName := ⟨RJx4a65c, "remove", "(I)Ljava/lang/Object;"⟩
abbrev cJx4a65c_fastRemove_b59b0 : ByteArray := prog_19_method_39_code
def yJx4a65c_fastRemove_b59b0 : MethodName := ⟨RJx4a65c, "fastRemove", "([Ljava/lang/Object;I)V"⟩
def RJ7 : String := "java/util/Arrays"
def TJ7 : u_T := fun k => match k with
  | _ => ("", "", "", false)
def tyJ7 : Nat → FieldType := fun k => match k with
  | _ => .int
abbrev wsJ70 : List Cond := u_ws RJ7 TJ7 0
theorem nmJ7 : ∀ a, a < 0 → ∀ b, b < 0 → a ≠ b → (TJ7 a).2.1 ≠ (TJ7 b).2.1 := by decide +kernel
theorem tyJ7_ok : ∀ k, k < 0 → parseFieldDescriptor (TJ7 k).2.2.1 = some (tyJ7 k) := by decide +kernel
abbrev cJ7_copyOf_1904c : ByteArray := prog_20_method_119_code
def yJ7_copyOf_1904c : MethodName := ⟨RJ7, "copyOf", "([Ljava/lang/Object;I)[Ljava/lang/Object;"⟩
abbrev cJ7_copyOf_6403c : ByteArray := prog_20_method_120_code
def yJ7_copyOf_6403c : MethodName := ⟨RJ7, "copyOf", "([Ljava/lang/Object;ILjava/lang/Class;)[Ljava/lang/Object;"⟩
def RJx5ef63 : String := "java/util/Collection"
def TJx5ef63 : u_T := fun k => match k with
  | _ => ("", "", "", false)
def tyJx5ef63 : Nat → FieldType := fun k => match k with
  | _ => .int
abbrev wsJx5ef630 : List Cond := u_ws RJx5ef63 TJx5ef63 0
theorem nmJx5ef63 : ∀ a, a < 0 → ∀ b, b < 0 → a ≠ b → (TJx5ef63 a).2.1 ≠ (TJx5ef63 b).2.1 := by decide +kernel
theorem tyJx5ef63_ok : ∀ k, k < 0 → parseFieldDescriptor (TJx5ef63 k).2.2.1 = some (tyJx5ef63 k) := by decide +kernel
def RJxbd725 : String := "java/util/List"
def TJxbd725 : u_T := fun k => match k with
  | _ => ("", "", "", false)
def tyJxbd725 : Nat → FieldType := fun k => match k with
  | _ => .int
abbrev wsJxbd7250 : List Cond := u_ws RJxbd725 TJxbd725 0
theorem nmJxbd725 : ∀ a, a < 0 → ∀ b, b < 0 → a ≠ b → (TJxbd725 a).2.1 ≠ (TJxbd725 b).2.1 := by decide +kernel
theorem tyJxbd725_ok : ∀ k, k < 0 → parseFieldDescriptor (TJxbd725 k).2.2.1 = some (tyJxbd725 k) := by decide +kernel
def RJ15 : String := "java/util/Objects"
def TJ15 : u_T := fun k => match k with
  | _ => ("", "", "", false)
def tyJ15 : Nat → FieldType := fun k => match k with
  | _ => .int
abbrev wsJ150 : List Cond := u_ws RJ15 TJ15 0
theorem nmJ15 : ∀ a, a < 0 → ∀ b, b < 0 → a ≠ b → (TJ15 a).2.1 ≠ (TJ15 b).2.1 := by decide +kernel
theorem tyJ15_ok : ∀ k, k < 0 → parseFieldDescriptor (TJ15 k).2.2.1 = some (tyJ15 k) := by decide +kernel
abbrev cJ15_checkIndex_7cf53 : ByteArray := prog_23_method_17_code
def yJ15_checkIndex_7cf53 : MethodName := ⟨RJ15, "checkIndex", "(II)I"⟩
def RJxf0a74 : String := "java/util/RandomAccess"
def TJxf0a74 : u_T := fun k => match k with
  | _ => ("", "", "", false)
def tyJxf0a74 : Nat → FieldType := fun k => match k with
  | _ => .int
abbrev wsJxf0a740 : List Cond := u_ws RJxf0a74 TJxf0a74 0
theorem nmJxf0a74 : ∀ a, a < 0 → ∀ b, b < 0 → a ≠ b → (TJxf0a74 a).2.1 ≠ (TJxf0a74 b).2.1 := by decide +kernel
theorem tyJxf0a74_ok : ∀ k, k < 0 → parseFieldDescriptor (TJxf0a74 k).2.2.1 = some (tyJxf0a74 k) := by decide +kernel
def RJxa66e6 : String := "java/util/SequencedCollection"
def TJxa66e6 : u_T := fun k => match k with
  | _ => ("", "", "", false)
def tyJxa66e6 : Nat → FieldType := fun k => match k with
  | _ => .int
abbrev wsJxa66e60 : List Cond := u_ws RJxa66e6 TJxa66e6 0
theorem nmJxa66e6 : ∀ a, a < 0 → ∀ b, b < 0 → a ≠ b → (TJxa66e6 a).2.1 ≠ (TJxa66e6 b).2.1 := by decide +kernel
theorem tyJxa66e6_ok : ∀ k, k < 0 → parseFieldDescriptor (TJxa66e6 k).2.2.1 = some (tyJxa66e6 k) := by decide +kernel
def RJ8 : String := "jdk/internal/util/ArraysSupport"
def TJ8 : u_T := fun k => match k with
  | _ => ("", "", "", false)
def tyJ8 : Nat → FieldType := fun k => match k with
  | _ => .int
abbrev wsJ80 : List Cond := u_ws RJ8 TJ8 0
theorem nmJ8 : ∀ a, a < 0 → ∀ b, b < 0 → a ≠ b → (TJ8 a).2.1 ≠ (TJ8 b).2.1 := by decide +kernel
theorem tyJ8_ok : ∀ k, k < 0 → parseFieldDescriptor (TJ8 k).2.2.1 = some (tyJ8 k) := by decide +kernel
abbrev cJ8_newLength_cabcc : ByteArray := prog_26_method_27_code
def yJ8_newLength_cabcc : MethodName := ⟨RJ8, "newLength", "(III)I"⟩
abbrev cJ8_hugeLength_7cf53 : ByteArray := prog_26_method_28_code
def yJ8_hugeLength_7cf53 : MethodName := ⟨RJ8, "hugeLength", "(II)I"⟩
def RJ3 : String := "jdk/internal/util/Preconditions"
def TJ3 : u_T := fun k => match k with
  | _ => ("", "", "", false)
def tyJ3 : Nat → FieldType := fun k => match k with
  | _ => .int
abbrev wsJ30 : List Cond := u_ws RJ3 TJ3 0
theorem nmJ3 : ∀ a, a < 0 → ∀ b, b < 0 → a ≠ b → (TJ3 a).2.1 ≠ (TJ3 b).2.1 := by decide +kernel
theorem tyJ3_ok : ∀ k, k < 0 → parseFieldDescriptor (TJ3 k).2.2.1 = some (tyJ3 k) := by decide +kernel
abbrev cJ3_checkIndex_8e157 : ByteArray := prog_27_method_11_code
def yJ3_checkIndex_8e157 : MethodName := ⟨RJ3, "checkIndex", "(IILjava/util/function/BiFunction;)I"⟩
def RL : String := "ModeratorsBenchLaw"
abbrev cL_law : ByteArray := code
def yL_law : MethodName := ⟨RL, "law", "([I)Z"⟩
abbrev vwCl : List vw_C := [(RJx4a65c, TJx4a65c, 3), (RX0, TX0, 12), (RX1, TX1, 2), (RX2, TX2, 7), (RX3, TX3, 8), (RX4, TX4, 8), (RX5, TX5, 7), (RX6, TX6, 4), (RX7, TX7, 10), (RX8, TX8, 47)]
end
section
theorem dX0_init_0 : decode cX0_init 0 = .ok (.aload_n 0, 1) := by decide +kernel
theorem dX0_init_1 : decode cX0_init 1 = .ok (.invokespecial 3, 3) := by decide +kernel
theorem dX0_init_4 : decode cX0_init 4 = .ok (.aload_n 0, 1) := by decide +kernel
theorem dX0_init_5 : decode cX0_init 5 = .ok (.aconst_null, 1) := by decide +kernel
theorem dX0_init_6 : decode cX0_init 6 = .ok (.putfield 9, 3) := by decide +kernel
theorem dX0_init_9 : decode cX0_init 9 = .ok (.aload_n 0, 1) := by decide +kernel
theorem dX0_init_10 : decode cX0_init 10 = .ok (.iconst 1, 1) := by decide +kernel
theorem dX0_init_11 : decode cX0_init 11 = .ok (.putfield 15, 3) := by decide +kernel
theorem dX0_init_14 : decode cX0_init 14 = .ok (.aload_n 0, 1) := by decide +kernel
theorem dX0_init_15 : decode cX0_init 15 = .ok (.iconst 0, 1) := by decide +kernel
theorem dX0_init_16 : decode cX0_init 16 = .ok (.putfield 19, 3) := by decide +kernel
theorem dX0_init_19 : decode cX0_init 19 = .ok (.aload_n 0, 1) := by decide +kernel
theorem dX0_init_20 : decode cX0_init 20 = .ok (.iconst (-1), 1) := by decide +kernel
theorem dX0_init_21 : decode cX0_init 21 = .ok (.putfield 22, 3) := by decide +kernel
theorem dX0_init_24 : decode cX0_init 24 = .ok (.aload_n 0, 1) := by decide +kernel
theorem dX0_init_25 : decode cX0_init 25 = .ok (.iconst 0, 1) := by decide +kernel
theorem dX0_init_26 : decode cX0_init 26 = .ok (.putfield 25, 3) := by decide +kernel
theorem dX0_init_29 : decode cX0_init 29 = .ok (.aload_n 0, 1) := by decide +kernel
theorem dX0_init_30 : decode cX0_init 30 = .ok (.aconst_null, 1) := by decide +kernel
theorem dX0_init_31 : decode cX0_init 31 = .ok (.putfield 28, 3) := by decide +kernel
theorem dX0_init_34 : decode cX0_init 34 = .ok (.aload_n 0, 1) := by decide +kernel
theorem dX0_init_35 : decode cX0_init 35 = .ok (.iload_n 1, 1) := by decide +kernel
theorem dX0_init_36 : decode cX0_init 36 = .ok (.putfield 32, 3) := by decide +kernel
theorem dX0_init_39 : decode cX0_init 39 = .ok (.aload_n 0, 1) := by decide +kernel
theorem dX0_init_40 : decode cX0_init 40 = .ok (.aload_n 2, 1) := by decide +kernel
theorem dX0_init_41 : decode cX0_init 41 = .ok (.putfield 35, 3) := by decide +kernel
theorem dX0_init_44 : decode cX0_init 44 = .ok (.aload_n 0, 1) := by decide +kernel
theorem dX0_init_45 : decode cX0_init 45 = .ok (.aload_n 3, 1) := by decide +kernel
theorem dX0_init_46 : decode cX0_init 46 = .ok (.putfield 39, 3) := by decide +kernel
theorem dX0_init_49 : decode cX0_init 49 = .ok (.aload_n 0, 1) := by decide +kernel
theorem dX0_init_50 : decode cX0_init 50 = .ok (.aload_n 3, 1) := by decide +kernel
theorem dX0_init_51 : decode cX0_init 51 = .ok (.getfield 43, 3) := by decide +kernel
theorem dX0_init_54 : decode cX0_init 54 = .ok (.putfield 48, 3) := by decide +kernel
theorem dX0_init_57 : decode cX0_init 57 = .ok (.aload_n 0, 1) := by decide +kernel
theorem dX0_init_58 : decode cX0_init 58 = .ok (.new 49, 3) := by decide +kernel
theorem dX0_init_61 : decode cX0_init 61 = .ok (.dup, 1) := by decide +kernel
theorem dX0_init_62 : decode cX0_init 62 = .ok (.iconst 1, 1) := by decide +kernel
theorem dX0_init_63 : decode cX0_init 63 = .ok (.iconst 2, 1) := by decide +kernel
theorem dX0_init_64 : decode cX0_init 64 = .ok (.aload_n 3, 1) := by decide +kernel
theorem dX0_init_65 : decode cX0_init 65 = .ok (.getfield 43, 3) := by decide +kernel
theorem dX0_init_68 : decode cX0_init 68 = .ok (.imul, 1) := by decide +kernel
theorem dX0_init_69 : decode cX0_init 69 = .ok (.iadd, 1) := by decide +kernel
theorem dX0_init_70 : decode cX0_init 70 = .ok (.invokespecial 51, 3) := by decide +kernel
theorem dX0_init_73 : decode cX0_init 73 = .ok (.putfield 54, 3) := by decide +kernel
theorem dX0_init_76 : decode cX0_init 76 = .ok (.aload_n 0, 1) := by decide +kernel
theorem dX0_init_77 : decode cX0_init 77 = .ok (.iload 4, 2) := by decide +kernel
theorem dX0_init_79 : decode cX0_init 79 = .ok (.putfield 57, 3) := by decide +kernel
theorem dX0_init_82 : decode cX0_init 82 = .ok (.return_, 1) := by decide +kernel
theorem dX0_hearing_0 : decode cX0_hearing 0 = .ok (.aload_n 0, 1) := by decide +kernel
theorem dX0_hearing_1 : decode cX0_hearing 1 = .ok (.getfield 9, 3) := by decide +kernel
theorem dX0_hearing_4 : decode cX0_hearing 4 = .ok (.ifnonnull 10, 3) := by decide +kernel
theorem dX0_hearing_7 : decode cX0_hearing 7 = .ok (.aload_n 0, 1) := by decide +kernel
theorem dX0_hearing_8 : decode cX0_hearing 8 = .ok (.getfield 54, 3) := by decide +kernel
theorem dX0_hearing_11 : decode cX0_hearing 11 = .ok (.goto 7, 3) := by decide +kernel
theorem dX0_hearing_14 : decode cX0_hearing 14 = .ok (.aload_n 0, 1) := by decide +kernel
theorem dX0_hearing_15 : decode cX0_hearing 15 = .ok (.getfield 9, 3) := by decide +kernel
theorem dX0_hearing_18 : decode cX0_hearing 18 = .ok (.areturn, 1) := by decide +kernel
theorem dX0_isUndecided_0 : decode cX0_isUndecided 0 = .ok (.aload_n 0, 1) := by decide +kernel
theorem dX0_isUndecided_1 : decode cX0_isUndecided 1 = .ok (.getfield 19, 3) := by decide +kernel
theorem dX0_isUndecided_4 : decode cX0_isUndecided 4 = .ok (.ifCond .eq 11, 3) := by decide +kernel
theorem dX0_isUndecided_7 : decode cX0_isUndecided 7 = .ok (.aload_n 0, 1) := by decide +kernel
theorem dX0_isUndecided_8 : decode cX0_isUndecided 8 = .ok (.getfield 19, 3) := by decide +kernel
theorem dX0_isUndecided_11 : decode cX0_isUndecided 11 = .ok (.iconst 3, 1) := by decide +kernel
theorem dX0_isUndecided_12 : decode cX0_isUndecided 12 = .ok (.if_icmp .ne 7, 3) := by decide +kernel
theorem dX0_isUndecided_15 : decode cX0_isUndecided 15 = .ok (.iconst 1, 1) := by decide +kernel
theorem dX0_isUndecided_16 : decode cX0_isUndecided 16 = .ok (.goto 4, 3) := by decide +kernel
theorem dX0_isUndecided_19 : decode cX0_isUndecided 19 = .ok (.iconst 0, 1) := by decide +kernel
theorem dX0_isUndecided_20 : decode cX0_isUndecided 20 = .ok (.ireturn, 1) := by decide +kernel
theorem dX0_guiltStands_0 : decode cX0_guiltStands 0 = .ok (.aload_n 0, 1) := by decide +kernel
theorem dX0_guiltStands_1 : decode cX0_guiltStands 1 = .ok (.getfield 19, 3) := by decide +kernel
theorem dX0_guiltStands_4 : decode cX0_guiltStands 4 = .ok (.iconst 2, 1) := by decide +kernel
theorem dX0_guiltStands_5 : decode cX0_guiltStands 5 = .ok (.if_icmp .eq 19, 3) := by decide +kernel
theorem dX0_guiltStands_8 : decode cX0_guiltStands 8 = .ok (.aload_n 0, 1) := by decide +kernel
theorem dX0_guiltStands_9 : decode cX0_guiltStands 9 = .ok (.getfield 19, 3) := by decide +kernel
theorem dX0_guiltStands_12 : decode cX0_guiltStands 12 = .ok (.iconst 3, 1) := by decide +kernel
theorem dX0_guiltStands_13 : decode cX0_guiltStands 13 = .ok (.if_icmp .eq 11, 3) := by decide +kernel
theorem dX0_guiltStands_16 : decode cX0_guiltStands 16 = .ok (.aload_n 0, 1) := by decide +kernel
theorem dX0_guiltStands_17 : decode cX0_guiltStands 17 = .ok (.getfield 19, 3) := by decide +kernel
theorem dX0_guiltStands_20 : decode cX0_guiltStands 20 = .ok (.iconst 5, 1) := by decide +kernel
theorem dX0_guiltStands_21 : decode cX0_guiltStands 21 = .ok (.if_icmp .ne 7, 3) := by decide +kernel
theorem dX0_guiltStands_24 : decode cX0_guiltStands 24 = .ok (.iconst 1, 1) := by decide +kernel
theorem dX0_guiltStands_25 : decode cX0_guiltStands 25 = .ok (.goto 4, 3) := by decide +kernel
theorem dX0_guiltStands_28 : decode cX0_guiltStands 28 = .ok (.iconst 0, 1) := by decide +kernel
theorem dX0_guiltStands_29 : decode cX0_guiltStands 29 = .ok (.ireturn, 1) := by decide +kernel
theorem dX0_bringsStrike_0 : decode cX0_bringsStrike 0 = .ok (.aload_n 0, 1) := by decide +kernel
theorem dX0_bringsStrike_1 : decode cX0_bringsStrike 1 = .ok (.invokevirtual 60, 3) := by decide +kernel
theorem dX0_bringsStrike_4 : decode cX0_bringsStrike 4 = .ok (.ifCond .eq 18, 3) := by decide +kernel
theorem dX0_bringsStrike_7 : decode cX0_bringsStrike 7 = .ok (.aload_n 0, 1) := by decide +kernel
theorem dX0_bringsStrike_8 : decode cX0_bringsStrike 8 = .ok (.getfield 39, 3) := by decide +kernel
theorem dX0_bringsStrike_11 : decode cX0_bringsStrike 11 = .ok (.getfield 64, 3) := by decide +kernel
theorem dX0_bringsStrike_14 : decode cX0_bringsStrike 14 = .ok (.iconst 2, 1) := by decide +kernel
theorem dX0_bringsStrike_15 : decode cX0_bringsStrike 15 = .ok (.if_icmp .ne 7, 3) := by decide +kernel
theorem dX0_bringsStrike_18 : decode cX0_bringsStrike 18 = .ok (.iconst 1, 1) := by decide +kernel
theorem dX0_bringsStrike_19 : decode cX0_bringsStrike 19 = .ok (.goto 4, 3) := by decide +kernel
theorem dX0_bringsStrike_22 : decode cX0_bringsStrike 22 = .ok (.iconst 0, 1) := by decide +kernel
theorem dX0_bringsStrike_23 : decode cX0_bringsStrike 23 = .ok (.ireturn, 1) := by decide +kernel
theorem dX0_giftsOut_0 : decode cX0_giftsOut 0 = .ok (.aload_n 0, 1) := by decide +kernel
theorem dX0_giftsOut_1 : decode cX0_giftsOut 1 = .ok (.getfield 25, 3) := by decide +kernel
theorem dX0_giftsOut_4 : decode cX0_giftsOut 4 = .ok (.invokestatic 67, 3) := by decide +kernel
theorem dX0_giftsOut_7 : decode cX0_giftsOut 7 = .ok (.ireturn, 1) := by decide +kernel
theorem dX0_wantsJudges_0 : decode cX0_wantsJudges 0 = .ok (.aload_n 0, 1) := by decide +kernel
theorem dX0_wantsJudges_1 : decode cX0_wantsJudges 1 = .ok (.invokevirtual 73, 3) := by decide +kernel
theorem dX0_wantsJudges_4 : decode cX0_wantsJudges 4 = .ok (.getfield 77, 3) := by decide +kernel
theorem dX0_wantsJudges_7 : decode cX0_wantsJudges 7 = .ok (.aload_n 0, 1) := by decide +kernel
theorem dX0_wantsJudges_8 : decode cX0_wantsJudges 8 = .ok (.invokevirtual 73, 3) := by decide +kernel
theorem dX0_wantsJudges_11 : decode cX0_wantsJudges 11 = .ok (.invokevirtual 80, 3) := by decide +kernel
theorem dX0_wantsJudges_14 : decode cX0_wantsJudges 14 = .ok (.aload_n 0, 1) := by decide +kernel
theorem dX0_wantsJudges_15 : decode cX0_wantsJudges 15 = .ok (.invokevirtual 84, 3) := by decide +kernel
theorem dX0_wantsJudges_18 : decode cX0_wantsJudges 18 = .ok (.iadd, 1) := by decide +kernel
theorem dX0_wantsJudges_19 : decode cX0_wantsJudges 19 = .ok (.if_icmp .le 7, 3) := by decide +kernel
theorem dX0_wantsJudges_22 : decode cX0_wantsJudges 22 = .ok (.iconst 1, 1) := by decide +kernel
theorem dX0_wantsJudges_23 : decode cX0_wantsJudges 23 = .ok (.goto 4, 3) := by decide +kernel
theorem dX0_wantsJudges_26 : decode cX0_wantsJudges 26 = .ok (.iconst 0, 1) := by decide +kernel
theorem dX0_wantsJudges_27 : decode cX0_wantsJudges 27 = .ok (.ireturn, 1) := by decide +kernel
theorem dX0_isHeldBy_0 : decode cX0_isHeldBy 0 = .ok (.aload_n 0, 1) := by decide +kernel
theorem dX0_isHeldBy_1 : decode cX0_isHeldBy 1 = .ok (.getfield 25, 3) := by decide +kernel
theorem dX0_isHeldBy_4 : decode cX0_isHeldBy 4 = .ok (.aload_n 1, 1) := by decide +kernel
theorem dX0_isHeldBy_5 : decode cX0_isHeldBy 5 = .ok (.getfield 87, 3) := by decide +kernel
theorem dX0_isHeldBy_8 : decode cX0_isHeldBy 8 = .ok (.iand, 1) := by decide +kernel
theorem dX0_isHeldBy_9 : decode cX0_isHeldBy 9 = .ok (.ifCond .eq 7, 3) := by decide +kernel
theorem dX0_isHeldBy_12 : decode cX0_isHeldBy 12 = .ok (.iconst 1, 1) := by decide +kernel
theorem dX0_isHeldBy_13 : decode cX0_isHeldBy 13 = .ok (.goto 4, 3) := by decide +kernel
theorem dX0_isHeldBy_16 : decode cX0_isHeldBy 16 = .ok (.iconst 0, 1) := by decide +kernel
theorem dX0_isHeldBy_17 : decode cX0_isHeldBy 17 = .ok (.ireturn, 1) := by decide +kernel
theorem dX0_hasVoteOf_0 : decode cX0_hasVoteOf 0 = .ok (.aload_n 0, 1) := by decide +kernel
theorem dX0_hasVoteOf_1 : decode cX0_hasVoteOf 1 = .ok (.getfield 54, 3) := by decide +kernel
theorem dX0_hasVoteOf_4 : decode cX0_hasVoteOf 4 = .ok (.aload_n 1, 1) := by decide +kernel
theorem dX0_hasVoteOf_5 : decode cX0_hasVoteOf 5 = .ok (.invokevirtual 92, 3) := by decide +kernel
theorem dX0_hasVoteOf_8 : decode cX0_hasVoteOf 8 = .ok (.ifCond .ne 21, 3) := by decide +kernel
theorem dX0_hasVoteOf_11 : decode cX0_hasVoteOf 11 = .ok (.aload_n 0, 1) := by decide +kernel
theorem dX0_hasVoteOf_12 : decode cX0_hasVoteOf 12 = .ok (.getfield 9, 3) := by decide +kernel
theorem dX0_hasVoteOf_15 : decode cX0_hasVoteOf 15 = .ok (.ifnull 18, 3) := by decide +kernel
theorem dX0_hasVoteOf_18 : decode cX0_hasVoteOf 18 = .ok (.aload_n 0, 1) := by decide +kernel
theorem dX0_hasVoteOf_19 : decode cX0_hasVoteOf 19 = .ok (.getfield 9, 3) := by decide +kernel
theorem dX0_hasVoteOf_22 : decode cX0_hasVoteOf 22 = .ok (.aload_n 1, 1) := by decide +kernel
theorem dX0_hasVoteOf_23 : decode cX0_hasVoteOf 23 = .ok (.invokevirtual 92, 3) := by decide +kernel
theorem dX0_hasVoteOf_26 : decode cX0_hasVoteOf 26 = .ok (.ifCond .eq 7, 3) := by decide +kernel
theorem dX0_hasVoteOf_29 : decode cX0_hasVoteOf 29 = .ok (.iconst 1, 1) := by decide +kernel
theorem dX0_hasVoteOf_30 : decode cX0_hasVoteOf 30 = .ok (.goto 4, 3) := by decide +kernel
theorem dX0_hasVoteOf_33 : decode cX0_hasVoteOf 33 = .ok (.iconst 0, 1) := by decide +kernel
theorem dX0_hasVoteOf_34 : decode cX0_hasVoteOf 34 = .ok (.ireturn, 1) := by decide +kernel
theorem dX0_hearAgain_0 : decode cX0_hearAgain 0 = .ok (.aload_n 0, 1) := by decide +kernel
theorem dX0_hearAgain_1 : decode cX0_hearAgain 1 = .ok (.new 49, 3) := by decide +kernel
theorem dX0_hearAgain_4 : decode cX0_hearAgain 4 = .ok (.dup, 1) := by decide +kernel
theorem dX0_hearAgain_5 : decode cX0_hearAgain 5 = .ok (.bipush 9, 2) := by decide +kernel
theorem dX0_hearAgain_7 : decode cX0_hearAgain 7 = .ok (.aload_n 0, 1) := by decide +kernel
theorem dX0_hearAgain_8 : decode cX0_hearAgain 8 = .ok (.getfield 54, 3) := by decide +kernel
theorem dX0_hearAgain_11 : decode cX0_hearAgain 11 = .ok (.getfield 77, 3) := by decide +kernel
theorem dX0_hearAgain_14 : decode cX0_hearAgain 14 = .ok (.iconst 2, 1) := by decide +kernel
theorem dX0_hearAgain_15 : decode cX0_hearAgain 15 = .ok (.iadd, 1) := by decide +kernel
theorem dX0_hearAgain_16 : decode cX0_hearAgain 16 = .ok (.invokestatic 96, 3) := by decide +kernel
theorem dX0_hearAgain_19 : decode cX0_hearAgain 19 = .ok (.invokespecial 51, 3) := by decide +kernel
theorem dX0_hearAgain_22 : decode cX0_hearAgain 22 = .ok (.putfield 9, 3) := by decide +kernel
theorem dX0_hearAgain_25 : decode cX0_hearAgain 25 = .ok (.aload_n 0, 1) := by decide +kernel
theorem dX0_hearAgain_26 : decode cX0_hearAgain 26 = .ok (.iload_n 1, 1) := by decide +kernel
theorem dX0_hearAgain_27 : decode cX0_hearAgain 27 = .ok (.putfield 57, 3) := by decide +kernel
theorem dX0_hearAgain_30 : decode cX0_hearAgain 30 = .ok (.aload_n 0, 1) := by decide +kernel
theorem dX0_hearAgain_31 : decode cX0_hearAgain 31 = .ok (.iconst 3, 1) := by decide +kernel
theorem dX0_hearAgain_32 : decode cX0_hearAgain 32 = .ok (.putfield 19, 3) := by decide +kernel
theorem dX0_hearAgain_35 : decode cX0_hearAgain 35 = .ok (.return_, 1) := by decide +kernel
theorem dX0_close_0 : decode cX0_close 0 = .ok (.aload_n 0, 1) := by decide +kernel
theorem dX0_close_1 : decode cX0_close 1 = .ok (.invokevirtual 73, 3) := by decide +kernel
theorem dX0_close_4 : decode cX0_close 4 = .ok (.astore_n 1, 1) := by decide +kernel
theorem dX0_close_5 : decode cX0_close 5 = .ok (.aload_n 1, 1) := by decide +kernel
theorem dX0_close_6 : decode cX0_close 6 = .ok (.iconst 1, 1) := by decide +kernel
theorem dX0_close_7 : decode cX0_close 7 = .ok (.putfield 102, 3) := by decide +kernel
theorem dX0_close_10 : decode cX0_close 10 = .ok (.aload_n 0, 1) := by decide +kernel
theorem dX0_close_11 : decode cX0_close 11 = .ok (.getfield 19, 3) := by decide +kernel
theorem dX0_close_14 : decode cX0_close 14 = .ok (.iconst 3, 1) := by decide +kernel
theorem dX0_close_15 : decode cX0_close 15 = .ok (.if_icmp .ne 22, 3) := by decide +kernel
theorem dX0_close_18 : decode cX0_close 18 = .ok (.aload_n 0, 1) := by decide +kernel
theorem dX0_close_19 : decode cX0_close 19 = .ok (.aload_n 1, 1) := by decide +kernel
theorem dX0_close_20 : decode cX0_close 20 = .ok (.invokevirtual 106, 3) := by decide +kernel
theorem dX0_close_23 : decode cX0_close 23 = .ok (.ifCond .eq 7, 3) := by decide +kernel
theorem dX0_close_26 : decode cX0_close 26 = .ok (.iconst 5, 1) := by decide +kernel
theorem dX0_close_27 : decode cX0_close 27 = .ok (.goto 4, 3) := by decide +kernel
theorem dX0_close_30 : decode cX0_close 30 = .ok (.iconst 4, 1) := by decide +kernel
theorem dX0_close_31 : decode cX0_close 31 = .ok (.putfield 19, 3) := by decide +kernel
theorem dX0_close_34 : decode cX0_close 34 = .ok (.goto 19, 3) := by decide +kernel
theorem dX0_close_37 : decode cX0_close 37 = .ok (.aload_n 0, 1) := by decide +kernel
theorem dX0_close_38 : decode cX0_close 38 = .ok (.aload_n 1, 1) := by decide +kernel
theorem dX0_close_39 : decode cX0_close 39 = .ok (.invokevirtual 106, 3) := by decide +kernel
theorem dX0_close_42 : decode cX0_close 42 = .ok (.ifCond .eq 7, 3) := by decide +kernel
theorem dX0_close_45 : decode cX0_close 45 = .ok (.iconst 2, 1) := by decide +kernel
theorem dX0_close_46 : decode cX0_close 46 = .ok (.goto 4, 3) := by decide +kernel
theorem dX0_close_49 : decode cX0_close 49 = .ok (.iconst 1, 1) := by decide +kernel
theorem dX0_close_50 : decode cX0_close 50 = .ok (.putfield 19, 3) := by decide +kernel
theorem dX0_close_53 : decode cX0_close 53 = .ok (.return_, 1) := by decide +kernel
theorem dX0_latestJudgement_0 : decode cX0_latestJudgement 0 = .ok (.aload_n 0, 1) := by decide +kernel
theorem dX0_latestJudgement_1 : decode cX0_latestJudgement 1 = .ok (.getfield 9, 3) := by decide +kernel
theorem dX0_latestJudgement_4 : decode cX0_latestJudgement 4 = .ok (.ifnull 18, 3) := by decide +kernel
theorem dX0_latestJudgement_7 : decode cX0_latestJudgement 7 = .ok (.aload_n 0, 1) := by decide +kernel
theorem dX0_latestJudgement_8 : decode cX0_latestJudgement 8 = .ok (.getfield 9, 3) := by decide +kernel
theorem dX0_latestJudgement_11 : decode cX0_latestJudgement 11 = .ok (.getfield 102, 3) := by decide +kernel
theorem dX0_latestJudgement_14 : decode cX0_latestJudgement 14 = .ok (.ifCond .eq 8, 3) := by decide +kernel
theorem dX0_latestJudgement_17 : decode cX0_latestJudgement 17 = .ok (.aload_n 0, 1) := by decide +kernel
theorem dX0_latestJudgement_18 : decode cX0_latestJudgement 18 = .ok (.getfield 9, 3) := by decide +kernel
theorem dX0_latestJudgement_21 : decode cX0_latestJudgement 21 = .ok (.areturn, 1) := by decide +kernel
theorem dX0_latestJudgement_22 : decode cX0_latestJudgement 22 = .ok (.aload_n 0, 1) := by decide +kernel
theorem dX0_latestJudgement_23 : decode cX0_latestJudgement 23 = .ok (.getfield 54, 3) := by decide +kernel
theorem dX0_latestJudgement_26 : decode cX0_latestJudgement 26 = .ok (.getfield 102, 3) := by decide +kernel
theorem dX0_latestJudgement_29 : decode cX0_latestJudgement 29 = .ok (.ifCond .eq 10, 3) := by decide +kernel
theorem dX0_latestJudgement_32 : decode cX0_latestJudgement 32 = .ok (.aload_n 0, 1) := by decide +kernel
theorem dX0_latestJudgement_33 : decode cX0_latestJudgement 33 = .ok (.getfield 54, 3) := by decide +kernel
theorem dX0_latestJudgement_36 : decode cX0_latestJudgement 36 = .ok (.goto 4, 3) := by decide +kernel
theorem dX0_latestJudgement_39 : decode cX0_latestJudgement 39 = .ok (.aconst_null, 1) := by decide +kernel
theorem dX0_latestJudgement_40 : decode cX0_latestJudgement 40 = .ok (.areturn, 1) := by decide +kernel
theorem dX0_timesJudged_0 : decode cX0_timesJudged 0 = .ok (.aload_n 0, 1) := by decide +kernel
theorem dX0_timesJudged_1 : decode cX0_timesJudged 1 = .ok (.getfield 54, 3) := by decide +kernel
theorem dX0_timesJudged_4 : decode cX0_timesJudged 4 = .ok (.getfield 102, 3) := by decide +kernel
theorem dX0_timesJudged_7 : decode cX0_timesJudged 7 = .ok (.invokestatic 109, 3) := by decide +kernel
theorem dX0_timesJudged_10 : decode cX0_timesJudged 10 = .ok (.aload_n 0, 1) := by decide +kernel
theorem dX0_timesJudged_11 : decode cX0_timesJudged 11 = .ok (.getfield 9, 3) := by decide +kernel
theorem dX0_timesJudged_14 : decode cX0_timesJudged 14 = .ok (.ifnull 17, 3) := by decide +kernel
theorem dX0_timesJudged_17 : decode cX0_timesJudged 17 = .ok (.aload_n 0, 1) := by decide +kernel
theorem dX0_timesJudged_18 : decode cX0_timesJudged 18 = .ok (.getfield 9, 3) := by decide +kernel
theorem dX0_timesJudged_21 : decode cX0_timesJudged 21 = .ok (.getfield 102, 3) := by decide +kernel
theorem dX0_timesJudged_24 : decode cX0_timesJudged 24 = .ok (.ifCond .eq 7, 3) := by decide +kernel
theorem dX0_timesJudged_27 : decode cX0_timesJudged 27 = .ok (.iconst 1, 1) := by decide +kernel
theorem dX0_timesJudged_28 : decode cX0_timesJudged 28 = .ok (.goto 4, 3) := by decide +kernel
theorem dX0_timesJudged_31 : decode cX0_timesJudged 31 = .ok (.iconst 0, 1) := by decide +kernel
theorem dX0_timesJudged_32 : decode cX0_timesJudged 32 = .ok (.invokestatic 109, 3) := by decide +kernel
theorem dX0_timesJudged_35 : decode cX0_timesJudged 35 = .ok (.iadd, 1) := by decide +kernel
theorem dX0_timesJudged_36 : decode cX0_timesJudged 36 = .ok (.ireturn, 1) := by decide +kernel
theorem dX0_isAlike_0 : decode cX0_isAlike 0 = .ok (.aload_n 0, 1) := by decide +kernel
theorem dX0_isAlike_1 : decode cX0_isAlike 1 = .ok (.invokevirtual 113, 3) := by decide +kernel
theorem dX0_isAlike_4 : decode cX0_isAlike 4 = .ok (.ifCond .ne 40, 3) := by decide +kernel
theorem dX0_isAlike_7 : decode cX0_isAlike 7 = .ok (.aload_n 0, 1) := by decide +kernel
theorem dX0_isAlike_8 : decode cX0_isAlike 8 = .ok (.getfield 39, 3) := by decide +kernel
theorem dX0_isAlike_11 : decode cX0_isAlike 11 = .ok (.aload_n 1, 1) := by decide +kernel
theorem dX0_isAlike_12 : decode cX0_isAlike 12 = .ok (.getfield 39, 3) := by decide +kernel
theorem dX0_isAlike_15 : decode cX0_isAlike 15 = .ok (.if_acmp .ne 29, 3) := by decide +kernel
theorem dX0_isAlike_18 : decode cX0_isAlike 18 = .ok (.aload_n 0, 1) := by decide +kernel
theorem dX0_isAlike_19 : decode cX0_isAlike 19 = .ok (.getfield 35, 3) := by decide +kernel
theorem dX0_isAlike_22 : decode cX0_isAlike 22 = .ok (.getfield 116, 3) := by decide +kernel
theorem dX0_isAlike_25 : decode cX0_isAlike 25 = .ok (.aload_n 1, 1) := by decide +kernel
theorem dX0_isAlike_26 : decode cX0_isAlike 26 = .ok (.getfield 35, 3) := by decide +kernel
theorem dX0_isAlike_29 : decode cX0_isAlike 29 = .ok (.getfield 116, 3) := by decide +kernel
theorem dX0_isAlike_32 : decode cX0_isAlike 32 = .ok (.ixor, 1) := by decide +kernel
theorem dX0_isAlike_33 : decode cX0_isAlike 33 = .ok (.invokestatic 67, 3) := by decide +kernel
theorem dX0_isAlike_36 : decode cX0_isAlike 36 = .ok (.iload_n 2, 1) := by decide +kernel
theorem dX0_isAlike_37 : decode cX0_isAlike 37 = .ok (.if_icmp .gt 7, 3) := by decide +kernel
theorem dX0_isAlike_40 : decode cX0_isAlike 40 = .ok (.iconst 1, 1) := by decide +kernel
theorem dX0_isAlike_41 : decode cX0_isAlike 41 = .ok (.goto 4, 3) := by decide +kernel
theorem dX0_isAlike_44 : decode cX0_isAlike 44 = .ok (.iconst 0, 1) := by decide +kernel
theorem dX0_isAlike_45 : decode cX0_isAlike 45 = .ok (.ireturn, 1) := by decide +kernel
theorem dX0_standOf_0 : decode cX0_standOf 0 = .ok (.aload_n 0, 1) := by decide +kernel
theorem dX0_standOf_1 : decode cX0_standOf 1 = .ok (.getfield 54, 3) := by decide +kernel
theorem dX0_standOf_4 : decode cX0_standOf 4 = .ok (.aload_n 1, 1) := by decide +kernel
theorem dX0_standOf_5 : decode cX0_standOf 5 = .ok (.aload_n 0, 1) := by decide +kernel
theorem dX0_standOf_6 : decode cX0_standOf 6 = .ok (.getfield 22, 3) := by decide +kernel
theorem dX0_standOf_9 : decode cX0_standOf 9 = .ok (.invokevirtual 121, 3) := by decide +kernel
theorem dX0_standOf_12 : decode cX0_standOf 12 = .ok (.istore_n 2, 1) := by decide +kernel
theorem dX0_standOf_13 : decode cX0_standOf 13 = .ok (.iload_n 2, 1) := by decide +kernel
theorem dX0_standOf_14 : decode cX0_standOf 14 = .ok (.ifCond .ne 23, 3) := by decide +kernel
theorem dX0_standOf_17 : decode cX0_standOf 17 = .ok (.aload_n 0, 1) := by decide +kernel
theorem dX0_standOf_18 : decode cX0_standOf 18 = .ok (.getfield 9, 3) := by decide +kernel
theorem dX0_standOf_21 : decode cX0_standOf 21 = .ok (.ifnull 16, 3) := by decide +kernel
theorem dX0_standOf_24 : decode cX0_standOf 24 = .ok (.aload_n 0, 1) := by decide +kernel
theorem dX0_standOf_25 : decode cX0_standOf 25 = .ok (.getfield 9, 3) := by decide +kernel
theorem dX0_standOf_28 : decode cX0_standOf 28 = .ok (.aload_n 1, 1) := by decide +kernel
theorem dX0_standOf_29 : decode cX0_standOf 29 = .ok (.aload_n 0, 1) := by decide +kernel
theorem dX0_standOf_30 : decode cX0_standOf 30 = .ok (.getfield 22, 3) := by decide +kernel
theorem dX0_standOf_33 : decode cX0_standOf 33 = .ok (.invokevirtual 121, 3) := by decide +kernel
theorem dX0_standOf_36 : decode cX0_standOf 36 = .ok (.istore_n 2, 1) := by decide +kernel
theorem dX0_standOf_37 : decode cX0_standOf 37 = .ok (.iload_n 2, 1) := by decide +kernel
theorem dX0_standOf_38 : decode cX0_standOf 38 = .ok (.ireturn, 1) := by decide +kernel
theorem dX0_staysWithinAsked_0 : decode cX0_staysWithinAsked 0 = .ok (.aload_n 0, 1) := by decide +kernel
theorem dX0_staysWithinAsked_1 : decode cX0_staysWithinAsked 1 = .ok (.invokevirtual 113, 3) := by decide +kernel
theorem dX0_staysWithinAsked_4 : decode cX0_staysWithinAsked 4 = .ok (.ifCond .eq 25, 3) := by decide +kernel
theorem dX0_staysWithinAsked_7 : decode cX0_staysWithinAsked 7 = .ok (.aload_n 0, 1) := by decide +kernel
theorem dX0_staysWithinAsked_8 : decode cX0_staysWithinAsked 8 = .ok (.invokevirtual 73, 3) := by decide +kernel
theorem dX0_staysWithinAsked_11 : decode cX0_staysWithinAsked 11 = .ok (.invokevirtual 80, 3) := by decide +kernel
theorem dX0_staysWithinAsked_14 : decode cX0_staysWithinAsked 14 = .ok (.aload_n 0, 1) := by decide +kernel
theorem dX0_staysWithinAsked_15 : decode cX0_staysWithinAsked 15 = .ok (.invokevirtual 84, 3) := by decide +kernel
theorem dX0_staysWithinAsked_18 : decode cX0_staysWithinAsked 18 = .ok (.iadd, 1) := by decide +kernel
theorem dX0_staysWithinAsked_19 : decode cX0_staysWithinAsked 19 = .ok (.aload_n 0, 1) := by decide +kernel
theorem dX0_staysWithinAsked_20 : decode cX0_staysWithinAsked 20 = .ok (.invokevirtual 73, 3) := by decide +kernel
theorem dX0_staysWithinAsked_23 : decode cX0_staysWithinAsked 23 = .ok (.getfield 77, 3) := by decide +kernel
theorem dX0_staysWithinAsked_26 : decode cX0_staysWithinAsked 26 = .ok (.if_icmp .gt 7, 3) := by decide +kernel
theorem dX0_staysWithinAsked_29 : decode cX0_staysWithinAsked 29 = .ok (.iconst 1, 1) := by decide +kernel
theorem dX0_staysWithinAsked_30 : decode cX0_staysWithinAsked 30 = .ok (.goto 4, 3) := by decide +kernel
theorem dX0_staysWithinAsked_33 : decode cX0_staysWithinAsked 33 = .ok (.iconst 0, 1) := by decide +kernel
theorem dX0_staysWithinAsked_34 : decode cX0_staysWithinAsked 34 = .ok (.ireturn, 1) := by decide +kernel
theorem dX0_everyJudgeOnce_0 : decode cX0_everyJudgeOnce 0 = .ok (.aload_n 0, 1) := by decide +kernel
theorem dX0_everyJudgeOnce_1 : decode cX0_everyJudgeOnce 1 = .ok (.getfield 9, 3) := by decide +kernel
theorem dX0_everyJudgeOnce_4 : decode cX0_everyJudgeOnce 4 = .ok (.ifnonnull 7, 3) := by decide +kernel
theorem dX0_everyJudgeOnce_7 : decode cX0_everyJudgeOnce 7 = .ok (.iconst 0, 1) := by decide +kernel
theorem dX0_everyJudgeOnce_8 : decode cX0_everyJudgeOnce 8 = .ok (.goto 10, 3) := by decide +kernel
theorem dX0_everyJudgeOnce_11 : decode cX0_everyJudgeOnce 11 = .ok (.aload_n 0, 1) := by decide +kernel
theorem dX0_everyJudgeOnce_12 : decode cX0_everyJudgeOnce 12 = .ok (.getfield 9, 3) := by decide +kernel
theorem dX0_everyJudgeOnce_15 : decode cX0_everyJudgeOnce 15 = .ok (.getfield 125, 3) := by decide +kernel
theorem dX0_everyJudgeOnce_18 : decode cX0_everyJudgeOnce 18 = .ok (.istore_n 1, 1) := by decide +kernel
theorem dX0_everyJudgeOnce_19 : decode cX0_everyJudgeOnce 19 = .ok (.aload_n 0, 1) := by decide +kernel
theorem dX0_everyJudgeOnce_20 : decode cX0_everyJudgeOnce 20 = .ok (.getfield 54, 3) := by decide +kernel
theorem dX0_everyJudgeOnce_23 : decode cX0_everyJudgeOnce 23 = .ok (.getfield 125, 3) := by decide +kernel
theorem dX0_everyJudgeOnce_26 : decode cX0_everyJudgeOnce 26 = .ok (.iload_n 1, 1) := by decide +kernel
theorem dX0_everyJudgeOnce_27 : decode cX0_everyJudgeOnce 27 = .ok (.iand, 1) := by decide +kernel
theorem dX0_everyJudgeOnce_28 : decode cX0_everyJudgeOnce 28 = .ok (.ifCond .ne 24, 3) := by decide +kernel
theorem dX0_everyJudgeOnce_31 : decode cX0_everyJudgeOnce 31 = .ok (.aload_n 0, 1) := by decide +kernel
theorem dX0_everyJudgeOnce_32 : decode cX0_everyJudgeOnce 32 = .ok (.getfield 54, 3) := by decide +kernel
theorem dX0_everyJudgeOnce_35 : decode cX0_everyJudgeOnce 35 = .ok (.getfield 125, 3) := by decide +kernel
theorem dX0_everyJudgeOnce_38 : decode cX0_everyJudgeOnce 38 = .ok (.iload_n 1, 1) := by decide +kernel
theorem dX0_everyJudgeOnce_39 : decode cX0_everyJudgeOnce 39 = .ok (.ior, 1) := by decide +kernel
theorem dX0_everyJudgeOnce_40 : decode cX0_everyJudgeOnce 40 = .ok (.aload_n 0, 1) := by decide +kernel
theorem dX0_everyJudgeOnce_41 : decode cX0_everyJudgeOnce 41 = .ok (.getfield 25, 3) := by decide +kernel
theorem dX0_everyJudgeOnce_44 : decode cX0_everyJudgeOnce 44 = .ok (.iand, 1) := by decide +kernel
theorem dX0_everyJudgeOnce_45 : decode cX0_everyJudgeOnce 45 = .ok (.ifCond .ne 7, 3) := by decide +kernel
theorem dX0_everyJudgeOnce_48 : decode cX0_everyJudgeOnce 48 = .ok (.iconst 1, 1) := by decide +kernel
theorem dX0_everyJudgeOnce_49 : decode cX0_everyJudgeOnce 49 = .ok (.goto 4, 3) := by decide +kernel
theorem dX0_everyJudgeOnce_52 : decode cX0_everyJudgeOnce 52 = .ok (.iconst 0, 1) := by decide +kernel
theorem dX0_everyJudgeOnce_53 : decode cX0_everyJudgeOnce 53 = .ok (.ireturn, 1) := by decide +kernel
theorem dX1_init_0 : decode cX1_init 0 = .ok (.aload_n 0, 1) := by decide +kernel
theorem dX1_init_1 : decode cX1_init 1 = .ok (.invokespecial 1, 3) := by decide +kernel
theorem dX1_init_4 : decode cX1_init 4 = .ok (.aload_n 0, 1) := by decide +kernel
theorem dX1_init_5 : decode cX1_init 5 = .ok (.aload_n 1, 1) := by decide +kernel
theorem dX1_init_6 : decode cX1_init 6 = .ok (.putfield 7, 3) := by decide +kernel
theorem dX1_init_9 : decode cX1_init 9 = .ok (.aload_n 0, 1) := by decide +kernel
theorem dX1_init_10 : decode cX1_init 10 = .ok (.aload_n 2, 1) := by decide +kernel
theorem dX1_init_11 : decode cX1_init 11 = .ok (.putfield 13, 3) := by decide +kernel
theorem dX1_init_14 : decode cX1_init 14 = .ok (.return_, 1) := by decide +kernel
theorem dX2_init_0 : decode cX2_init 0 = .ok (.aload_n 0, 1) := by decide +kernel
theorem dX2_init_1 : decode cX2_init 1 = .ok (.invokespecial 3, 3) := by decide +kernel
theorem dX2_init_4 : decode cX2_init 4 = .ok (.aload_n 0, 1) := by decide +kernel
theorem dX2_init_5 : decode cX2_init 5 = .ok (.iconst 0, 1) := by decide +kernel
theorem dX2_init_6 : decode cX2_init 6 = .ok (.putfield 9, 3) := by decide +kernel
theorem dX2_init_9 : decode cX2_init 9 = .ok (.aload_n 0, 1) := by decide +kernel
theorem dX2_init_10 : decode cX2_init 10 = .ok (.iconst 0, 1) := by decide +kernel
theorem dX2_init_11 : decode cX2_init 11 = .ok (.putfield 15, 3) := by decide +kernel
theorem dX2_init_14 : decode cX2_init 14 = .ok (.aload_n 0, 1) := by decide +kernel
theorem dX2_init_15 : decode cX2_init 15 = .ok (.iconst 0, 1) := by decide +kernel
theorem dX2_init_16 : decode cX2_init 16 = .ok (.putfield 18, 3) := by decide +kernel
theorem dX2_init_19 : decode cX2_init 19 = .ok (.aload_n 0, 1) := by decide +kernel
theorem dX2_init_20 : decode cX2_init 20 = .ok (.iconst 0, 1) := by decide +kernel
theorem dX2_init_21 : decode cX2_init 21 = .ok (.putfield 21, 3) := by decide +kernel
theorem dX2_init_24 : decode cX2_init 24 = .ok (.aload_n 0, 1) := by decide +kernel
theorem dX2_init_25 : decode cX2_init 25 = .ok (.iconst 0, 1) := by decide +kernel
theorem dX2_init_26 : decode cX2_init 26 = .ok (.putfield 24, 3) := by decide +kernel
theorem dX2_init_29 : decode cX2_init 29 = .ok (.aload_n 0, 1) := by decide +kernel
theorem dX2_init_30 : decode cX2_init 30 = .ok (.iconst 0, 1) := by decide +kernel
theorem dX2_init_31 : decode cX2_init 31 = .ok (.putfield 27, 3) := by decide +kernel
theorem dX2_init_34 : decode cX2_init 34 = .ok (.aload_n 0, 1) := by decide +kernel
theorem dX2_init_35 : decode cX2_init 35 = .ok (.iload_n 1, 1) := by decide +kernel
theorem dX2_init_36 : decode cX2_init 36 = .ok (.putfield 31, 3) := by decide +kernel
theorem dX2_init_39 : decode cX2_init 39 = .ok (.return_, 1) := by decide +kernel
theorem dX2_votes_0 : decode cX2_votes 0 = .ok (.aload_n 0, 1) := by decide +kernel
theorem dX2_votes_1 : decode cX2_votes 1 = .ok (.getfield 15, 3) := by decide +kernel
theorem dX2_votes_4 : decode cX2_votes 4 = .ok (.invokestatic 34, 3) := by decide +kernel
theorem dX2_votes_7 : decode cX2_votes 7 = .ok (.ireturn, 1) := by decide +kernel
theorem dX2_cast_0 : decode cX2_cast 0 = .ok (.aload_n 0, 1) := by decide +kernel
theorem dX2_cast_1 : decode cX2_cast 1 = .ok (.dup, 1) := by decide +kernel
theorem dX2_cast_2 : decode cX2_cast 2 = .ok (.getfield 15, 3) := by decide +kernel
theorem dX2_cast_5 : decode cX2_cast 5 = .ok (.aload_n 1, 1) := by decide +kernel
theorem dX2_cast_6 : decode cX2_cast 6 = .ok (.getfield 40, 3) := by decide +kernel
theorem dX2_cast_9 : decode cX2_cast 9 = .ok (.ior, 1) := by decide +kernel
theorem dX2_cast_10 : decode cX2_cast 10 = .ok (.putfield 15, 3) := by decide +kernel
theorem dX2_cast_13 : decode cX2_cast 13 = .ok (.iload_n 2, 1) := by decide +kernel
theorem dX2_cast_14 : decode cX2_cast 14 = .ok (.ifCond .eq 32, 3) := by decide +kernel
theorem dX2_cast_17 : decode cX2_cast 17 = .ok (.aload_n 0, 1) := by decide +kernel
theorem dX2_cast_18 : decode cX2_cast 18 = .ok (.dup, 1) := by decide +kernel
theorem dX2_cast_19 : decode cX2_cast 19 = .ok (.getfield 18, 3) := by decide +kernel
theorem dX2_cast_22 : decode cX2_cast 22 = .ok (.aload_n 1, 1) := by decide +kernel
theorem dX2_cast_23 : decode cX2_cast 23 = .ok (.getfield 40, 3) := by decide +kernel
theorem dX2_cast_26 : decode cX2_cast 26 = .ok (.ior, 1) := by decide +kernel
theorem dX2_cast_27 : decode cX2_cast 27 = .ok (.putfield 18, 3) := by decide +kernel
theorem dX2_cast_30 : decode cX2_cast 30 = .ok (.aload_n 0, 1) := by decide +kernel
theorem dX2_cast_31 : decode cX2_cast 31 = .ok (.dup, 1) := by decide +kernel
theorem dX2_cast_32 : decode cX2_cast 32 = .ok (.getfield 21, 3) := by decide +kernel
theorem dX2_cast_35 : decode cX2_cast 35 = .ok (.aload_n 1, 1) := by decide +kernel
theorem dX2_cast_36 : decode cX2_cast 36 = .ok (.getfield 45, 3) := by decide +kernel
theorem dX2_cast_39 : decode cX2_cast 39 = .ok (.iadd, 1) := by decide +kernel
theorem dX2_cast_40 : decode cX2_cast 40 = .ok (.putfield 21, 3) := by decide +kernel
theorem dX2_cast_43 : decode cX2_cast 43 = .ok (.goto 16, 3) := by decide +kernel
theorem dX2_cast_46 : decode cX2_cast 46 = .ok (.aload_n 0, 1) := by decide +kernel
theorem dX2_cast_47 : decode cX2_cast 47 = .ok (.dup, 1) := by decide +kernel
theorem dX2_cast_48 : decode cX2_cast 48 = .ok (.getfield 24, 3) := by decide +kernel
theorem dX2_cast_51 : decode cX2_cast 51 = .ok (.aload_n 1, 1) := by decide +kernel
theorem dX2_cast_52 : decode cX2_cast 52 = .ok (.getfield 45, 3) := by decide +kernel
theorem dX2_cast_55 : decode cX2_cast 55 = .ok (.iadd, 1) := by decide +kernel
theorem dX2_cast_56 : decode cX2_cast 56 = .ok (.putfield 24, 3) := by decide +kernel
theorem dX2_cast_59 : decode cX2_cast 59 = .ok (.return_, 1) := by decide +kernel
theorem dX2_isAgreed_0 : decode cX2_isAgreed 0 = .ok (.iconst 2, 1) := by decide +kernel
theorem dX2_isAgreed_1 : decode cX2_isAgreed 1 = .ok (.aload_n 0, 1) := by decide +kernel
theorem dX2_isAgreed_2 : decode cX2_isAgreed 2 = .ok (.getfield 21, 3) := by decide +kernel
theorem dX2_isAgreed_5 : decode cX2_isAgreed 5 = .ok (.imul, 1) := by decide +kernel
theorem dX2_isAgreed_6 : decode cX2_isAgreed 6 = .ok (.iconst 2, 1) := by decide +kernel
theorem dX2_isAgreed_7 : decode cX2_isAgreed 7 = .ok (.aload_n 0, 1) := by decide +kernel
theorem dX2_isAgreed_8 : decode cX2_isAgreed 8 = .ok (.getfield 24, 3) := by decide +kernel
theorem dX2_isAgreed_11 : decode cX2_isAgreed 11 = .ok (.imul, 1) := by decide +kernel
theorem dX2_isAgreed_12 : decode cX2_isAgreed 12 = .ok (.iadd, 1) := by decide +kernel
theorem dX2_isAgreed_13 : decode cX2_isAgreed 13 = .ok (.istore_n 1, 1) := by decide +kernel
theorem dX2_isAgreed_14 : decode cX2_isAgreed 14 = .ok (.iconst 3, 1) := by decide +kernel
theorem dX2_isAgreed_15 : decode cX2_isAgreed 15 = .ok (.aload_n 0, 1) := by decide +kernel
theorem dX2_isAgreed_16 : decode cX2_isAgreed 16 = .ok (.getfield 21, 3) := by decide +kernel
theorem dX2_isAgreed_19 : decode cX2_isAgreed 19 = .ok (.imul, 1) := by decide +kernel
theorem dX2_isAgreed_20 : decode cX2_isAgreed 20 = .ok (.iload_n 1, 1) := by decide +kernel
theorem dX2_isAgreed_21 : decode cX2_isAgreed 21 = .ok (.if_icmp .ge 13, 3) := by decide +kernel
theorem dX2_isAgreed_24 : decode cX2_isAgreed 24 = .ok (.iconst 3, 1) := by decide +kernel
theorem dX2_isAgreed_25 : decode cX2_isAgreed 25 = .ok (.aload_n 0, 1) := by decide +kernel
theorem dX2_isAgreed_26 : decode cX2_isAgreed 26 = .ok (.getfield 24, 3) := by decide +kernel
theorem dX2_isAgreed_29 : decode cX2_isAgreed 29 = .ok (.imul, 1) := by decide +kernel
theorem dX2_isAgreed_30 : decode cX2_isAgreed 30 = .ok (.iload_n 1, 1) := by decide +kernel
theorem dX2_isAgreed_31 : decode cX2_isAgreed 31 = .ok (.if_icmp .lt 7, 3) := by decide +kernel
theorem dX2_isAgreed_34 : decode cX2_isAgreed 34 = .ok (.iconst 1, 1) := by decide +kernel
theorem dX2_isAgreed_35 : decode cX2_isAgreed 35 = .ok (.goto 4, 3) := by decide +kernel
theorem dX2_isAgreed_38 : decode cX2_isAgreed 38 = .ok (.iconst 0, 1) := by decide +kernel
theorem dX2_isAgreed_39 : decode cX2_isAgreed 39 = .ok (.ireturn, 1) := by decide +kernel
theorem dX2_mayAskMore_0 : decode cX2_mayAskMore 0 = .ok (.aload_n 0, 1) := by decide +kernel
theorem dX2_mayAskMore_1 : decode cX2_mayAskMore 1 = .ok (.getfield 9, 3) := by decide +kernel
theorem dX2_mayAskMore_4 : decode cX2_mayAskMore 4 = .ok (.iconst 2, 1) := by decide +kernel
theorem dX2_mayAskMore_5 : decode cX2_mayAskMore 5 = .ok (.if_icmp .ge 16, 3) := by decide +kernel
theorem dX2_mayAskMore_8 : decode cX2_mayAskMore 8 = .ok (.aload_n 0, 1) := by decide +kernel
theorem dX2_mayAskMore_9 : decode cX2_mayAskMore 9 = .ok (.getfield 31, 3) := by decide +kernel
theorem dX2_mayAskMore_12 : decode cX2_mayAskMore 12 = .ok (.bipush 7, 2) := by decide +kernel
theorem dX2_mayAskMore_14 : decode cX2_mayAskMore 14 = .ok (.if_icmp .gt 7, 3) := by decide +kernel
theorem dX2_mayAskMore_17 : decode cX2_mayAskMore 17 = .ok (.iconst 1, 1) := by decide +kernel
theorem dX2_mayAskMore_18 : decode cX2_mayAskMore 18 = .ok (.goto 4, 3) := by decide +kernel
theorem dX2_mayAskMore_21 : decode cX2_mayAskMore 21 = .ok (.iconst 0, 1) := by decide +kernel
theorem dX2_mayAskMore_22 : decode cX2_mayAskMore 22 = .ok (.ireturn, 1) := by decide +kernel
theorem dX2_askMore_0 : decode cX2_askMore 0 = .ok (.aload_n 0, 1) := by decide +kernel
theorem dX2_askMore_1 : decode cX2_askMore 1 = .ok (.dup, 1) := by decide +kernel
theorem dX2_askMore_2 : decode cX2_askMore 2 = .ok (.getfield 31, 3) := by decide +kernel
theorem dX2_askMore_5 : decode cX2_askMore 5 = .ok (.iconst 2, 1) := by decide +kernel
theorem dX2_askMore_6 : decode cX2_askMore 6 = .ok (.iadd, 1) := by decide +kernel
theorem dX2_askMore_7 : decode cX2_askMore 7 = .ok (.putfield 31, 3) := by decide +kernel
theorem dX2_askMore_10 : decode cX2_askMore 10 = .ok (.aload_n 0, 1) := by decide +kernel
theorem dX2_askMore_11 : decode cX2_askMore 11 = .ok (.dup, 1) := by decide +kernel
theorem dX2_askMore_12 : decode cX2_askMore 12 = .ok (.getfield 9, 3) := by decide +kernel
theorem dX2_askMore_15 : decode cX2_askMore 15 = .ok (.iconst 1, 1) := by decide +kernel
theorem dX2_askMore_16 : decode cX2_askMore 16 = .ok (.iadd, 1) := by decide +kernel
theorem dX2_askMore_17 : decode cX2_askMore 17 = .ok (.putfield 9, 3) := by decide +kernel
theorem dX2_askMore_20 : decode cX2_askMore 20 = .ok (.return_, 1) := by decide +kernel
theorem dX2_findsGuilty_0 : decode cX2_findsGuilty 0 = .ok (.aload_n 0, 1) := by decide +kernel
theorem dX2_findsGuilty_1 : decode cX2_findsGuilty 1 = .ok (.getfield 21, 3) := by decide +kernel
theorem dX2_findsGuilty_4 : decode cX2_findsGuilty 4 = .ok (.aload_n 0, 1) := by decide +kernel
theorem dX2_findsGuilty_5 : decode cX2_findsGuilty 5 = .ok (.getfield 24, 3) := by decide +kernel
theorem dX2_findsGuilty_8 : decode cX2_findsGuilty 8 = .ok (.if_icmp .le 7, 3) := by decide +kernel
theorem dX2_findsGuilty_11 : decode cX2_findsGuilty 11 = .ok (.iconst 1, 1) := by decide +kernel
theorem dX2_findsGuilty_12 : decode cX2_findsGuilty 12 = .ok (.goto 4, 3) := by decide +kernel
theorem dX2_findsGuilty_15 : decode cX2_findsGuilty 15 = .ok (.iconst 0, 1) := by decide +kernel
theorem dX2_findsGuilty_16 : decode cX2_findsGuilty 16 = .ok (.ireturn, 1) := by decide +kernel
theorem dX2_hasVoter_0 : decode cX2_hasVoter 0 = .ok (.aload_n 0, 1) := by decide +kernel
theorem dX2_hasVoter_1 : decode cX2_hasVoter 1 = .ok (.getfield 15, 3) := by decide +kernel
theorem dX2_hasVoter_4 : decode cX2_hasVoter 4 = .ok (.aload_n 1, 1) := by decide +kernel
theorem dX2_hasVoter_5 : decode cX2_hasVoter 5 = .ok (.getfield 40, 3) := by decide +kernel
theorem dX2_hasVoter_8 : decode cX2_hasVoter 8 = .ok (.iand, 1) := by decide +kernel
theorem dX2_hasVoter_9 : decode cX2_hasVoter 9 = .ok (.ifCond .eq 7, 3) := by decide +kernel
theorem dX2_hasVoter_12 : decode cX2_hasVoter 12 = .ok (.iconst 1, 1) := by decide +kernel
theorem dX2_hasVoter_13 : decode cX2_hasVoter 13 = .ok (.goto 4, 3) := by decide +kernel
theorem dX2_hasVoter_16 : decode cX2_hasVoter 16 = .ok (.iconst 0, 1) := by decide +kernel
theorem dX2_hasVoter_17 : decode cX2_hasVoter 17 = .ok (.ireturn, 1) := by decide +kernel
theorem dX2_standAgainst_0 : decode cX2_standAgainst 0 = .ok (.aload_n 0, 1) := by decide +kernel
theorem dX2_standAgainst_1 : decode cX2_standAgainst 1 = .ok (.aload_n 1, 1) := by decide +kernel
theorem dX2_standAgainst_2 : decode cX2_standAgainst 2 = .ok (.invokevirtual 48, 3) := by decide +kernel
theorem dX2_standAgainst_5 : decode cX2_standAgainst 5 = .ok (.ifCond .eq 15, 3) := by decide +kernel
theorem dX2_standAgainst_8 : decode cX2_standAgainst 8 = .ok (.iload_n 2, 1) := by decide +kernel
theorem dX2_standAgainst_9 : decode cX2_standAgainst 9 = .ok (.iconst (-1), 1) := by decide +kernel
theorem dX2_standAgainst_10 : decode cX2_standAgainst 10 = .ok (.if_icmp .ne 12, 3) := by decide +kernel
theorem dX2_standAgainst_13 : decode cX2_standAgainst 13 = .ok (.aload_n 0, 1) := by decide +kernel
theorem dX2_standAgainst_14 : decode cX2_standAgainst 14 = .ok (.getfield 27, 3) := by decide +kernel
theorem dX2_standAgainst_17 : decode cX2_standAgainst 17 = .ok (.ifCond .ne 5, 3) := by decide +kernel
theorem dX2_standAgainst_20 : decode cX2_standAgainst 20 = .ok (.iconst 0, 1) := by decide +kernel
theorem dX2_standAgainst_21 : decode cX2_standAgainst 21 = .ok (.ireturn, 1) := by decide +kernel
theorem dX2_standAgainst_22 : decode cX2_standAgainst 22 = .ok (.iload_n 2, 1) := by decide +kernel
theorem dX2_standAgainst_23 : decode cX2_standAgainst 23 = .ok (.iconst (-1), 1) := by decide +kernel
theorem dX2_standAgainst_24 : decode cX2_standAgainst 24 = .ok (.if_icmp .ne 10, 3) := by decide +kernel
theorem dX2_standAgainst_27 : decode cX2_standAgainst 27 = .ok (.aload_n 0, 1) := by decide +kernel
theorem dX2_standAgainst_28 : decode cX2_standAgainst 28 = .ok (.invokevirtual 52, 3) := by decide +kernel
theorem dX2_standAgainst_31 : decode cX2_standAgainst 31 = .ok (.goto 13, 3) := by decide +kernel
theorem dX2_standAgainst_34 : decode cX2_standAgainst 34 = .ok (.iload_n 2, 1) := by decide +kernel
theorem dX2_standAgainst_35 : decode cX2_standAgainst 35 = .ok (.iconst 1, 1) := by decide +kernel
theorem dX2_standAgainst_36 : decode cX2_standAgainst 36 = .ok (.if_icmp .ne 7, 3) := by decide +kernel
theorem dX2_standAgainst_39 : decode cX2_standAgainst 39 = .ok (.iconst 1, 1) := by decide +kernel
theorem dX2_standAgainst_40 : decode cX2_standAgainst 40 = .ok (.goto 4, 3) := by decide +kernel
theorem dX2_standAgainst_43 : decode cX2_standAgainst 43 = .ok (.iconst 0, 1) := by decide +kernel
theorem dX2_standAgainst_44 : decode cX2_standAgainst 44 = .ok (.istore_n 3, 1) := by decide +kernel
theorem dX2_standAgainst_45 : decode cX2_standAgainst 45 = .ok (.aload_n 0, 1) := by decide +kernel
theorem dX2_standAgainst_46 : decode cX2_standAgainst 46 = .ok (.getfield 18, 3) := by decide +kernel
theorem dX2_standAgainst_49 : decode cX2_standAgainst 49 = .ok (.aload_n 1, 1) := by decide +kernel
theorem dX2_standAgainst_50 : decode cX2_standAgainst 50 = .ok (.getfield 40, 3) := by decide +kernel
theorem dX2_standAgainst_53 : decode cX2_standAgainst 53 = .ok (.iand, 1) := by decide +kernel
theorem dX2_standAgainst_54 : decode cX2_standAgainst 54 = .ok (.ifCond .eq 7, 3) := by decide +kernel
theorem dX2_standAgainst_57 : decode cX2_standAgainst 57 = .ok (.iconst 1, 1) := by decide +kernel
theorem dX2_standAgainst_58 : decode cX2_standAgainst 58 = .ok (.goto 4, 3) := by decide +kernel
theorem dX2_standAgainst_61 : decode cX2_standAgainst 61 = .ok (.iconst 0, 1) := by decide +kernel
theorem dX2_standAgainst_62 : decode cX2_standAgainst 62 = .ok (.istore 4, 2) := by decide +kernel
theorem dX2_standAgainst_64 : decode cX2_standAgainst 64 = .ok (.iload 4, 2) := by decide +kernel
theorem dX2_standAgainst_66 : decode cX2_standAgainst 66 = .ok (.iload_n 3, 1) := by decide +kernel
theorem dX2_standAgainst_67 : decode cX2_standAgainst 67 = .ok (.if_icmp .ne 7, 3) := by decide +kernel
theorem dX2_standAgainst_70 : decode cX2_standAgainst 70 = .ok (.iconst 1, 1) := by decide +kernel
theorem dX2_standAgainst_71 : decode cX2_standAgainst 71 = .ok (.goto 4, 3) := by decide +kernel
theorem dX2_standAgainst_74 : decode cX2_standAgainst 74 = .ok (.iconst 2, 1) := by decide +kernel
theorem dX2_standAgainst_75 : decode cX2_standAgainst 75 = .ok (.ireturn, 1) := by decide +kernel
theorem dX3_init_0 : decode cX3_init 0 = .ok (.aload_n 0, 1) := by decide +kernel
theorem dX3_init_1 : decode cX3_init 1 = .ok (.invokespecial 1, 3) := by decide +kernel
theorem dX3_init_4 : decode cX3_init 4 = .ok (.aload_n 0, 1) := by decide +kernel
theorem dX3_init_5 : decode cX3_init 5 = .ok (.iconst 0, 1) := by decide +kernel
theorem dX3_init_6 : decode cX3_init 6 = .ok (.putfield 7, 3) := by decide +kernel
theorem dX3_init_9 : decode cX3_init 9 = .ok (.aload_n 0, 1) := by decide +kernel
theorem dX3_init_10 : decode cX3_init 10 = .ok (.lconst 0, 1) := by decide +kernel
theorem dX3_init_11 : decode cX3_init 11 = .ok (.putfield 13, 3) := by decide +kernel
theorem dX3_init_14 : decode cX3_init 14 = .ok (.aload_n 0, 1) := by decide +kernel
theorem dX3_init_15 : decode cX3_init 15 = .ok (.iconst 2, 1) := by decide +kernel
theorem dX3_init_16 : decode cX3_init 16 = .ok (.putfield 17, 3) := by decide +kernel
theorem dX3_init_19 : decode cX3_init 19 = .ok (.aload_n 0, 1) := by decide +kernel
theorem dX3_init_20 : decode cX3_init 20 = .ok (.iconst 1, 1) := by decide +kernel
theorem dX3_init_21 : decode cX3_init 21 = .ok (.putfield 20, 3) := by decide +kernel
theorem dX3_init_24 : decode cX3_init 24 = .ok (.aload_n 0, 1) := by decide +kernel
theorem dX3_init_25 : decode cX3_init 25 = .ok (.iconst 0, 1) := by decide +kernel
theorem dX3_init_26 : decode cX3_init 26 = .ok (.putfield 23, 3) := by decide +kernel
theorem dX3_init_29 : decode cX3_init 29 = .ok (.aload_n 0, 1) := by decide +kernel
theorem dX3_init_30 : decode cX3_init 30 = .ok (.iconst 0, 1) := by decide +kernel
theorem dX3_init_31 : decode cX3_init 31 = .ok (.putfield 27, 3) := by decide +kernel
theorem dX3_init_34 : decode cX3_init 34 = .ok (.aload_n 0, 1) := by decide +kernel
theorem dX3_init_35 : decode cX3_init 35 = .ok (.iconst 0, 1) := by decide +kernel
theorem dX3_init_36 : decode cX3_init 36 = .ok (.putfield 30, 3) := by decide +kernel
theorem dX3_init_39 : decode cX3_init 39 = .ok (.aload_n 0, 1) := by decide +kernel
theorem dX3_init_40 : decode cX3_init 40 = .ok (.iconst 1, 1) := by decide +kernel
theorem dX3_init_41 : decode cX3_init 41 = .ok (.iload_n 1, 1) := by decide +kernel
theorem dX3_init_42 : decode cX3_init 42 = .ok (.ishl, 1) := by decide +kernel
theorem dX3_init_43 : decode cX3_init 43 = .ok (.putfield 33, 3) := by decide +kernel
theorem dX3_init_46 : decode cX3_init 46 = .ok (.return_, 1) := by decide +kernel
theorem dX3_isFree_0 : decode cX3_isFree 0 = .ok (.aload_n 0, 1) := by decide +kernel
theorem dX3_isFree_1 : decode cX3_isFree 1 = .ok (.getfield 23, 3) := by decide +kernel
theorem dX3_isFree_4 : decode cX3_isFree 4 = .ok (.ifCond .ne 18, 3) := by decide +kernel
theorem dX3_isFree_7 : decode cX3_isFree 7 = .ok (.aload_n 0, 1) := by decide +kernel
theorem dX3_isFree_8 : decode cX3_isFree 8 = .ok (.getfield 27, 3) := by decide +kernel
theorem dX3_isFree_11 : decode cX3_isFree 11 = .ok (.aload_n 0, 1) := by decide +kernel
theorem dX3_isFree_12 : decode cX3_isFree 12 = .ok (.getfield 17, 3) := by decide +kernel
theorem dX3_isFree_15 : decode cX3_isFree 15 = .ok (.if_icmp .ge 7, 3) := by decide +kernel
theorem dX3_isFree_18 : decode cX3_isFree 18 = .ok (.iconst 1, 1) := by decide +kernel
theorem dX3_isFree_19 : decode cX3_isFree 19 = .ok (.goto 4, 3) := by decide +kernel
theorem dX3_isFree_22 : decode cX3_isFree 22 = .ok (.iconst 0, 1) := by decide +kernel
theorem dX3_isFree_23 : decode cX3_isFree 23 = .ok (.ireturn, 1) := by decide +kernel
theorem dX3_isSkilledIn_0 : decode cX3_isSkilledIn 0 = .ok (.aload_n 0, 1) := by decide +kernel
theorem dX3_isSkilledIn_1 : decode cX3_isSkilledIn 1 = .ok (.getfield 7, 3) := by decide +kernel
theorem dX3_isSkilledIn_4 : decode cX3_isSkilledIn 4 = .ok (.iload_n 1, 1) := by decide +kernel
theorem dX3_isSkilledIn_5 : decode cX3_isSkilledIn 5 = .ok (.ishr, 1) := by decide +kernel
theorem dX3_isSkilledIn_6 : decode cX3_isSkilledIn 6 = .ok (.iconst 1, 1) := by decide +kernel
theorem dX3_isSkilledIn_7 : decode cX3_isSkilledIn 7 = .ok (.iand, 1) := by decide +kernel
theorem dX3_isSkilledIn_8 : decode cX3_isSkilledIn 8 = .ok (.iconst 1, 1) := by decide +kernel
theorem dX3_isSkilledIn_9 : decode cX3_isSkilledIn 9 = .ok (.if_icmp .ne 7, 3) := by decide +kernel
theorem dX3_isSkilledIn_12 : decode cX3_isSkilledIn 12 = .ok (.iconst 1, 1) := by decide +kernel
theorem dX3_isSkilledIn_13 : decode cX3_isSkilledIn 13 = .ok (.goto 4, 3) := by decide +kernel
theorem dX3_isSkilledIn_16 : decode cX3_isSkilledIn 16 = .ok (.iconst 0, 1) := by decide +kernel
theorem dX3_isSkilledIn_17 : decode cX3_isSkilledIn 17 = .ok (.ireturn, 1) := by decide +kernel
theorem dX3_isKinOf_0 : decode cX3_isKinOf 0 = .ok (.aload_n 0, 1) := by decide +kernel
theorem dX3_isKinOf_1 : decode cX3_isKinOf 1 = .ok (.getfield 13, 3) := by decide +kernel
theorem dX3_isKinOf_4 : decode cX3_isKinOf 4 = .ok (.iload_n 1, 1) := by decide +kernel
theorem dX3_isKinOf_5 : decode cX3_isKinOf 5 = .ok (.lshr, 1) := by decide +kernel
theorem dX3_isKinOf_6 : decode cX3_isKinOf 6 = .ok (.lconst 1, 1) := by decide +kernel
theorem dX3_isKinOf_7 : decode cX3_isKinOf 7 = .ok (.land, 1) := by decide +kernel
theorem dX3_isKinOf_8 : decode cX3_isKinOf 8 = .ok (.lconst 1, 1) := by decide +kernel
theorem dX3_isKinOf_9 : decode cX3_isKinOf 9 = .ok (.lcmp, 1) := by decide +kernel
theorem dX3_isKinOf_10 : decode cX3_isKinOf 10 = .ok (.ifCond .ne 7, 3) := by decide +kernel
theorem dX3_isKinOf_13 : decode cX3_isKinOf 13 = .ok (.iconst 1, 1) := by decide +kernel
theorem dX3_isKinOf_14 : decode cX3_isKinOf 14 = .ok (.goto 4, 3) := by decide +kernel
theorem dX3_isKinOf_17 : decode cX3_isKinOf 17 = .ok (.iconst 0, 1) := by decide +kernel
theorem dX3_isKinOf_18 : decode cX3_isKinOf 18 = .ok (.ireturn, 1) := by decide +kernel
theorem dX3_setKin_0 : decode cX3_setKin 0 = .ok (.iload_n 2, 1) := by decide +kernel
theorem dX3_setKin_1 : decode cX3_setKin 1 = .ok (.ifCond .eq 18, 3) := by decide +kernel
theorem dX3_setKin_4 : decode cX3_setKin 4 = .ok (.aload_n 0, 1) := by decide +kernel
theorem dX3_setKin_5 : decode cX3_setKin 5 = .ok (.dup, 1) := by decide +kernel
theorem dX3_setKin_6 : decode cX3_setKin 6 = .ok (.getfield 13, 3) := by decide +kernel
theorem dX3_setKin_9 : decode cX3_setKin 9 = .ok (.lconst 1, 1) := by decide +kernel
theorem dX3_setKin_10 : decode cX3_setKin 10 = .ok (.iload_n 1, 1) := by decide +kernel
theorem dX3_setKin_11 : decode cX3_setKin 11 = .ok (.lshl, 1) := by decide +kernel
theorem dX3_setKin_12 : decode cX3_setKin 12 = .ok (.lor, 1) := by decide +kernel
theorem dX3_setKin_13 : decode cX3_setKin 13 = .ok (.putfield 13, 3) := by decide +kernel
theorem dX3_setKin_16 : decode cX3_setKin 16 = .ok (.goto 19, 3) := by decide +kernel
theorem dX3_setKin_19 : decode cX3_setKin 19 = .ok (.aload_n 0, 1) := by decide +kernel
theorem dX3_setKin_20 : decode cX3_setKin 20 = .ok (.dup, 1) := by decide +kernel
theorem dX3_setKin_21 : decode cX3_setKin 21 = .ok (.getfield 13, 3) := by decide +kernel
theorem dX3_setKin_24 : decode cX3_setKin 24 = .ok (.lconst 1, 1) := by decide +kernel
theorem dX3_setKin_25 : decode cX3_setKin 25 = .ok (.iload_n 1, 1) := by decide +kernel
theorem dX3_setKin_26 : decode cX3_setKin 26 = .ok (.lshl, 1) := by decide +kernel
theorem dX3_setKin_27 : decode cX3_setKin 27 = .ok (.ldc2_w 36, 3) := by decide +kernel
theorem dX3_setKin_30 : decode cX3_setKin 30 = .ok (.lxor, 1) := by decide +kernel
theorem dX3_setKin_31 : decode cX3_setKin 31 = .ok (.land, 1) := by decide +kernel
theorem dX3_setKin_32 : decode cX3_setKin 32 = .ok (.putfield 13, 3) := by decide +kernel
theorem dX3_setKin_35 : decode cX3_setKin 35 = .ok (.return_, 1) := by decide +kernel
theorem dX4_init_0 : decode cX4_init 0 = .ok (.aload_n 0, 1) := by decide +kernel
theorem dX4_init_1 : decode cX4_init 1 = .ok (.invokespecial 3, 3) := by decide +kernel
theorem dX4_init_4 : decode cX4_init 4 = .ok (.aload_n 0, 1) := by decide +kernel
theorem dX4_init_5 : decode cX4_init 5 = .ok (.bipush 100, 2) := by decide +kernel
theorem dX4_init_7 : decode cX4_init 7 = .ok (.putfield 9, 3) := by decide +kernel
theorem dX4_init_10 : decode cX4_init 10 = .ok (.aload_n 0, 1) := by decide +kernel
theorem dX4_init_11 : decode cX4_init 11 = .ok (.bipush 10, 2) := by decide +kernel
theorem dX4_init_13 : decode cX4_init 13 = .ok (.putfield 15, 3) := by decide +kernel
theorem dX4_init_16 : decode cX4_init 16 = .ok (.aload_n 0, 1) := by decide +kernel
theorem dX4_init_17 : decode cX4_init 17 = .ok (.sipush 400, 3) := by decide +kernel
theorem dX4_init_20 : decode cX4_init 20 = .ok (.newarray .int, 2) := by decide +kernel
theorem dX4_init_22 : decode cX4_init 22 = .ok (.putfield 18, 3) := by decide +kernel
theorem dX4_init_25 : decode cX4_init 25 = .ok (.aload_n 0, 1) := by decide +kernel
theorem dX4_init_26 : decode cX4_init 26 = .ok (.iconst 0, 1) := by decide +kernel
theorem dX4_init_27 : decode cX4_init 27 = .ok (.putfield 22, 3) := by decide +kernel
theorem dX4_init_30 : decode cX4_init 30 = .ok (.aload_n 0, 1) := by decide +kernel
theorem dX4_init_31 : decode cX4_init 31 = .ok (.iconst 0, 1) := by decide +kernel
theorem dX4_init_32 : decode cX4_init 32 = .ok (.putfield 25, 3) := by decide +kernel
theorem dX4_init_35 : decode cX4_init 35 = .ok (.aload_n 0, 1) := by decide +kernel
theorem dX4_init_36 : decode cX4_init 36 = .ok (.iconst 0, 1) := by decide +kernel
theorem dX4_init_37 : decode cX4_init 37 = .ok (.putfield 28, 3) := by decide +kernel
theorem dX4_init_40 : decode cX4_init 40 = .ok (.aload_n 0, 1) := by decide +kernel
theorem dX4_init_41 : decode cX4_init 41 = .ok (.iconst 0, 1) := by decide +kernel
theorem dX4_init_42 : decode cX4_init 42 = .ok (.putfield 31, 3) := by decide +kernel
theorem dX4_init_45 : decode cX4_init 45 = .ok (.aload_n 0, 1) := by decide +kernel
theorem dX4_init_46 : decode cX4_init 46 = .ok (.iconst (-1), 1) := by decide +kernel
theorem dX4_init_47 : decode cX4_init 47 = .ok (.putfield 35, 3) := by decide +kernel
theorem dX4_init_50 : decode cX4_init 50 = .ok (.return_, 1) := by decide +kernel
theorem dX4_restart_0 : decode cX4_restart 0 = .ok (.aload_n 0, 1) := by decide +kernel
theorem dX4_restart_1 : decode cX4_restart 1 = .ok (.iconst 0, 1) := by decide +kernel
theorem dX4_restart_2 : decode cX4_restart 2 = .ok (.putfield 22, 3) := by decide +kernel
theorem dX4_restart_5 : decode cX4_restart 5 = .ok (.aload_n 0, 1) := by decide +kernel
theorem dX4_restart_6 : decode cX4_restart 6 = .ok (.iconst 0, 1) := by decide +kernel
theorem dX4_restart_7 : decode cX4_restart 7 = .ok (.putfield 25, 3) := by decide +kernel
theorem dX4_restart_10 : decode cX4_restart 10 = .ok (.aload_n 0, 1) := by decide +kernel
theorem dX4_restart_11 : decode cX4_restart 11 = .ok (.iconst 0, 1) := by decide +kernel
theorem dX4_restart_12 : decode cX4_restart 12 = .ok (.putfield 28, 3) := by decide +kernel
theorem dX4_restart_15 : decode cX4_restart 15 = .ok (.aload_n 0, 1) := by decide +kernel
theorem dX4_restart_16 : decode cX4_restart 16 = .ok (.iconst 0, 1) := by decide +kernel
theorem dX4_restart_17 : decode cX4_restart 17 = .ok (.putfield 31, 3) := by decide +kernel
theorem dX4_restart_20 : decode cX4_restart 20 = .ok (.aload_n 0, 1) := by decide +kernel
theorem dX4_restart_21 : decode cX4_restart 21 = .ok (.iconst (-1), 1) := by decide +kernel
theorem dX4_restart_22 : decode cX4_restart 22 = .ok (.putfield 35, 3) := by decide +kernel
theorem dX4_restart_25 : decode cX4_restart 25 = .ok (.return_, 1) := by decide +kernel
theorem dX4_climb_0 : decode cX4_climb 0 = .ok (.aload_n 0, 1) := by decide +kernel
theorem dX4_climb_1 : decode cX4_climb 1 = .ok (.iconst 3, 1) := by decide +kernel
theorem dX4_climb_2 : decode cX4_climb 2 = .ok (.aload_n 0, 1) := by decide +kernel
theorem dX4_climb_3 : decode cX4_climb 3 = .ok (.iload_n 1, 1) := by decide +kernel
theorem dX4_climb_4 : decode cX4_climb 4 = .ok (.invokevirtual 38, 3) := by decide +kernel
theorem dX4_climb_7 : decode cX4_climb 7 = .ok (.invokestatic 42, 3) := by decide +kernel
theorem dX4_climb_10 : decode cX4_climb 10 = .ok (.putfield 28, 3) := by decide +kernel
theorem dX4_climb_13 : decode cX4_climb 13 = .ok (.aload_n 0, 1) := by decide +kernel
theorem dX4_climb_14 : decode cX4_climb 14 = .ok (.getfield 22, 3) := by decide +kernel
theorem dX4_climb_17 : decode cX4_climb 17 = .ok (.aload_n 0, 1) := by decide +kernel
theorem dX4_climb_18 : decode cX4_climb 18 = .ok (.getfield 18, 3) := by decide +kernel
theorem dX4_climb_21 : decode cX4_climb 21 = .ok (.arraylength, 1) := by decide +kernel
theorem dX4_climb_22 : decode cX4_climb 22 = .ok (.if_icmp .ge 23, 3) := by decide +kernel
theorem dX4_climb_25 : decode cX4_climb 25 = .ok (.aload_n 0, 1) := by decide +kernel
theorem dX4_climb_26 : decode cX4_climb 26 = .ok (.getfield 18, 3) := by decide +kernel
theorem dX4_climb_29 : decode cX4_climb 29 = .ok (.aload_n 0, 1) := by decide +kernel
theorem dX4_climb_30 : decode cX4_climb 30 = .ok (.getfield 22, 3) := by decide +kernel
theorem dX4_climb_33 : decode cX4_climb 33 = .ok (.iload_n 1, 1) := by decide +kernel
theorem dX4_climb_34 : decode cX4_climb 34 = .ok (.iastore, 1) := by decide +kernel
theorem dX4_climb_35 : decode cX4_climb 35 = .ok (.aload_n 0, 1) := by decide +kernel
theorem dX4_climb_36 : decode cX4_climb 36 = .ok (.dup, 1) := by decide +kernel
theorem dX4_climb_37 : decode cX4_climb 37 = .ok (.getfield 22, 3) := by decide +kernel
theorem dX4_climb_40 : decode cX4_climb 40 = .ok (.iconst 1, 1) := by decide +kernel
theorem dX4_climb_41 : decode cX4_climb 41 = .ok (.iadd, 1) := by decide +kernel
theorem dX4_climb_42 : decode cX4_climb 42 = .ok (.putfield 22, 3) := by decide +kernel
theorem dX4_climb_45 : decode cX4_climb 45 = .ok (.aload_n 0, 1) := by decide +kernel
theorem dX4_climb_46 : decode cX4_climb 46 = .ok (.getfield 28, 3) := by decide +kernel
theorem dX4_climb_49 : decode cX4_climb 49 = .ok (.iconst 3, 1) := by decide +kernel
theorem dX4_climb_50 : decode cX4_climb 50 = .ok (.if_icmp .ge 37, 3) := by decide +kernel
theorem dX4_climb_53 : decode cX4_climb 53 = .ok (.aload_n 0, 1) := by decide +kernel
theorem dX4_climb_54 : decode cX4_climb 54 = .ok (.aload_n 0, 1) := by decide +kernel
theorem dX4_climb_55 : decode cX4_climb 55 = .ok (.getfield 31, 3) := by decide +kernel
theorem dX4_climb_58 : decode cX4_climb 58 = .ok (.ifCond .ne 18, 3) := by decide +kernel
theorem dX4_climb_61 : decode cX4_climb 61 = .ok (.iload_n 2, 1) := by decide +kernel
theorem dX4_climb_62 : decode cX4_climb 62 = .ok (.iload_n 1, 1) := by decide +kernel
theorem dX4_climb_63 : decode cX4_climb 63 = .ok (.isub, 1) := by decide +kernel
theorem dX4_climb_64 : decode cX4_climb 64 = .ok (.aload_n 0, 1) := by decide +kernel
theorem dX4_climb_65 : decode cX4_climb 65 = .ok (.getfield 28, 3) := by decide +kernel
theorem dX4_climb_68 : decode cX4_climb 68 = .ok (.aload_n 0, 1) := by decide +kernel
theorem dX4_climb_69 : decode cX4_climb 69 = .ok (.getfield 15, 3) := by decide +kernel
theorem dX4_climb_72 : decode cX4_climb 72 = .ok (.imul, 1) := by decide +kernel
theorem dX4_climb_73 : decode cX4_climb 73 = .ok (.if_icmp .ge 7, 3) := by decide +kernel
theorem dX4_climb_76 : decode cX4_climb 76 = .ok (.iconst 1, 1) := by decide +kernel
theorem dX4_climb_77 : decode cX4_climb 77 = .ok (.goto 4, 3) := by decide +kernel
theorem dX4_climb_80 : decode cX4_climb 80 = .ok (.iconst 0, 1) := by decide +kernel
theorem dX4_climb_81 : decode cX4_climb 81 = .ok (.putfield 31, 3) := by decide +kernel
theorem dX4_climb_84 : decode cX4_climb 84 = .ok (.goto 15, 3) := by decide +kernel
theorem dX4_climb_87 : decode cX4_climb 87 = .ok (.aload_n 0, 1) := by decide +kernel
theorem dX4_climb_88 : decode cX4_climb 88 = .ok (.getfield 35, 3) := by decide +kernel
theorem dX4_climb_91 : decode cX4_climb 91 = .ok (.ifCond .ge 8, 3) := by decide +kernel
theorem dX4_climb_94 : decode cX4_climb 94 = .ok (.aload_n 0, 1) := by decide +kernel
theorem dX4_climb_95 : decode cX4_climb 95 = .ok (.iload_n 1, 1) := by decide +kernel
theorem dX4_climb_96 : decode cX4_climb 96 = .ok (.putfield 35, 3) := by decide +kernel
theorem dX4_climb_99 : decode cX4_climb 99 = .ok (.return_, 1) := by decide +kernel
theorem dX4_holdingAt_0 : decode cX4_holdingAt 0 = .ok (.aload_n 0, 1) := by decide +kernel
theorem dX4_holdingAt_1 : decode cX4_holdingAt 1 = .ok (.getfield 25, 3) := by decide +kernel
theorem dX4_holdingAt_4 : decode cX4_holdingAt 4 = .ok (.aload_n 0, 1) := by decide +kernel
theorem dX4_holdingAt_5 : decode cX4_holdingAt 5 = .ok (.getfield 22, 3) := by decide +kernel
theorem dX4_holdingAt_8 : decode cX4_holdingAt 8 = .ok (.if_icmp .ge 34, 3) := by decide +kernel
theorem dX4_holdingAt_11 : decode cX4_holdingAt 11 = .ok (.iload_n 1, 1) := by decide +kernel
theorem dX4_holdingAt_12 : decode cX4_holdingAt 12 = .ok (.aload_n 0, 1) := by decide +kernel
theorem dX4_holdingAt_13 : decode cX4_holdingAt 13 = .ok (.getfield 18, 3) := by decide +kernel
theorem dX4_holdingAt_16 : decode cX4_holdingAt 16 = .ok (.aload_n 0, 1) := by decide +kernel
theorem dX4_holdingAt_17 : decode cX4_holdingAt 17 = .ok (.getfield 25, 3) := by decide +kernel
theorem dX4_holdingAt_20 : decode cX4_holdingAt 20 = .ok (.iaload, 1) := by decide +kernel
theorem dX4_holdingAt_21 : decode cX4_holdingAt 21 = .ok (.isub, 1) := by decide +kernel
theorem dX4_holdingAt_22 : decode cX4_holdingAt 22 = .ok (.aload_n 0, 1) := by decide +kernel
theorem dX4_holdingAt_23 : decode cX4_holdingAt 23 = .ok (.getfield 9, 3) := by decide +kernel
theorem dX4_holdingAt_26 : decode cX4_holdingAt 26 = .ok (.if_icmp .lt 16, 3) := by decide +kernel
theorem dX4_holdingAt_29 : decode cX4_holdingAt 29 = .ok (.aload_n 0, 1) := by decide +kernel
theorem dX4_holdingAt_30 : decode cX4_holdingAt 30 = .ok (.dup, 1) := by decide +kernel
theorem dX4_holdingAt_31 : decode cX4_holdingAt 31 = .ok (.getfield 25, 3) := by decide +kernel
theorem dX4_holdingAt_34 : decode cX4_holdingAt 34 = .ok (.iconst 1, 1) := by decide +kernel
theorem dX4_holdingAt_35 : decode cX4_holdingAt 35 = .ok (.iadd, 1) := by decide +kernel
theorem dX4_holdingAt_36 : decode cX4_holdingAt 36 = .ok (.putfield 25, 3) := by decide +kernel
theorem dX4_holdingAt_39 : decode cX4_holdingAt 39 = .ok (.goto (-39), 3) := by decide +kernel
theorem dX4_holdingAt_42 : decode cX4_holdingAt 42 = .ok (.aload_n 0, 1) := by decide +kernel
theorem dX4_holdingAt_43 : decode cX4_holdingAt 43 = .ok (.getfield 22, 3) := by decide +kernel
theorem dX4_holdingAt_46 : decode cX4_holdingAt 46 = .ok (.aload_n 0, 1) := by decide +kernel
theorem dX4_holdingAt_47 : decode cX4_holdingAt 47 = .ok (.getfield 25, 3) := by decide +kernel
theorem dX4_holdingAt_50 : decode cX4_holdingAt 50 = .ok (.isub, 1) := by decide +kernel
theorem dX4_holdingAt_51 : decode cX4_holdingAt 51 = .ok (.ireturn, 1) := by decide +kernel
theorem dX5_init_0 : decode cX5_init 0 = .ok (.aload_n 0, 1) := by decide +kernel
theorem dX5_init_1 : decode cX5_init 1 = .ok (.invokespecial 1, 3) := by decide +kernel
theorem dX5_init_4 : decode cX5_init 4 = .ok (.aload_n 0, 1) := by decide +kernel
theorem dX5_init_5 : decode cX5_init 5 = .ok (.aconst_null, 1) := by decide +kernel
theorem dX5_init_6 : decode cX5_init 6 = .ok (.putfield 7, 3) := by decide +kernel
theorem dX5_init_9 : decode cX5_init 9 = .ok (.aload_n 0, 1) := by decide +kernel
theorem dX5_init_10 : decode cX5_init 10 = .ok (.aconst_null, 1) := by decide +kernel
theorem dX5_init_11 : decode cX5_init 11 = .ok (.putfield 13, 3) := by decide +kernel
theorem dX5_init_14 : decode cX5_init 14 = .ok (.aload_n 0, 1) := by decide +kernel
theorem dX5_init_15 : decode cX5_init 15 = .ok (.iload_n 1, 1) := by decide +kernel
theorem dX5_init_16 : decode cX5_init 16 = .ok (.putfield 16, 3) := by decide +kernel
theorem dX5_init_19 : decode cX5_init 19 = .ok (.aload_n 0, 1) := by decide +kernel
theorem dX5_init_20 : decode cX5_init 20 = .ok (.iload_n 2, 1) := by decide +kernel
theorem dX5_init_21 : decode cX5_init 21 = .ok (.putfield 20, 3) := by decide +kernel
theorem dX5_init_24 : decode cX5_init 24 = .ok (.aload_n 0, 1) := by decide +kernel
theorem dX5_init_25 : decode cX5_init 25 = .ok (.iload_n 3, 1) := by decide +kernel
theorem dX5_init_26 : decode cX5_init 26 = .ok (.putfield 23, 3) := by decide +kernel
theorem dX5_init_29 : decode cX5_init 29 = .ok (.aload_n 0, 1) := by decide +kernel
theorem dX5_init_30 : decode cX5_init 30 = .ok (.iload 4, 2) := by decide +kernel
theorem dX5_init_32 : decode cX5_init 32 = .ok (.putfield 26, 3) := by decide +kernel
theorem dX5_init_35 : decode cX5_init 35 = .ok (.aload_n 0, 1) := by decide +kernel
theorem dX5_init_36 : decode cX5_init 36 = .ok (.iload 5, 2) := by decide +kernel
theorem dX5_init_38 : decode cX5_init 38 = .ok (.putfield 29, 3) := by decide +kernel
theorem dX5_init_41 : decode cX5_init 41 = .ok (.return_, 1) := by decide +kernel
theorem dX5_addCase_0 : decode cX5_addCase 0 = .ok (.aload_n 0, 1) := by decide +kernel
theorem dX5_addCase_1 : decode cX5_addCase 1 = .ok (.getfield 13, 3) := by decide +kernel
theorem dX5_addCase_4 : decode cX5_addCase 4 = .ok (.ifnonnull 11, 3) := by decide +kernel
theorem dX5_addCase_7 : decode cX5_addCase 7 = .ok (.aload_n 0, 1) := by decide +kernel
theorem dX5_addCase_8 : decode cX5_addCase 8 = .ok (.aload_n 1, 1) := by decide +kernel
theorem dX5_addCase_9 : decode cX5_addCase 9 = .ok (.putfield 7, 3) := by decide +kernel
theorem dX5_addCase_12 : decode cX5_addCase 12 = .ok (.goto 11, 3) := by decide +kernel
theorem dX5_addCase_15 : decode cX5_addCase 15 = .ok (.aload_n 0, 1) := by decide +kernel
theorem dX5_addCase_16 : decode cX5_addCase 16 = .ok (.getfield 13, 3) := by decide +kernel
theorem dX5_addCase_19 : decode cX5_addCase 19 = .ok (.aload_n 1, 1) := by decide +kernel
theorem dX5_addCase_20 : decode cX5_addCase 20 = .ok (.putfield 32, 3) := by decide +kernel
theorem dX5_addCase_23 : decode cX5_addCase 23 = .ok (.aload_n 0, 1) := by decide +kernel
theorem dX5_addCase_24 : decode cX5_addCase 24 = .ok (.aload_n 1, 1) := by decide +kernel
theorem dX5_addCase_25 : decode cX5_addCase 25 = .ok (.putfield 13, 3) := by decide +kernel
theorem dX5_addCase_28 : decode cX5_addCase 28 = .ok (.return_, 1) := by decide +kernel
theorem dX5_caseUnder_0 : decode cX5_caseUnder 0 = .ok (.aload_n 0, 1) := by decide +kernel
theorem dX5_caseUnder_1 : decode cX5_caseUnder 1 = .ok (.getfield 7, 3) := by decide +kernel
theorem dX5_caseUnder_4 : decode cX5_caseUnder 4 = .ok (.astore_n 2, 1) := by decide +kernel
theorem dX5_caseUnder_5 : decode cX5_caseUnder 5 = .ok (.aload_n 2, 1) := by decide +kernel
theorem dX5_caseUnder_6 : decode cX5_caseUnder 6 = .ok (.ifnull 24, 3) := by decide +kernel
theorem dX5_caseUnder_9 : decode cX5_caseUnder 9 = .ok (.aload_n 2, 1) := by decide +kernel
theorem dX5_caseUnder_10 : decode cX5_caseUnder 10 = .ok (.getfield 37, 3) := by decide +kernel
theorem dX5_caseUnder_13 : decode cX5_caseUnder 13 = .ok (.getfield 41, 3) := by decide +kernel
theorem dX5_caseUnder_16 : decode cX5_caseUnder 16 = .ok (.iload_n 1, 1) := by decide +kernel
theorem dX5_caseUnder_17 : decode cX5_caseUnder 17 = .ok (.if_icmp .ne 5, 3) := by decide +kernel
theorem dX5_caseUnder_20 : decode cX5_caseUnder 20 = .ok (.aload_n 2, 1) := by decide +kernel
theorem dX5_caseUnder_21 : decode cX5_caseUnder 21 = .ok (.areturn, 1) := by decide +kernel
theorem dX5_caseUnder_22 : decode cX5_caseUnder 22 = .ok (.aload_n 2, 1) := by decide +kernel
theorem dX5_caseUnder_23 : decode cX5_caseUnder 23 = .ok (.getfield 32, 3) := by decide +kernel
theorem dX5_caseUnder_26 : decode cX5_caseUnder 26 = .ok (.astore_n 2, 1) := by decide +kernel
theorem dX5_caseUnder_27 : decode cX5_caseUnder 27 = .ok (.goto (-22), 3) := by decide +kernel
theorem dX5_caseUnder_30 : decode cX5_caseUnder 30 = .ok (.aconst_null, 1) := by decide +kernel
theorem dX5_caseUnder_31 : decode cX5_caseUnder 31 = .ok (.areturn, 1) := by decide +kernel
theorem dX5_isHidden_0 : decode cX5_isHidden 0 = .ok (.aload_n 0, 1) := by decide +kernel
theorem dX5_isHidden_1 : decode cX5_isHidden 1 = .ok (.getfield 7, 3) := by decide +kernel
theorem dX5_isHidden_4 : decode cX5_isHidden 4 = .ok (.astore_n 1, 1) := by decide +kernel
theorem dX5_isHidden_5 : decode cX5_isHidden 5 = .ok (.aload_n 1, 1) := by decide +kernel
theorem dX5_isHidden_6 : decode cX5_isHidden 6 = .ok (.ifnull 20, 3) := by decide +kernel
theorem dX5_isHidden_9 : decode cX5_isHidden 9 = .ok (.aload_n 1, 1) := by decide +kernel
theorem dX5_isHidden_10 : decode cX5_isHidden 10 = .ok (.invokevirtual 44, 3) := by decide +kernel
theorem dX5_isHidden_13 : decode cX5_isHidden 13 = .ok (.ifCond .eq 5, 3) := by decide +kernel
theorem dX5_isHidden_16 : decode cX5_isHidden 16 = .ok (.iconst 1, 1) := by decide +kernel
theorem dX5_isHidden_17 : decode cX5_isHidden 17 = .ok (.ireturn, 1) := by decide +kernel
theorem dX5_isHidden_18 : decode cX5_isHidden 18 = .ok (.aload_n 1, 1) := by decide +kernel
theorem dX5_isHidden_19 : decode cX5_isHidden 19 = .ok (.getfield 32, 3) := by decide +kernel
theorem dX5_isHidden_22 : decode cX5_isHidden 22 = .ok (.astore_n 1, 1) := by decide +kernel
theorem dX5_isHidden_23 : decode cX5_isHidden 23 = .ok (.goto (-18), 3) := by decide +kernel
theorem dX5_isHidden_26 : decode cX5_isHidden 26 = .ok (.iconst 0, 1) := by decide +kernel
theorem dX5_isHidden_27 : decode cX5_isHidden 27 = .ok (.ireturn, 1) := by decide +kernel
theorem dX6_init_0 : decode cX6_init 0 = .ok (.aload_n 0, 1) := by decide +kernel
theorem dX6_init_1 : decode cX6_init 1 = .ok (.invokespecial 1, 3) := by decide +kernel
theorem dX6_init_4 : decode cX6_init 4 = .ok (.aload_n 0, 1) := by decide +kernel
theorem dX6_init_5 : decode cX6_init 5 = .ok (.iconst 0, 1) := by decide +kernel
theorem dX6_init_6 : decode cX6_init 6 = .ok (.putfield 7, 3) := by decide +kernel
theorem dX6_init_9 : decode cX6_init 9 = .ok (.aload_n 0, 1) := by decide +kernel
theorem dX6_init_10 : decode cX6_init 10 = .ok (.iconst 1, 1) := by decide +kernel
theorem dX6_init_11 : decode cX6_init 11 = .ok (.putfield 13, 3) := by decide +kernel
theorem dX6_init_14 : decode cX6_init 14 = .ok (.aload_n 0, 1) := by decide +kernel
theorem dX6_init_15 : decode cX6_init 15 = .ok (.iconst 0, 1) := by decide +kernel
theorem dX6_init_16 : decode cX6_init 16 = .ok (.putfield 16, 3) := by decide +kernel
theorem dX6_init_19 : decode cX6_init 19 = .ok (.aload_n 0, 1) := by decide +kernel
theorem dX6_init_20 : decode cX6_init 20 = .ok (.iload_n 1, 1) := by decide +kernel
theorem dX6_init_21 : decode cX6_init 21 = .ok (.putfield 19, 3) := by decide +kernel
theorem dX6_init_24 : decode cX6_init 24 = .ok (.return_, 1) := by decide +kernel
theorem dX7_init_0 : decode cX7_init 0 = .ok (.aload_n 0, 1) := by decide +kernel
theorem dX7_init_1 : decode cX7_init 1 = .ok (.invokespecial 1, 3) := by decide +kernel
theorem dX7_init_4 : decode cX7_init 4 = .ok (.aload_n 0, 1) := by decide +kernel
theorem dX7_init_5 : decode cX7_init 5 = .ok (.bipush 8, 2) := by decide +kernel
theorem dX7_init_7 : decode cX7_init 7 = .ok (.anewarray 9, 3) := by decide +kernel
theorem dX7_init_10 : decode cX7_init 10 = .ok (.putfield 11, 3) := by decide +kernel
theorem dX7_init_13 : decode cX7_init 13 = .ok (.aload_n 0, 1) := by decide +kernel
theorem dX7_init_14 : decode cX7_init 14 = .ok (.bipush 20, 2) := by decide +kernel
theorem dX7_init_16 : decode cX7_init 16 = .ok (.anewarray 15, 3) := by decide +kernel
theorem dX7_init_19 : decode cX7_init 19 = .ok (.putfield 17, 3) := by decide +kernel
theorem dX7_init_22 : decode cX7_init 22 = .ok (.aload_n 0, 1) := by decide +kernel
theorem dX7_init_23 : decode cX7_init 23 = .ok (.new 21, 3) := by decide +kernel
theorem dX7_init_26 : decode cX7_init 26 = .ok (.dup, 1) := by decide +kernel
theorem dX7_init_27 : decode cX7_init 27 = .ok (.invokespecial 23, 3) := by decide +kernel
theorem dX7_init_30 : decode cX7_init 30 = .ok (.putfield 24, 3) := by decide +kernel
theorem dX7_init_33 : decode cX7_init 33 = .ok (.aload_n 0, 1) := by decide +kernel
theorem dX7_init_34 : decode cX7_init 34 = .ok (.new 21, 3) := by decide +kernel
theorem dX7_init_37 : decode cX7_init 37 = .ok (.dup, 1) := by decide +kernel
theorem dX7_init_38 : decode cX7_init 38 = .ok (.invokespecial 23, 3) := by decide +kernel
theorem dX7_init_41 : decode cX7_init 41 = .ok (.putfield 28, 3) := by decide +kernel
theorem dX7_init_44 : decode cX7_init 44 = .ok (.aload_n 0, 1) := by decide +kernel
theorem dX7_init_45 : decode cX7_init 45 = .ok (.new 21, 3) := by decide +kernel
theorem dX7_init_48 : decode cX7_init 48 = .ok (.dup, 1) := by decide +kernel
theorem dX7_init_49 : decode cX7_init 49 = .ok (.invokespecial 23, 3) := by decide +kernel
theorem dX7_init_52 : decode cX7_init 52 = .ok (.putfield 31, 3) := by decide +kernel
theorem dX7_init_55 : decode cX7_init 55 = .ok (.aload_n 0, 1) := by decide +kernel
theorem dX7_init_56 : decode cX7_init 56 = .ok (.iconst 3, 1) := by decide +kernel
theorem dX7_init_57 : decode cX7_init 57 = .ok (.newarray .int, 2) := by decide +kernel
theorem dX7_init_59 : decode cX7_init 59 = .ok (.dup, 1) := by decide +kernel
theorem dX7_init_60 : decode cX7_init 60 = .ok (.iconst 0, 1) := by decide +kernel
theorem dX7_init_61 : decode cX7_init 61 = .ok (.bipush 10, 2) := by decide +kernel
theorem dX7_init_63 : decode cX7_init 63 = .ok (.iastore, 1) := by decide +kernel
theorem dX7_init_64 : decode cX7_init 64 = .ok (.dup, 1) := by decide +kernel
theorem dX7_init_65 : decode cX7_init 65 = .ok (.iconst 1, 1) := by decide +kernel
theorem dX7_init_66 : decode cX7_init 66 = .ok (.bipush 20, 2) := by decide +kernel
theorem dX7_init_68 : decode cX7_init 68 = .ok (.iastore, 1) := by decide +kernel
theorem dX7_init_69 : decode cX7_init 69 = .ok (.dup, 1) := by decide +kernel
theorem dX7_init_70 : decode cX7_init 70 = .ok (.iconst 2, 1) := by decide +kernel
theorem dX7_init_71 : decode cX7_init 71 = .ok (.bipush 30, 2) := by decide +kernel
theorem dX7_init_73 : decode cX7_init 73 = .ok (.iastore, 1) := by decide +kernel
theorem dX7_init_74 : decode cX7_init 74 = .ok (.putfield 34, 3) := by decide +kernel
theorem dX7_init_77 : decode cX7_init 77 = .ok (.aload_n 0, 1) := by decide +kernel
theorem dX7_init_78 : decode cX7_init 78 = .ok (.new 38, 3) := by decide +kernel
theorem dX7_init_81 : decode cX7_init 81 = .ok (.dup, 1) := by decide +kernel
theorem dX7_init_82 : decode cX7_init 82 = .ok (.invokespecial 40, 3) := by decide +kernel
theorem dX7_init_85 : decode cX7_init 85 = .ok (.putfield 41, 3) := by decide +kernel
theorem dX7_init_88 : decode cX7_init 88 = .ok (.aload_n 0, 1) := by decide +kernel
theorem dX7_init_89 : decode cX7_init 89 = .ok (.iconst 0, 1) := by decide +kernel
theorem dX7_init_90 : decode cX7_init 90 = .ok (.putfield 45, 3) := by decide +kernel
theorem dX7_init_93 : decode cX7_init 93 = .ok (.aload_n 0, 1) := by decide +kernel
theorem dX7_init_94 : decode cX7_init 94 = .ok (.bipush 100, 2) := by decide +kernel
theorem dX7_init_96 : decode cX7_init 96 = .ok (.putfield 49, 3) := by decide +kernel
theorem dX7_init_99 : decode cX7_init 99 = .ok (.aload_n 0, 1) := by decide +kernel
theorem dX7_init_100 : decode cX7_init 100 = .ok (.iconst 0, 1) := by decide +kernel
theorem dX7_init_101 : decode cX7_init 101 = .ok (.putfield 52, 3) := by decide +kernel
theorem dX7_init_104 : decode cX7_init 104 = .ok (.iconst 0, 1) := by decide +kernel
theorem dX7_init_105 : decode cX7_init 105 = .ok (.istore_n 1, 1) := by decide +kernel
theorem dX7_init_106 : decode cX7_init 106 = .ok (.iload_n 1, 1) := by decide +kernel
theorem dX7_init_107 : decode cX7_init 107 = .ok (.bipush 8, 2) := by decide +kernel
theorem dX7_init_109 : decode cX7_init 109 = .ok (.if_icmp .ge 23, 3) := by decide +kernel
theorem dX7_init_112 : decode cX7_init 112 = .ok (.aload_n 0, 1) := by decide +kernel
theorem dX7_init_113 : decode cX7_init 113 = .ok (.getfield 11, 3) := by decide +kernel
theorem dX7_init_116 : decode cX7_init 116 = .ok (.iload_n 1, 1) := by decide +kernel
theorem dX7_init_117 : decode cX7_init 117 = .ok (.new 9, 3) := by decide +kernel
theorem dX7_init_120 : decode cX7_init 120 = .ok (.dup, 1) := by decide +kernel
theorem dX7_init_121 : decode cX7_init 121 = .ok (.iload_n 1, 1) := by decide +kernel
theorem dX7_init_122 : decode cX7_init 122 = .ok (.invokespecial 55, 3) := by decide +kernel
theorem dX7_init_125 : decode cX7_init 125 = .ok (.aastore, 1) := by decide +kernel
theorem dX7_init_126 : decode cX7_init 126 = .ok (.iinc 1 1, 3) := by decide +kernel
theorem dX7_init_129 : decode cX7_init 129 = .ok (.goto (-23), 3) := by decide +kernel
theorem dX7_init_132 : decode cX7_init 132 = .ok (.iconst 0, 1) := by decide +kernel
theorem dX7_init_133 : decode cX7_init 133 = .ok (.istore_n 1, 1) := by decide +kernel
theorem dX7_init_134 : decode cX7_init 134 = .ok (.iload_n 1, 1) := by decide +kernel
theorem dX7_init_135 : decode cX7_init 135 = .ok (.bipush 20, 2) := by decide +kernel
theorem dX7_init_137 : decode cX7_init 137 = .ok (.if_icmp .ge 23, 3) := by decide +kernel
theorem dX7_init_140 : decode cX7_init 140 = .ok (.aload_n 0, 1) := by decide +kernel
theorem dX7_init_141 : decode cX7_init 141 = .ok (.getfield 17, 3) := by decide +kernel
theorem dX7_init_144 : decode cX7_init 144 = .ok (.iload_n 1, 1) := by decide +kernel
theorem dX7_init_145 : decode cX7_init 145 = .ok (.new 15, 3) := by decide +kernel
theorem dX7_init_148 : decode cX7_init 148 = .ok (.dup, 1) := by decide +kernel
theorem dX7_init_149 : decode cX7_init 149 = .ok (.iload_n 1, 1) := by decide +kernel
theorem dX7_init_150 : decode cX7_init 150 = .ok (.invokespecial 58, 3) := by decide +kernel
theorem dX7_init_153 : decode cX7_init 153 = .ok (.aastore, 1) := by decide +kernel
theorem dX7_init_154 : decode cX7_init 154 = .ok (.iinc 1 1, 3) := by decide +kernel
theorem dX7_init_157 : decode cX7_init 157 = .ok (.goto (-23), 3) := by decide +kernel
theorem dX7_init_160 : decode cX7_init 160 = .ok (.return_, 1) := by decide +kernel
theorem dX7_tick_0 : decode cX7_tick 0 = .ok (.iload_n 1, 1) := by decide +kernel
theorem dX7_tick_1 : decode cX7_tick 1 = .ok (.iconst 1, 1) := by decide +kernel
theorem dX7_tick_2 : decode cX7_tick 2 = .ok (.sipush 1000, 3) := by decide +kernel
theorem dX7_tick_5 : decode cX7_tick 5 = .ok (.invokestatic 59, 3) := by decide +kernel
theorem dX7_tick_8 : decode cX7_tick 8 = .ok (.ifCond .eq 14, 3) := by decide +kernel
theorem dX7_tick_11 : decode cX7_tick 11 = .ok (.iload_n 1, 1) := by decide +kernel
theorem dX7_tick_12 : decode cX7_tick 12 = .ok (.ldc 63, 2) := by decide +kernel
theorem dX7_tick_14 : decode cX7_tick 14 = .ok (.aload_n 0, 1) := by decide +kernel
theorem dX7_tick_15 : decode cX7_tick 15 = .ok (.getfield 45, 3) := by decide +kernel
theorem dX7_tick_18 : decode cX7_tick 18 = .ok (.isub, 1) := by decide +kernel
theorem dX7_tick_19 : decode cX7_tick 19 = .ok (.if_icmp .le 5, 3) := by decide +kernel
theorem dX7_tick_22 : decode cX7_tick 22 = .ok (.iconst (-1), 1) := by decide +kernel
theorem dX7_tick_23 : decode cX7_tick 23 = .ok (.ireturn, 1) := by decide +kernel
theorem dX7_tick_24 : decode cX7_tick 24 = .ok (.aload_n 0, 1) := by decide +kernel
theorem dX7_tick_25 : decode cX7_tick 25 = .ok (.dup, 1) := by decide +kernel
theorem dX7_tick_26 : decode cX7_tick 26 = .ok (.getfield 45, 3) := by decide +kernel
theorem dX7_tick_29 : decode cX7_tick 29 = .ok (.iload_n 1, 1) := by decide +kernel
theorem dX7_tick_30 : decode cX7_tick 30 = .ok (.iadd, 1) := by decide +kernel
theorem dX7_tick_31 : decode cX7_tick 31 = .ok (.putfield 45, 3) := by decide +kernel
theorem dX7_tick_34 : decode cX7_tick 34 = .ok (.aload_n 0, 1) := by decide +kernel
theorem dX7_tick_35 : decode cX7_tick 35 = .ok (.getfield 45, 3) := by decide +kernel
theorem dX7_tick_38 : decode cX7_tick 38 = .ok (.ireturn, 1) := by decide +kernel
theorem dX7_rule_0 : decode cX7_rule 0 = .ok (.aload_n 0, 1) := by decide +kernel
theorem dX7_rule_1 : decode cX7_rule 1 = .ok (.iload_n 1, 1) := by decide +kernel
theorem dX7_rule_2 : decode cX7_rule 2 = .ok (.invokevirtual 64, 3) := by decide +kernel
theorem dX7_rule_5 : decode cX7_rule 5 = .ok (.astore 5, 2) := by decide +kernel
theorem dX7_rule_7 : decode cX7_rule 7 = .ok (.aload 5, 2) := by decide +kernel
theorem dX7_rule_9 : decode cX7_rule 9 = .ok (.ifnull 32, 3) := by decide +kernel
theorem dX7_rule_12 : decode cX7_rule 12 = .ok (.iload_n 2, 1) := by decide +kernel
theorem dX7_rule_13 : decode cX7_rule 13 = .ok (.iconst 0, 1) := by decide +kernel
theorem dX7_rule_14 : decode cX7_rule 14 = .ok (.iconst 2, 1) := by decide +kernel
theorem dX7_rule_15 : decode cX7_rule 15 = .ok (.invokestatic 59, 3) := by decide +kernel
theorem dX7_rule_18 : decode cX7_rule 18 = .ok (.ifCond .eq 23, 3) := by decide +kernel
theorem dX7_rule_21 : decode cX7_rule 21 = .ok (.iload_n 3, 1) := by decide +kernel
theorem dX7_rule_22 : decode cX7_rule 22 = .ok (.iconst 1, 1) := by decide +kernel
theorem dX7_rule_23 : decode cX7_rule 23 = .ok (.bipush 100, 2) := by decide +kernel
theorem dX7_rule_25 : decode cX7_rule 25 = .ok (.invokestatic 59, 3) := by decide +kernel
theorem dX7_rule_28 : decode cX7_rule 28 = .ok (.ifCond .eq 13, 3) := by decide +kernel
theorem dX7_rule_31 : decode cX7_rule 31 = .ok (.iload 4, 2) := by decide +kernel
theorem dX7_rule_33 : decode cX7_rule 33 = .ok (.iconst 0, 1) := by decide +kernel
theorem dX7_rule_34 : decode cX7_rule 34 = .ok (.iconst 2, 1) := by decide +kernel
theorem dX7_rule_35 : decode cX7_rule 35 = .ok (.invokestatic 59, 3) := by decide +kernel
theorem dX7_rule_38 : decode cX7_rule 38 = .ok (.ifCond .ne 5, 3) := by decide +kernel
theorem dX7_rule_41 : decode cX7_rule 41 = .ok (.iconst (-1), 1) := by decide +kernel
theorem dX7_rule_42 : decode cX7_rule 42 = .ok (.ireturn, 1) := by decide +kernel
theorem dX7_rule_43 : decode cX7_rule 43 = .ok (.aload 5, 2) := by decide +kernel
theorem dX7_rule_45 : decode cX7_rule 45 = .ok (.iload_n 2, 1) := by decide +kernel
theorem dX7_rule_46 : decode cX7_rule 46 = .ok (.putfield 68, 3) := by decide +kernel
theorem dX7_rule_49 : decode cX7_rule 49 = .ok (.aload 5, 2) := by decide +kernel
theorem dX7_rule_51 : decode cX7_rule 51 = .ok (.iload_n 3, 1) := by decide +kernel
theorem dX7_rule_52 : decode cX7_rule 52 = .ok (.putfield 71, 3) := by decide +kernel
theorem dX7_rule_55 : decode cX7_rule 55 = .ok (.aload 5, 2) := by decide +kernel
theorem dX7_rule_57 : decode cX7_rule 57 = .ok (.iload 4, 2) := by decide +kernel
theorem dX7_rule_59 : decode cX7_rule 59 = .ok (.putfield 74, 3) := by decide +kernel
theorem dX7_rule_62 : decode cX7_rule 62 = .ok (.iconst 1, 1) := by decide +kernel
theorem dX7_rule_63 : decode cX7_rule 63 = .ok (.ireturn, 1) := by decide +kernel
theorem dX7_ladder_0 : decode cX7_ladder 0 = .ok (.iload_n 1, 1) := by decide +kernel
theorem dX7_ladder_1 : decode cX7_ladder 1 = .ok (.iconst 1, 1) := by decide +kernel
theorem dX7_ladder_2 : decode cX7_ladder 2 = .ok (.sipush 10000, 3) := by decide +kernel
theorem dX7_ladder_5 : decode cX7_ladder 5 = .ok (.invokestatic 59, 3) := by decide +kernel
theorem dX7_ladder_8 : decode cX7_ladder 8 = .ok (.ifCond .eq 14, 3) := by decide +kernel
theorem dX7_ladder_11 : decode cX7_ladder 11 = .ok (.iload_n 2, 1) := by decide +kernel
theorem dX7_ladder_12 : decode cX7_ladder 12 = .ok (.iconst 1, 1) := by decide +kernel
theorem dX7_ladder_13 : decode cX7_ladder 13 = .ok (.sipush 10000, 3) := by decide +kernel
theorem dX7_ladder_16 : decode cX7_ladder 16 = .ok (.invokestatic 59, 3) := by decide +kernel
theorem dX7_ladder_19 : decode cX7_ladder 19 = .ok (.ifCond .ne 5, 3) := by decide +kernel
theorem dX7_ladder_22 : decode cX7_ladder 22 = .ok (.iconst (-1), 1) := by decide +kernel
theorem dX7_ladder_23 : decode cX7_ladder 23 = .ok (.ireturn, 1) := by decide +kernel
theorem dX7_ladder_24 : decode cX7_ladder 24 = .ok (.aload_n 0, 1) := by decide +kernel
theorem dX7_ladder_25 : decode cX7_ladder 25 = .ok (.getfield 41, 3) := by decide +kernel
theorem dX7_ladder_28 : decode cX7_ladder 28 = .ok (.iload_n 1, 1) := by decide +kernel
theorem dX7_ladder_29 : decode cX7_ladder 29 = .ok (.putfield 77, 3) := by decide +kernel
theorem dX7_ladder_32 : decode cX7_ladder 32 = .ok (.aload_n 0, 1) := by decide +kernel
theorem dX7_ladder_33 : decode cX7_ladder 33 = .ok (.getfield 41, 3) := by decide +kernel
theorem dX7_ladder_36 : decode cX7_ladder 36 = .ok (.iload_n 2, 1) := by decide +kernel
theorem dX7_ladder_37 : decode cX7_ladder 37 = .ok (.putfield 80, 3) := by decide +kernel
theorem dX7_ladder_40 : decode cX7_ladder 40 = .ok (.iconst 1, 1) := by decide +kernel
theorem dX7_ladder_41 : decode cX7_ladder 41 = .ok (.ireturn, 1) := by decide +kernel
theorem dX7_due_0 : decode cX7_due 0 = .ok (.iload_n 1, 1) := by decide +kernel
theorem dX7_due_1 : decode cX7_due 1 = .ok (.iconst 0, 1) := by decide +kernel
theorem dX7_due_2 : decode cX7_due 2 = .ok (.iconst 2, 1) := by decide +kernel
theorem dX7_due_3 : decode cX7_due 3 = .ok (.invokestatic 59, 3) := by decide +kernel
theorem dX7_due_6 : decode cX7_due 6 = .ok (.ifCond .eq 14, 3) := by decide +kernel
theorem dX7_due_9 : decode cX7_due 9 = .ok (.iload_n 2, 1) := by decide +kernel
theorem dX7_due_10 : decode cX7_due 10 = .ok (.iconst 1, 1) := by decide +kernel
theorem dX7_due_11 : decode cX7_due 11 = .ok (.sipush 1000, 3) := by decide +kernel
theorem dX7_due_14 : decode cX7_due 14 = .ok (.invokestatic 59, 3) := by decide +kernel
theorem dX7_due_17 : decode cX7_due 17 = .ok (.ifCond .ne 5, 3) := by decide +kernel
theorem dX7_due_20 : decode cX7_due 20 = .ok (.iconst (-1), 1) := by decide +kernel
theorem dX7_due_21 : decode cX7_due 21 = .ok (.ireturn, 1) := by decide +kernel
theorem dX7_due_22 : decode cX7_due 22 = .ok (.aload_n 0, 1) := by decide +kernel
theorem dX7_due_23 : decode cX7_due 23 = .ok (.getfield 34, 3) := by decide +kernel
theorem dX7_due_26 : decode cX7_due 26 = .ok (.iload_n 1, 1) := by decide +kernel
theorem dX7_due_27 : decode cX7_due 27 = .ok (.iaload, 1) := by decide +kernel
theorem dX7_due_28 : decode cX7_due 28 = .ok (.istore_n 3, 1) := by decide +kernel
theorem dX7_due_29 : decode cX7_due 29 = .ok (.aload_n 0, 1) := by decide +kernel
theorem dX7_due_30 : decode cX7_due 30 = .ok (.getfield 34, 3) := by decide +kernel
theorem dX7_due_33 : decode cX7_due 33 = .ok (.iload_n 1, 1) := by decide +kernel
theorem dX7_due_34 : decode cX7_due 34 = .ok (.iload_n 2, 1) := by decide +kernel
theorem dX7_due_35 : decode cX7_due 35 = .ok (.iastore, 1) := by decide +kernel
theorem dX7_due_36 : decode cX7_due 36 = .ok (.iload_n 3, 1) := by decide +kernel
theorem dX7_due_37 : decode cX7_due 37 = .ok (.ireturn, 1) := by decide +kernel
theorem dX7_limit_0 : decode cX7_limit 0 = .ok (.iload_n 1, 1) := by decide +kernel
theorem dX7_limit_1 : decode cX7_limit 1 = .ok (.iconst 0, 1) := by decide +kernel
theorem dX7_limit_2 : decode cX7_limit 2 = .ok (.bipush 100, 2) := by decide +kernel
theorem dX7_limit_4 : decode cX7_limit 4 = .ok (.invokestatic 59, 3) := by decide +kernel
theorem dX7_limit_7 : decode cX7_limit 7 = .ok (.ifCond .ne 5, 3) := by decide +kernel
theorem dX7_limit_10 : decode cX7_limit 10 = .ok (.iconst (-1), 1) := by decide +kernel
theorem dX7_limit_11 : decode cX7_limit 11 = .ok (.ireturn, 1) := by decide +kernel
theorem dX7_limit_12 : decode cX7_limit 12 = .ok (.aload_n 0, 1) := by decide +kernel
theorem dX7_limit_13 : decode cX7_limit 13 = .ok (.getfield 49, 3) := by decide +kernel
theorem dX7_limit_16 : decode cX7_limit 16 = .ok (.istore_n 2, 1) := by decide +kernel
theorem dX7_limit_17 : decode cX7_limit 17 = .ok (.aload_n 0, 1) := by decide +kernel
theorem dX7_limit_18 : decode cX7_limit 18 = .ok (.iload_n 1, 1) := by decide +kernel
theorem dX7_limit_19 : decode cX7_limit 19 = .ok (.putfield 49, 3) := by decide +kernel
theorem dX7_limit_22 : decode cX7_limit 22 = .ok (.iload_n 2, 1) := by decide +kernel
theorem dX7_limit_23 : decode cX7_limit 23 = .ok (.ireturn, 1) := by decide +kernel
theorem dX7_post_0 : decode cX7_post 0 = .ok (.iload_n 1, 1) := by decide +kernel
theorem dX7_post_1 : decode cX7_post 1 = .ok (.iconst 0, 1) := by decide +kernel
end
section
theorem dX7_post_2 : decode cX7_post 2 = .ok (.bipush 39, 2) := by decide +kernel
theorem dX7_post_4 : decode cX7_post 4 = .ok (.invokestatic 59, 3) := by decide +kernel
theorem dX7_post_7 : decode cX7_post 7 = .ok (.ifCond .eq 25, 3) := by decide +kernel
theorem dX7_post_10 : decode cX7_post 10 = .ok (.iload_n 2, 1) := by decide +kernel
theorem dX7_post_11 : decode cX7_post 11 = .ok (.iconst 1, 1) := by decide +kernel
theorem dX7_post_12 : decode cX7_post 12 = .ok (.sipush 1000, 3) := by decide +kernel
theorem dX7_post_15 : decode cX7_post 15 = .ok (.invokestatic 59, 3) := by decide +kernel
theorem dX7_post_18 : decode cX7_post 18 = .ok (.ifCond .eq 14, 3) := by decide +kernel
theorem dX7_post_21 : decode cX7_post 21 = .ok (.iload_n 3, 1) := by decide +kernel
theorem dX7_post_22 : decode cX7_post 22 = .ok (.iconst 0, 1) := by decide +kernel
theorem dX7_post_23 : decode cX7_post 23 = .ok (.sipush 255, 3) := by decide +kernel
theorem dX7_post_26 : decode cX7_post 26 = .ok (.invokestatic 59, 3) := by decide +kernel
theorem dX7_post_29 : decode cX7_post 29 = .ok (.ifCond .ne 5, 3) := by decide +kernel
theorem dX7_post_32 : decode cX7_post 32 = .ok (.iconst (-1), 1) := by decide +kernel
theorem dX7_post_33 : decode cX7_post 33 = .ok (.ireturn, 1) := by decide +kernel
theorem dX7_post_34 : decode cX7_post 34 = .ok (.aload_n 0, 1) := by decide +kernel
theorem dX7_post_35 : decode cX7_post 35 = .ok (.getfield 24, 3) := by decide +kernel
theorem dX7_post_38 : decode cX7_post 38 = .ok (.invokevirtual 83, 3) := by decide +kernel
theorem dX7_post_41 : decode cX7_post 41 = .ok (.istore 4, 2) := by decide +kernel
theorem dX7_post_43 : decode cX7_post 43 = .ok (.iload 4, 2) := by decide +kernel
theorem dX7_post_45 : decode cX7_post 45 = .ok (.sipush 300, 3) := by decide +kernel
theorem dX7_post_48 : decode cX7_post 48 = .ok (.if_icmp .lt 6, 3) := by decide +kernel
theorem dX7_post_51 : decode cX7_post 51 = .ok (.bipush (-2), 2) := by decide +kernel
theorem dX7_post_53 : decode cX7_post 53 = .ok (.ireturn, 1) := by decide +kernel
theorem dX7_post_54 : decode cX7_post 54 = .ok (.aload_n 0, 1) := by decide +kernel
theorem dX7_post_55 : decode cX7_post 55 = .ok (.getfield 24, 3) := by decide +kernel
theorem dX7_post_58 : decode cX7_post 58 = .ok (.new 87, 3) := by decide +kernel
theorem dX7_post_61 : decode cX7_post 61 = .ok (.dup, 1) := by decide +kernel
theorem dX7_post_62 : decode cX7_post 62 = .ok (.iload 4, 2) := by decide +kernel
theorem dX7_post_64 : decode cX7_post 64 = .ok (.iload_n 1, 1) := by decide +kernel
theorem dX7_post_65 : decode cX7_post 65 = .ok (.iload_n 2, 1) := by decide +kernel
theorem dX7_post_66 : decode cX7_post 66 = .ok (.iload_n 3, 1) := by decide +kernel
theorem dX7_post_67 : decode cX7_post 67 = .ok (.aload_n 0, 1) := by decide +kernel
theorem dX7_post_68 : decode cX7_post 68 = .ok (.getfield 45, 3) := by decide +kernel
theorem dX7_post_71 : decode cX7_post 71 = .ok (.invokespecial 89, 3) := by decide +kernel
theorem dX7_post_74 : decode cX7_post 74 = .ok (.invokevirtual 92, 3) := by decide +kernel
theorem dX7_post_77 : decode cX7_post 77 = .ok (.pop, 1) := by decide +kernel
theorem dX7_post_78 : decode cX7_post 78 = .ok (.iload 4, 2) := by decide +kernel
theorem dX7_post_80 : decode cX7_post 80 = .ok (.ireturn, 1) := by decide +kernel
theorem dX7_complain_0 : decode cX7_complain 0 = .ok (.aload_n 0, 1) := by decide +kernel
theorem dX7_complain_1 : decode cX7_complain 1 = .ok (.iload_n 1, 1) := by decide +kernel
theorem dX7_complain_2 : decode cX7_complain 2 = .ok (.invokevirtual 96, 3) := by decide +kernel
theorem dX7_complain_5 : decode cX7_complain 5 = .ok (.astore_n 3, 1) := by decide +kernel
theorem dX7_complain_6 : decode cX7_complain 6 = .ok (.aload_n 0, 1) := by decide +kernel
theorem dX7_complain_7 : decode cX7_complain 7 = .ok (.iload_n 2, 1) := by decide +kernel
theorem dX7_complain_8 : decode cX7_complain 8 = .ok (.invokevirtual 64, 3) := by decide +kernel
theorem dX7_complain_11 : decode cX7_complain 11 = .ok (.astore 4, 2) := by decide +kernel
theorem dX7_complain_13 : decode cX7_complain 13 = .ok (.aload_n 3, 1) := by decide +kernel
theorem dX7_complain_14 : decode cX7_complain 14 = .ok (.ifnull 8, 3) := by decide +kernel
theorem dX7_complain_17 : decode cX7_complain 17 = .ok (.aload 4, 2) := by decide +kernel
theorem dX7_complain_19 : decode cX7_complain 19 = .ok (.ifnonnull 5, 3) := by decide +kernel
theorem dX7_complain_22 : decode cX7_complain 22 = .ok (.iconst (-1), 1) := by decide +kernel
theorem dX7_complain_23 : decode cX7_complain 23 = .ok (.ireturn, 1) := by decide +kernel
theorem dX7_complain_24 : decode cX7_complain 24 = .ok (.aload_n 3, 1) := by decide +kernel
theorem dX7_complain_25 : decode cX7_complain 25 = .ok (.iload_n 2, 1) := by decide +kernel
theorem dX7_complain_26 : decode cX7_complain 26 = .ok (.invokevirtual 100, 3) := by decide +kernel
theorem dX7_complain_29 : decode cX7_complain 29 = .ok (.astore 5, 2) := by decide +kernel
theorem dX7_complain_31 : decode cX7_complain 31 = .ok (.aload 5, 2) := by decide +kernel
theorem dX7_complain_33 : decode cX7_complain 33 = .ok (.ifnull 20, 3) := by decide +kernel
theorem dX7_complain_36 : decode cX7_complain 36 = .ok (.aload 5, 2) := by decide +kernel
theorem dX7_complain_38 : decode cX7_complain 38 = .ok (.dup, 1) := by decide +kernel
theorem dX7_complain_39 : decode cX7_complain 39 = .ok (.getfield 104, 3) := by decide +kernel
theorem dX7_complain_42 : decode cX7_complain 42 = .ok (.iconst 1, 1) := by decide +kernel
theorem dX7_complain_43 : decode cX7_complain 43 = .ok (.iadd, 1) := by decide +kernel
theorem dX7_complain_44 : decode cX7_complain 44 = .ok (.putfield 104, 3) := by decide +kernel
theorem dX7_complain_47 : decode cX7_complain 47 = .ok (.aload 5, 2) := by decide +kernel
theorem dX7_complain_49 : decode cX7_complain 49 = .ok (.getfield 109, 3) := by decide +kernel
theorem dX7_complain_52 : decode cX7_complain 52 = .ok (.ireturn, 1) := by decide +kernel
theorem dX7_complain_53 : decode cX7_complain 53 = .ok (.aload_n 0, 1) := by decide +kernel
theorem dX7_complain_54 : decode cX7_complain 54 = .ok (.getfield 28, 3) := by decide +kernel
theorem dX7_complain_57 : decode cX7_complain 57 = .ok (.invokevirtual 83, 3) := by decide +kernel
theorem dX7_complain_60 : decode cX7_complain 60 = .ok (.istore 6, 2) := by decide +kernel
theorem dX7_complain_62 : decode cX7_complain 62 = .ok (.iload 6, 2) := by decide +kernel
theorem dX7_complain_64 : decode cX7_complain 64 = .ok (.sipush 400, 3) := by decide +kernel
theorem dX7_complain_67 : decode cX7_complain 67 = .ok (.if_icmp .lt 6, 3) := by decide +kernel
theorem dX7_complain_70 : decode cX7_complain 70 = .ok (.bipush (-2), 2) := by decide +kernel
theorem dX7_complain_72 : decode cX7_complain 72 = .ok (.ireturn, 1) := by decide +kernel
theorem dX7_complain_73 : decode cX7_complain 73 = .ok (.new 105, 3) := by decide +kernel
theorem dX7_complain_76 : decode cX7_complain 76 = .ok (.dup, 1) := by decide +kernel
theorem dX7_complain_77 : decode cX7_complain 77 = .ok (.iload 6, 2) := by decide +kernel
theorem dX7_complain_79 : decode cX7_complain 79 = .ok (.aload_n 3, 1) := by decide +kernel
theorem dX7_complain_80 : decode cX7_complain 80 = .ok (.aload 4, 2) := by decide +kernel
theorem dX7_complain_82 : decode cX7_complain 82 = .ok (.aload_n 0, 1) := by decide +kernel
theorem dX7_complain_83 : decode cX7_complain 83 = .ok (.getfield 45, 3) := by decide +kernel
theorem dX7_complain_86 : decode cX7_complain 86 = .ok (.invokespecial 112, 3) := by decide +kernel
theorem dX7_complain_89 : decode cX7_complain 89 = .ok (.astore 7, 2) := by decide +kernel
theorem dX7_complain_91 : decode cX7_complain 91 = .ok (.aload_n 0, 1) := by decide +kernel
theorem dX7_complain_92 : decode cX7_complain 92 = .ok (.getfield 28, 3) := by decide +kernel
theorem dX7_complain_95 : decode cX7_complain 95 = .ok (.aload 7, 2) := by decide +kernel
theorem dX7_complain_97 : decode cX7_complain 97 = .ok (.invokevirtual 92, 3) := by decide +kernel
theorem dX7_complain_100 : decode cX7_complain 100 = .ok (.pop, 1) := by decide +kernel
theorem dX7_complain_101 : decode cX7_complain 101 = .ok (.aload_n 3, 1) := by decide +kernel
theorem dX7_complain_102 : decode cX7_complain 102 = .ok (.aload 7, 2) := by decide +kernel
theorem dX7_complain_104 : decode cX7_complain 104 = .ok (.invokevirtual 115, 3) := by decide +kernel
theorem dX7_complain_107 : decode cX7_complain 107 = .ok (.iload 6, 2) := by decide +kernel
theorem dX7_complain_109 : decode cX7_complain 109 = .ok (.ireturn, 1) := by decide +kernel
theorem dX7_judge_0 : decode cX7_judge 0 = .ok (.aload_n 0, 1) := by decide +kernel
theorem dX7_judge_1 : decode cX7_judge 1 = .ok (.iload_n 1, 1) := by decide +kernel
theorem dX7_judge_2 : decode cX7_judge 2 = .ok (.invokevirtual 119, 3) := by decide +kernel
theorem dX7_judge_5 : decode cX7_judge 5 = .ok (.astore 5, 2) := by decide +kernel
theorem dX7_judge_7 : decode cX7_judge 7 = .ok (.aload 5, 2) := by decide +kernel
theorem dX7_judge_9 : decode cX7_judge 9 = .ok (.ifnull 35, 3) := by decide +kernel
theorem dX7_judge_12 : decode cX7_judge 12 = .ok (.iload_n 2, 1) := by decide +kernel
theorem dX7_judge_13 : decode cX7_judge 13 = .ok (.iconst 0, 1) := by decide +kernel
theorem dX7_judge_14 : decode cX7_judge 14 = .ok (.sipush 255, 3) := by decide +kernel
theorem dX7_judge_17 : decode cX7_judge 17 = .ok (.invokestatic 59, 3) := by decide +kernel
theorem dX7_judge_20 : decode cX7_judge 20 = .ok (.ifCond .eq 24, 3) := by decide +kernel
theorem dX7_judge_23 : decode cX7_judge 23 = .ok (.iload_n 3, 1) := by decide +kernel
theorem dX7_judge_24 : decode cX7_judge 24 = .ok (.iconst 0, 1) := by decide +kernel
theorem dX7_judge_25 : decode cX7_judge 25 = .ok (.bipush 20, 2) := by decide +kernel
theorem dX7_judge_27 : decode cX7_judge 27 = .ok (.invokestatic 59, 3) := by decide +kernel
theorem dX7_judge_30 : decode cX7_judge 30 = .ok (.ifCond .eq 14, 3) := by decide +kernel
theorem dX7_judge_33 : decode cX7_judge 33 = .ok (.iload 4, 2) := by decide +kernel
theorem dX7_judge_35 : decode cX7_judge 35 = .ok (.iconst 1, 1) := by decide +kernel
theorem dX7_judge_36 : decode cX7_judge 36 = .ok (.bipush 10, 2) := by decide +kernel
theorem dX7_judge_38 : decode cX7_judge 38 = .ok (.invokestatic 59, 3) := by decide +kernel
theorem dX7_judge_41 : decode cX7_judge 41 = .ok (.ifCond .ne 5, 3) := by decide +kernel
theorem dX7_judge_44 : decode cX7_judge 44 = .ok (.iconst (-1), 1) := by decide +kernel
theorem dX7_judge_45 : decode cX7_judge 45 = .ok (.ireturn, 1) := by decide +kernel
theorem dX7_judge_46 : decode cX7_judge 46 = .ok (.aload 5, 2) := by decide +kernel
theorem dX7_judge_48 : decode cX7_judge 48 = .ok (.iload_n 2, 1) := by decide +kernel
theorem dX7_judge_49 : decode cX7_judge 49 = .ok (.putfield 123, 3) := by decide +kernel
theorem dX7_judge_52 : decode cX7_judge 52 = .ok (.aload 5, 2) := by decide +kernel
theorem dX7_judge_54 : decode cX7_judge 54 = .ok (.iload_n 3, 1) := by decide +kernel
theorem dX7_judge_55 : decode cX7_judge 55 = .ok (.putfield 126, 3) := by decide +kernel
theorem dX7_judge_58 : decode cX7_judge 58 = .ok (.aload 5, 2) := by decide +kernel
theorem dX7_judge_60 : decode cX7_judge 60 = .ok (.iload 4, 2) := by decide +kernel
theorem dX7_judge_62 : decode cX7_judge 62 = .ok (.putfield 129, 3) := by decide +kernel
theorem dX7_judge_65 : decode cX7_judge 65 = .ok (.iconst 1, 1) := by decide +kernel
theorem dX7_judge_66 : decode cX7_judge 66 = .ok (.ireturn, 1) := by decide +kernel
theorem dX7_kin_0 : decode cX7_kin 0 = .ok (.aload_n 0, 1) := by decide +kernel
theorem dX7_kin_1 : decode cX7_kin 1 = .ok (.iload_n 1, 1) := by decide +kernel
theorem dX7_kin_2 : decode cX7_kin 2 = .ok (.invokevirtual 119, 3) := by decide +kernel
theorem dX7_kin_5 : decode cX7_kin 5 = .ok (.astore 4, 2) := by decide +kernel
theorem dX7_kin_7 : decode cX7_kin 7 = .ok (.aload 4, 2) := by decide +kernel
theorem dX7_kin_9 : decode cX7_kin 9 = .ok (.ifnull 22, 3) := by decide +kernel
theorem dX7_kin_12 : decode cX7_kin 12 = .ok (.iload_n 2, 1) := by decide +kernel
theorem dX7_kin_13 : decode cX7_kin 13 = .ok (.iconst 0, 1) := by decide +kernel
theorem dX7_kin_14 : decode cX7_kin 14 = .ok (.bipush 39, 2) := by decide +kernel
theorem dX7_kin_16 : decode cX7_kin 16 = .ok (.invokestatic 59, 3) := by decide +kernel
theorem dX7_kin_19 : decode cX7_kin 19 = .ok (.ifCond .eq 12, 3) := by decide +kernel
theorem dX7_kin_22 : decode cX7_kin 22 = .ok (.iload_n 3, 1) := by decide +kernel
theorem dX7_kin_23 : decode cX7_kin 23 = .ok (.iconst 0, 1) := by decide +kernel
theorem dX7_kin_24 : decode cX7_kin 24 = .ok (.iconst 1, 1) := by decide +kernel
theorem dX7_kin_25 : decode cX7_kin 25 = .ok (.invokestatic 59, 3) := by decide +kernel
theorem dX7_kin_28 : decode cX7_kin 28 = .ok (.ifCond .ne 5, 3) := by decide +kernel
theorem dX7_kin_31 : decode cX7_kin 31 = .ok (.iconst (-1), 1) := by decide +kernel
theorem dX7_kin_32 : decode cX7_kin 32 = .ok (.ireturn, 1) := by decide +kernel
theorem dX7_kin_33 : decode cX7_kin 33 = .ok (.aload 4, 2) := by decide +kernel
theorem dX7_kin_35 : decode cX7_kin 35 = .ok (.iload_n 2, 1) := by decide +kernel
theorem dX7_kin_36 : decode cX7_kin 36 = .ok (.invokevirtual 132, 3) := by decide +kernel
theorem dX7_kin_39 : decode cX7_kin 39 = .ok (.invokestatic 136, 3) := by decide +kernel
theorem dX7_kin_42 : decode cX7_kin 42 = .ok (.istore 5, 2) := by decide +kernel
theorem dX7_kin_44 : decode cX7_kin 44 = .ok (.aload 4, 2) := by decide +kernel
theorem dX7_kin_46 : decode cX7_kin 46 = .ok (.iload_n 2, 1) := by decide +kernel
theorem dX7_kin_47 : decode cX7_kin 47 = .ok (.iload_n 3, 1) := by decide +kernel
theorem dX7_kin_48 : decode cX7_kin 48 = .ok (.iconst 1, 1) := by decide +kernel
theorem dX7_kin_49 : decode cX7_kin 49 = .ok (.if_icmp .ne 7, 3) := by decide +kernel
theorem dX7_kin_52 : decode cX7_kin 52 = .ok (.iconst 1, 1) := by decide +kernel
theorem dX7_kin_53 : decode cX7_kin 53 = .ok (.goto 4, 3) := by decide +kernel
theorem dX7_kin_56 : decode cX7_kin 56 = .ok (.iconst 0, 1) := by decide +kernel
theorem dX7_kin_57 : decode cX7_kin 57 = .ok (.invokevirtual 140, 3) := by decide +kernel
theorem dX7_kin_60 : decode cX7_kin 60 = .ok (.iload 5, 2) := by decide +kernel
theorem dX7_kin_62 : decode cX7_kin 62 = .ok (.ireturn, 1) := by decide +kernel
theorem dX7_rest_0 : decode cX7_rest 0 = .ok (.aload_n 0, 1) := by decide +kernel
theorem dX7_rest_1 : decode cX7_rest 1 = .ok (.iload_n 1, 1) := by decide +kernel
theorem dX7_rest_2 : decode cX7_rest 2 = .ok (.invokevirtual 119, 3) := by decide +kernel
theorem dX7_rest_5 : decode cX7_rest 5 = .ok (.astore_n 3, 1) := by decide +kernel
theorem dX7_rest_6 : decode cX7_rest 6 = .ok (.aload_n 3, 1) := by decide +kernel
theorem dX7_rest_7 : decode cX7_rest 7 = .ok (.ifnull 12, 3) := by decide +kernel
theorem dX7_rest_10 : decode cX7_rest 10 = .ok (.iload_n 2, 1) := by decide +kernel
theorem dX7_rest_11 : decode cX7_rest 11 = .ok (.iconst 0, 1) := by decide +kernel
theorem dX7_rest_12 : decode cX7_rest 12 = .ok (.iconst 1, 1) := by decide +kernel
theorem dX7_rest_13 : decode cX7_rest 13 = .ok (.invokestatic 59, 3) := by decide +kernel
theorem dX7_rest_16 : decode cX7_rest 16 = .ok (.ifCond .ne 5, 3) := by decide +kernel
theorem dX7_rest_19 : decode cX7_rest 19 = .ok (.iconst (-1), 1) := by decide +kernel
theorem dX7_rest_20 : decode cX7_rest 20 = .ok (.ireturn, 1) := by decide +kernel
theorem dX7_rest_21 : decode cX7_rest 21 = .ok (.aload_n 3, 1) := by decide +kernel
theorem dX7_rest_22 : decode cX7_rest 22 = .ok (.getfield 144, 3) := by decide +kernel
theorem dX7_rest_25 : decode cX7_rest 25 = .ok (.invokestatic 136, 3) := by decide +kernel
theorem dX7_rest_28 : decode cX7_rest 28 = .ok (.istore 4, 2) := by decide +kernel
theorem dX7_rest_30 : decode cX7_rest 30 = .ok (.iload_n 2, 1) := by decide +kernel
theorem dX7_rest_31 : decode cX7_rest 31 = .ok (.iconst 1, 1) := by decide +kernel
theorem dX7_rest_32 : decode cX7_rest 32 = .ok (.if_icmp .ne 11, 3) := by decide +kernel
theorem dX7_rest_35 : decode cX7_rest 35 = .ok (.aload_n 0, 1) := by decide +kernel
theorem dX7_rest_36 : decode cX7_rest 36 = .ok (.aload_n 3, 1) := by decide +kernel
theorem dX7_rest_37 : decode cX7_rest 37 = .ok (.invokevirtual 148, 3) := by decide +kernel
theorem dX7_rest_40 : decode cX7_rest 40 = .ok (.goto 8, 3) := by decide +kernel
theorem dX7_rest_43 : decode cX7_rest 43 = .ok (.aload_n 3, 1) := by decide +kernel
theorem dX7_rest_44 : decode cX7_rest 44 = .ok (.iconst 0, 1) := by decide +kernel
theorem dX7_rest_45 : decode cX7_rest 45 = .ok (.putfield 144, 3) := by decide +kernel
theorem dX7_rest_48 : decode cX7_rest 48 = .ok (.iload 4, 2) := by decide +kernel
theorem dX7_rest_50 : decode cX7_rest 50 = .ok (.ireturn, 1) := by decide +kernel
theorem dX7_next_0 : decode cX7_next 0 = .ok (.aload_n 0, 1) := by decide +kernel
theorem dX7_next_1 : decode cX7_next 1 = .ok (.iload_n 1, 1) := by decide +kernel
theorem dX7_next_2 : decode cX7_next 2 = .ok (.invokevirtual 119, 3) := by decide +kernel
theorem dX7_next_5 : decode cX7_next 5 = .ok (.astore_n 2, 1) := by decide +kernel
theorem dX7_next_6 : decode cX7_next 6 = .ok (.aload_n 2, 1) := by decide +kernel
theorem dX7_next_7 : decode cX7_next 7 = .ok (.ifnonnull 5, 3) := by decide +kernel
theorem dX7_next_10 : decode cX7_next 10 = .ok (.iconst (-1), 1) := by decide +kernel
theorem dX7_next_11 : decode cX7_next 11 = .ok (.ireturn, 1) := by decide +kernel
theorem dX7_next_12 : decode cX7_next 12 = .ok (.aload_n 0, 1) := by decide +kernel
theorem dX7_next_13 : decode cX7_next 13 = .ok (.aload_n 2, 1) := by decide +kernel
theorem dX7_next_14 : decode cX7_next 14 = .ok (.invokevirtual 152, 3) := by decide +kernel
theorem dX7_next_17 : decode cX7_next 17 = .ok (.astore_n 3, 1) := by decide +kernel
theorem dX7_next_18 : decode cX7_next 18 = .ok (.aload_n 3, 1) := by decide +kernel
theorem dX7_next_19 : decode cX7_next 19 = .ok (.ifnonnull 8, 3) := by decide +kernel
theorem dX7_next_22 : decode cX7_next 22 = .ok (.bipush (-4), 2) := by decide +kernel
theorem dX7_next_24 : decode cX7_next 24 = .ok (.goto 7, 3) := by decide +kernel
theorem dX7_next_27 : decode cX7_next 27 = .ok (.aload_n 3, 1) := by decide +kernel
theorem dX7_next_28 : decode cX7_next 28 = .ok (.getfield 109, 3) := by decide +kernel
theorem dX7_next_31 : decode cX7_next 31 = .ok (.ireturn, 1) := by decide +kernel
theorem dX7_give_0 : decode cX7_give 0 = .ok (.aload_n 0, 1) := by decide +kernel
theorem dX7_give_1 : decode cX7_give 1 = .ok (.iload_n 1, 1) := by decide +kernel
theorem dX7_give_2 : decode cX7_give 2 = .ok (.invokevirtual 119, 3) := by decide +kernel
theorem dX7_give_5 : decode cX7_give 5 = .ok (.astore_n 2, 1) := by decide +kernel
theorem dX7_give_6 : decode cX7_give 6 = .ok (.aload_n 2, 1) := by decide +kernel
theorem dX7_give_7 : decode cX7_give 7 = .ok (.ifnonnull 5, 3) := by decide +kernel
theorem dX7_give_10 : decode cX7_give 10 = .ok (.iconst (-1), 1) := by decide +kernel
theorem dX7_give_11 : decode cX7_give 11 = .ok (.ireturn, 1) := by decide +kernel
theorem dX7_give_12 : decode cX7_give 12 = .ok (.aload_n 0, 1) := by decide +kernel
theorem dX7_give_13 : decode cX7_give 13 = .ok (.aload_n 2, 1) := by decide +kernel
theorem dX7_give_14 : decode cX7_give 14 = .ok (.invokevirtual 152, 3) := by decide +kernel
theorem dX7_give_17 : decode cX7_give 17 = .ok (.astore_n 3, 1) := by decide +kernel
theorem dX7_give_18 : decode cX7_give 18 = .ok (.aload_n 3, 1) := by decide +kernel
theorem dX7_give_19 : decode cX7_give 19 = .ok (.ifnonnull 6, 3) := by decide +kernel
theorem dX7_give_22 : decode cX7_give 22 = .ok (.bipush (-4), 2) := by decide +kernel
theorem dX7_give_24 : decode cX7_give 24 = .ok (.ireturn, 1) := by decide +kernel
theorem dX7_give_25 : decode cX7_give 25 = .ok (.aload_n 0, 1) := by decide +kernel
theorem dX7_give_26 : decode cX7_give 26 = .ok (.getfield 31, 3) := by decide +kernel
theorem dX7_give_29 : decode cX7_give 29 = .ok (.new 156, 3) := by decide +kernel
theorem dX7_give_32 : decode cX7_give 32 = .ok (.dup, 1) := by decide +kernel
theorem dX7_give_33 : decode cX7_give 33 = .ok (.aload_n 2, 1) := by decide +kernel
theorem dX7_give_34 : decode cX7_give 34 = .ok (.aload_n 3, 1) := by decide +kernel
theorem dX7_give_35 : decode cX7_give 35 = .ok (.invokespecial 158, 3) := by decide +kernel
theorem dX7_give_38 : decode cX7_give 38 = .ok (.invokevirtual 92, 3) := by decide +kernel
theorem dX7_give_41 : decode cX7_give 41 = .ok (.pop, 1) := by decide +kernel
theorem dX7_give_42 : decode cX7_give 42 = .ok (.aload_n 2, 1) := by decide +kernel
theorem dX7_give_43 : decode cX7_give 43 = .ok (.dup, 1) := by decide +kernel
theorem dX7_give_44 : decode cX7_give 44 = .ok (.getfield 161, 3) := by decide +kernel
theorem dX7_give_47 : decode cX7_give 47 = .ok (.iconst 1, 1) := by decide +kernel
theorem dX7_give_48 : decode cX7_give 48 = .ok (.iadd, 1) := by decide +kernel
theorem dX7_give_49 : decode cX7_give 49 = .ok (.putfield 161, 3) := by decide +kernel
theorem dX7_give_52 : decode cX7_give 52 = .ok (.aload_n 3, 1) := by decide +kernel
theorem dX7_give_53 : decode cX7_give 53 = .ok (.dup, 1) := by decide +kernel
theorem dX7_give_54 : decode cX7_give 54 = .ok (.getfield 163, 3) := by decide +kernel
theorem dX7_give_57 : decode cX7_give 57 = .ok (.aload_n 2, 1) := by decide +kernel
theorem dX7_give_58 : decode cX7_give 58 = .ok (.getfield 166, 3) := by decide +kernel
theorem dX7_give_61 : decode cX7_give 61 = .ok (.ior, 1) := by decide +kernel
theorem dX7_give_62 : decode cX7_give 62 = .ok (.putfield 163, 3) := by decide +kernel
theorem dX7_give_65 : decode cX7_give 65 = .ok (.aload_n 3, 1) := by decide +kernel
theorem dX7_give_66 : decode cX7_give 66 = .ok (.getfield 109, 3) := by decide +kernel
theorem dX7_give_69 : decode cX7_give 69 = .ok (.ireturn, 1) := by decide +kernel
theorem dX7_undo_0 : decode cX7_undo 0 = .ok (.aload_n 0, 1) := by decide +kernel
theorem dX7_undo_1 : decode cX7_undo 1 = .ok (.getfield 31, 3) := by decide +kernel
theorem dX7_undo_4 : decode cX7_undo 4 = .ok (.invokevirtual 83, 3) := by decide +kernel
theorem dX7_undo_7 : decode cX7_undo 7 = .ok (.iconst 1, 1) := by decide +kernel
theorem dX7_undo_8 : decode cX7_undo 8 = .ok (.isub, 1) := by decide +kernel
theorem dX7_undo_9 : decode cX7_undo 9 = .ok (.istore_n 1, 1) := by decide +kernel
theorem dX7_undo_10 : decode cX7_undo 10 = .ok (.iload_n 1, 1) := by decide +kernel
theorem dX7_undo_11 : decode cX7_undo 11 = .ok (.ifCond .ge 6, 3) := by decide +kernel
theorem dX7_undo_14 : decode cX7_undo 14 = .ok (.bipush (-4), 2) := by decide +kernel
theorem dX7_undo_16 : decode cX7_undo 16 = .ok (.ireturn, 1) := by decide +kernel
theorem dX7_undo_17 : decode cX7_undo 17 = .ok (.aload_n 0, 1) := by decide +kernel
theorem dX7_undo_18 : decode cX7_undo 18 = .ok (.getfield 31, 3) := by decide +kernel
theorem dX7_undo_21 : decode cX7_undo 21 = .ok (.iload_n 1, 1) := by decide +kernel
theorem dX7_undo_22 : decode cX7_undo 22 = .ok (.invokevirtual 169, 3) := by decide +kernel
theorem dX7_undo_25 : decode cX7_undo 25 = .ok (.checkcast 156, 3) := by decide +kernel
theorem dX7_undo_28 : decode cX7_undo 28 = .ok (.getfield 173, 3) := by decide +kernel
theorem dX7_undo_31 : decode cX7_undo 31 = .ok (.getfield 109, 3) := by decide +kernel
theorem dX7_undo_34 : decode cX7_undo 34 = .ok (.istore_n 2, 1) := by decide +kernel
theorem dX7_undo_35 : decode cX7_undo 35 = .ok (.aload_n 0, 1) := by decide +kernel
theorem dX7_undo_36 : decode cX7_undo 36 = .ok (.iload_n 1, 1) := by decide +kernel
theorem dX7_undo_37 : decode cX7_undo 37 = .ok (.invokevirtual 177, 3) := by decide +kernel
theorem dX7_undo_40 : decode cX7_undo 40 = .ok (.iload_n 2, 1) := by decide +kernel
theorem dX7_undo_41 : decode cX7_undo 41 = .ok (.ireturn, 1) := by decide +kernel
theorem dX7_vote_0 : decode cX7_vote 0 = .ok (.aload_n 0, 1) := by decide +kernel
theorem dX7_vote_1 : decode cX7_vote 1 = .ok (.iload_n 1, 1) := by decide +kernel
theorem dX7_vote_2 : decode cX7_vote 2 = .ok (.invokevirtual 119, 3) := by decide +kernel
theorem dX7_vote_5 : decode cX7_vote 5 = .ok (.astore 4, 2) := by decide +kernel
theorem dX7_vote_7 : decode cX7_vote 7 = .ok (.aload_n 0, 1) := by decide +kernel
theorem dX7_vote_8 : decode cX7_vote 8 = .ok (.iload_n 2, 1) := by decide +kernel
theorem dX7_vote_9 : decode cX7_vote 9 = .ok (.invokevirtual 180, 3) := by decide +kernel
theorem dX7_vote_12 : decode cX7_vote 12 = .ok (.astore 5, 2) := by decide +kernel
theorem dX7_vote_14 : decode cX7_vote 14 = .ok (.aload 4, 2) := by decide +kernel
theorem dX7_vote_16 : decode cX7_vote 16 = .ok (.ifnull 17, 3) := by decide +kernel
theorem dX7_vote_19 : decode cX7_vote 19 = .ok (.aload 5, 2) := by decide +kernel
theorem dX7_vote_21 : decode cX7_vote 21 = .ok (.ifnull 12, 3) := by decide +kernel
theorem dX7_vote_24 : decode cX7_vote 24 = .ok (.iload_n 3, 1) := by decide +kernel
theorem dX7_vote_25 : decode cX7_vote 25 = .ok (.iconst 0, 1) := by decide +kernel
theorem dX7_vote_26 : decode cX7_vote 26 = .ok (.iconst 1, 1) := by decide +kernel
theorem dX7_vote_27 : decode cX7_vote 27 = .ok (.invokestatic 59, 3) := by decide +kernel
theorem dX7_vote_30 : decode cX7_vote 30 = .ok (.ifCond .ne 5, 3) := by decide +kernel
theorem dX7_vote_33 : decode cX7_vote 33 = .ok (.iconst (-1), 1) := by decide +kernel
theorem dX7_vote_34 : decode cX7_vote 34 = .ok (.ireturn, 1) := by decide +kernel
theorem dX7_vote_35 : decode cX7_vote 35 = .ok (.aload_n 0, 1) := by decide +kernel
theorem dX7_vote_36 : decode cX7_vote 36 = .ok (.aload 4, 2) := by decide +kernel
theorem dX7_vote_38 : decode cX7_vote 38 = .ok (.aload 5, 2) := by decide +kernel
theorem dX7_vote_40 : decode cX7_vote 40 = .ok (.invokevirtual 183, 3) := by decide +kernel
theorem dX7_vote_43 : decode cX7_vote 43 = .ok (.istore 6, 2) := by decide +kernel
theorem dX7_vote_45 : decode cX7_vote 45 = .ok (.iload 6, 2) := by decide +kernel
theorem dX7_vote_47 : decode cX7_vote 47 = .ok (.ifCond .ge 6, 3) := by decide +kernel
theorem dX7_vote_50 : decode cX7_vote 50 = .ok (.bipush (-4), 2) := by decide +kernel
theorem dX7_vote_52 : decode cX7_vote 52 = .ok (.ireturn, 1) := by decide +kernel
theorem dX7_vote_53 : decode cX7_vote 53 = .ok (.aload_n 0, 1) := by decide +kernel
theorem dX7_vote_54 : decode cX7_vote 54 = .ok (.iload 6, 2) := by decide +kernel
theorem dX7_vote_56 : decode cX7_vote 56 = .ok (.invokevirtual 177, 3) := by decide +kernel
theorem dX7_vote_59 : decode cX7_vote 59 = .ok (.aload 4, 2) := by decide +kernel
theorem dX7_vote_61 : decode cX7_vote 61 = .ok (.dup, 1) := by decide +kernel
theorem dX7_vote_62 : decode cX7_vote 62 = .ok (.getfield 187, 3) := by decide +kernel
theorem dX7_vote_65 : decode cX7_vote 65 = .ok (.iconst 1, 1) := by decide +kernel
theorem dX7_vote_66 : decode cX7_vote 66 = .ok (.iadd, 1) := by decide +kernel
theorem dX7_vote_67 : decode cX7_vote 67 = .ok (.putfield 187, 3) := by decide +kernel
theorem dX7_vote_70 : decode cX7_vote 70 = .ok (.aload 5, 2) := by decide +kernel
theorem dX7_vote_72 : decode cX7_vote 72 = .ok (.invokevirtual 190, 3) := by decide +kernel
theorem dX7_vote_75 : decode cX7_vote 75 = .ok (.aload 4, 2) := by decide +kernel
theorem dX7_vote_77 : decode cX7_vote 77 = .ok (.iload_n 3, 1) := by decide +kernel
theorem dX7_vote_78 : decode cX7_vote 78 = .ok (.iconst 1, 1) := by decide +kernel
theorem dX7_vote_79 : decode cX7_vote 79 = .ok (.if_icmp .ne 7, 3) := by decide +kernel
theorem dX7_vote_82 : decode cX7_vote 82 = .ok (.iconst 1, 1) := by decide +kernel
theorem dX7_vote_83 : decode cX7_vote 83 = .ok (.goto 4, 3) := by decide +kernel
theorem dX7_vote_86 : decode cX7_vote 86 = .ok (.iconst 0, 1) := by decide +kernel
theorem dX7_vote_87 : decode cX7_vote 87 = .ok (.invokevirtual 194, 3) := by decide +kernel
theorem dX7_vote_90 : decode cX7_vote 90 = .ok (.aload_n 0, 1) := by decide +kernel
theorem dX7_vote_91 : decode cX7_vote 91 = .ok (.aload 5, 2) := by decide +kernel
theorem dX7_vote_93 : decode cX7_vote 93 = .ok (.invokevirtual 200, 3) := by decide +kernel
theorem dX7_vote_96 : decode cX7_vote 96 = .ok (.aload 5, 2) := by decide +kernel
theorem dX7_vote_98 : decode cX7_vote 98 = .ok (.getfield 203, 3) := by decide +kernel
theorem dX7_vote_101 : decode cX7_vote 101 = .ok (.ireturn, 1) := by decide +kernel
theorem dX7_may_0 : decode cX7_may 0 = .ok (.aload_n 0, 1) := by decide +kernel
theorem dX7_may_1 : decode cX7_may 1 = .ok (.iload_n 1, 1) := by decide +kernel
theorem dX7_may_2 : decode cX7_may 2 = .ok (.invokevirtual 119, 3) := by decide +kernel
theorem dX7_may_5 : decode cX7_may 5 = .ok (.astore_n 3, 1) := by decide +kernel
theorem dX7_may_6 : decode cX7_may 6 = .ok (.aload_n 0, 1) := by decide +kernel
theorem dX7_may_7 : decode cX7_may 7 = .ok (.iload_n 2, 1) := by decide +kernel
theorem dX7_may_8 : decode cX7_may 8 = .ok (.invokevirtual 180, 3) := by decide +kernel
theorem dX7_may_11 : decode cX7_may 11 = .ok (.astore 4, 2) := by decide +kernel
theorem dX7_may_13 : decode cX7_may 13 = .ok (.aload_n 3, 1) := by decide +kernel
theorem dX7_may_14 : decode cX7_may 14 = .ok (.ifnull 8, 3) := by decide +kernel
theorem dX7_may_17 : decode cX7_may 17 = .ok (.aload 4, 2) := by decide +kernel
theorem dX7_may_19 : decode cX7_may 19 = .ok (.ifnonnull 5, 3) := by decide +kernel
theorem dX7_may_22 : decode cX7_may 22 = .ok (.iconst (-1), 1) := by decide +kernel
theorem dX7_may_23 : decode cX7_may 23 = .ok (.ireturn, 1) := by decide +kernel
theorem dX7_may_24 : decode cX7_may 24 = .ok (.aload_n 3, 1) := by decide +kernel
theorem dX7_may_25 : decode cX7_may 25 = .ok (.aload 4, 2) := by decide +kernel
theorem dX7_may_27 : decode cX7_may 27 = .ok (.invokestatic 206, 3) := by decide +kernel
theorem dX7_may_30 : decode cX7_may 30 = .ok (.invokestatic 136, 3) := by decide +kernel
theorem dX7_may_33 : decode cX7_may 33 = .ok (.ireturn, 1) := by decide +kernel
theorem dX7_told_0 : decode cX7_told 0 = .ok (.aload_n 0, 1) := by decide +kernel
theorem dX7_told_1 : decode cX7_told 1 = .ok (.iload_n 1, 1) := by decide +kernel
theorem dX7_told_2 : decode cX7_told 2 = .ok (.invokevirtual 119, 3) := by decide +kernel
theorem dX7_told_5 : decode cX7_told 5 = .ok (.astore_n 3, 1) := by decide +kernel
theorem dX7_told_6 : decode cX7_told 6 = .ok (.aload_n 3, 1) := by decide +kernel
theorem dX7_told_7 : decode cX7_told 7 = .ok (.ifnonnull 5, 3) := by decide +kernel
theorem dX7_told_10 : decode cX7_told 10 = .ok (.iconst (-1), 1) := by decide +kernel
theorem dX7_told_11 : decode cX7_told 11 = .ok (.ireturn, 1) := by decide +kernel
theorem dX7_told_12 : decode cX7_told 12 = .ok (.iload_n 2, 1) := by decide +kernel
theorem dX7_told_13 : decode cX7_told 13 = .ok (.tableswitch 92 0 7 #[47, 52, 57, 62, 67, 75, 80, 86], 47) := by decide +kernel
theorem dX7_told_60 : decode cX7_told 60 = .ok (.aload_n 3, 1) := by decide +kernel
theorem dX7_told_61 : decode cX7_told 61 = .ok (.getfield 123, 3) := by decide +kernel
theorem dX7_told_64 : decode cX7_told 64 = .ok (.ireturn, 1) := by decide +kernel
theorem dX7_told_65 : decode cX7_told 65 = .ok (.aload_n 3, 1) := by decide +kernel
theorem dX7_told_66 : decode cX7_told 66 = .ok (.getfield 126, 3) := by decide +kernel
theorem dX7_told_69 : decode cX7_told 69 = .ok (.ireturn, 1) := by decide +kernel
theorem dX7_told_70 : decode cX7_told 70 = .ok (.aload_n 3, 1) := by decide +kernel
theorem dX7_told_71 : decode cX7_told 71 = .ok (.getfield 129, 3) := by decide +kernel
theorem dX7_told_74 : decode cX7_told 74 = .ok (.ireturn, 1) := by decide +kernel
theorem dX7_told_75 : decode cX7_told 75 = .ok (.aload_n 3, 1) := by decide +kernel
theorem dX7_told_76 : decode cX7_told 76 = .ok (.getfield 161, 3) := by decide +kernel
theorem dX7_told_79 : decode cX7_told 79 = .ok (.ireturn, 1) := by decide +kernel
theorem dX7_told_80 : decode cX7_told 80 = .ok (.aload_n 3, 1) := by decide +kernel
theorem dX7_told_81 : decode cX7_told 81 = .ok (.getfield 144, 3) := by decide +kernel
theorem dX7_told_84 : decode cX7_told 84 = .ok (.invokestatic 136, 3) := by decide +kernel
theorem dX7_told_87 : decode cX7_told 87 = .ok (.ireturn, 1) := by decide +kernel
theorem dX7_told_88 : decode cX7_told 88 = .ok (.aload_n 3, 1) := by decide +kernel
theorem dX7_told_89 : decode cX7_told 89 = .ok (.getfield 187, 3) := by decide +kernel
theorem dX7_told_92 : decode cX7_told 92 = .ok (.ireturn, 1) := by decide +kernel
theorem dX7_told_93 : decode cX7_told 93 = .ok (.aload_n 0, 1) := by decide +kernel
theorem dX7_told_94 : decode cX7_told 94 = .ok (.aload_n 3, 1) := by decide +kernel
theorem dX7_told_95 : decode cX7_told 95 = .ok (.invokevirtual 210, 3) := by decide +kernel
theorem dX7_told_98 : decode cX7_told 98 = .ok (.ireturn, 1) := by decide +kernel
theorem dX7_told_99 : decode cX7_told 99 = .ok (.aload_n 0, 1) := by decide +kernel
theorem dX7_told_100 : decode cX7_told 100 = .ok (.aload_n 3, 1) := by decide +kernel
theorem dX7_told_101 : decode cX7_told 101 = .ok (.invokevirtual 214, 3) := by decide +kernel
theorem dX7_told_104 : decode cX7_told 104 = .ok (.ireturn, 1) := by decide +kernel
theorem dX7_told_105 : decode cX7_told 105 = .ok (.iconst (-1), 1) := by decide +kernel
theorem dX7_told_106 : decode cX7_told 106 = .ok (.ireturn, 1) := by decide +kernel
theorem dX7_about_0 : decode cX7_about 0 = .ok (.aload_n 0, 1) := by decide +kernel
theorem dX7_about_1 : decode cX7_about 1 = .ok (.iload_n 1, 1) := by decide +kernel
theorem dX7_about_2 : decode cX7_about 2 = .ok (.invokevirtual 180, 3) := by decide +kernel
theorem dX7_about_5 : decode cX7_about 5 = .ok (.astore_n 3, 1) := by decide +kernel
theorem dX7_about_6 : decode cX7_about 6 = .ok (.aload_n 3, 1) := by decide +kernel
theorem dX7_about_7 : decode cX7_about 7 = .ok (.ifnonnull 5, 3) := by decide +kernel
theorem dX7_about_10 : decode cX7_about 10 = .ok (.iconst (-1), 1) := by decide +kernel
theorem dX7_about_11 : decode cX7_about 11 = .ok (.ireturn, 1) := by decide +kernel
theorem dX7_about_12 : decode cX7_about 12 = .ok (.iload_n 2, 1) := by decide +kernel
theorem dX7_about_13 : decode cX7_about 13 = .ok (.tableswitch 108 0 7 #[47, 55, 63, 68, 73, 92, 97, 103], 47) := by decide +kernel
theorem dX7_about_60 : decode cX7_about 60 = .ok (.aload_n 3, 1) := by decide +kernel
theorem dX7_about_61 : decode cX7_about 61 = .ok (.getfield 217, 3) := by decide +kernel
theorem dX7_about_64 : decode cX7_about 64 = .ok (.getfield 221, 3) := by decide +kernel
theorem dX7_about_67 : decode cX7_about 67 = .ok (.ireturn, 1) := by decide +kernel
theorem dX7_about_68 : decode cX7_about 68 = .ok (.aload_n 3, 1) := by decide +kernel
theorem dX7_about_69 : decode cX7_about 69 = .ok (.getfield 222, 3) := by decide +kernel
theorem dX7_about_72 : decode cX7_about 72 = .ok (.getfield 226, 3) := by decide +kernel
theorem dX7_about_75 : decode cX7_about 75 = .ok (.ireturn, 1) := by decide +kernel
theorem dX7_about_76 : decode cX7_about 76 = .ok (.aload_n 3, 1) := by decide +kernel
theorem dX7_about_77 : decode cX7_about 77 = .ok (.getfield 203, 3) := by decide +kernel
theorem dX7_about_80 : decode cX7_about 80 = .ok (.ireturn, 1) := by decide +kernel
theorem dX7_about_81 : decode cX7_about 81 = .ok (.aload_n 3, 1) := by decide +kernel
theorem dX7_about_82 : decode cX7_about 82 = .ok (.getfield 104, 3) := by decide +kernel
theorem dX7_about_85 : decode cX7_about 85 = .ok (.ireturn, 1) := by decide +kernel
theorem dX7_about_86 : decode cX7_about 86 = .ok (.aload_n 3, 1) := by decide +kernel
theorem dX7_about_87 : decode cX7_about 87 = .ok (.invokevirtual 227, 3) := by decide +kernel
theorem dX7_about_90 : decode cX7_about 90 = .ok (.ifCond .eq 13, 3) := by decide +kernel
theorem dX7_about_93 : decode cX7_about 93 = .ok (.aload_n 3, 1) := by decide +kernel
theorem dX7_about_94 : decode cX7_about 94 = .ok (.invokevirtual 190, 3) := by decide +kernel
theorem dX7_about_97 : decode cX7_about 97 = .ok (.getfield 231, 3) := by decide +kernel
theorem dX7_about_100 : decode cX7_about 100 = .ok (.goto 4, 3) := by decide +kernel
theorem dX7_about_103 : decode cX7_about 103 = .ok (.iconst 0, 1) := by decide +kernel
theorem dX7_about_104 : decode cX7_about 104 = .ok (.ireturn, 1) := by decide +kernel
theorem dX7_about_105 : decode cX7_about 105 = .ok (.aload_n 3, 1) := by decide +kernel
theorem dX7_about_106 : decode cX7_about 106 = .ok (.invokevirtual 234, 3) := by decide +kernel
theorem dX7_about_109 : decode cX7_about 109 = .ok (.ireturn, 1) := by decide +kernel
theorem dX7_about_110 : decode cX7_about 110 = .ok (.aload_n 0, 1) := by decide +kernel
theorem dX7_about_111 : decode cX7_about 111 = .ok (.aload_n 3, 1) := by decide +kernel
theorem dX7_about_112 : decode cX7_about 112 = .ok (.invokevirtual 237, 3) := by decide +kernel
theorem dX7_about_115 : decode cX7_about 115 = .ok (.ireturn, 1) := by decide +kernel
theorem dX7_about_116 : decode cX7_about 116 = .ok (.aload_n 3, 1) := by decide +kernel
theorem dX7_about_117 : decode cX7_about 117 = .ok (.invokevirtual 241, 3) := by decide +kernel
theorem dX7_about_120 : decode cX7_about 120 = .ok (.ireturn, 1) := by decide +kernel
theorem dX7_about_121 : decode cX7_about 121 = .ok (.iconst (-1), 1) := by decide +kernel
theorem dX7_about_122 : decode cX7_about 122 = .ok (.ireturn, 1) := by decide +kernel
theorem dX7_judged_0 : decode cX7_judged 0 = .ok (.aload_n 0, 1) := by decide +kernel
theorem dX7_judged_1 : decode cX7_judged 1 = .ok (.iload_n 1, 1) := by decide +kernel
theorem dX7_judged_2 : decode cX7_judged 2 = .ok (.invokevirtual 180, 3) := by decide +kernel
theorem dX7_judged_5 : decode cX7_judged 5 = .ok (.astore_n 3, 1) := by decide +kernel
theorem dX7_judged_6 : decode cX7_judged 6 = .ok (.aload_n 3, 1) := by decide +kernel
theorem dX7_judged_7 : decode cX7_judged 7 = .ok (.ifnull 12, 3) := by decide +kernel
theorem dX7_judged_10 : decode cX7_judged 10 = .ok (.iload_n 2, 1) := by decide +kernel
theorem dX7_judged_11 : decode cX7_judged 11 = .ok (.iconst 0, 1) := by decide +kernel
theorem dX7_judged_12 : decode cX7_judged 12 = .ok (.iconst 2, 1) := by decide +kernel
theorem dX7_judged_13 : decode cX7_judged 13 = .ok (.invokestatic 59, 3) := by decide +kernel
theorem dX7_judged_16 : decode cX7_judged 16 = .ok (.ifCond .ne 5, 3) := by decide +kernel
theorem dX7_judged_19 : decode cX7_judged 19 = .ok (.iconst (-1), 1) := by decide +kernel
theorem dX7_judged_20 : decode cX7_judged 20 = .ok (.ireturn, 1) := by decide +kernel
theorem dX7_judged_21 : decode cX7_judged 21 = .ok (.aload_n 3, 1) := by decide +kernel
theorem dX7_judged_22 : decode cX7_judged 22 = .ok (.invokevirtual 244, 3) := by decide +kernel
theorem dX7_judged_25 : decode cX7_judged 25 = .ok (.astore 4, 2) := by decide +kernel
theorem dX7_judged_27 : decode cX7_judged 27 = .ok (.aload 4, 2) := by decide +kernel
theorem dX7_judged_29 : decode cX7_judged 29 = .ok (.ifnonnull 6, 3) := by decide +kernel
theorem dX7_judged_32 : decode cX7_judged 32 = .ok (.bipush (-4), 2) := by decide +kernel
theorem dX7_judged_34 : decode cX7_judged 34 = .ok (.ireturn, 1) := by decide +kernel
theorem dX7_judged_35 : decode cX7_judged 35 = .ok (.iload_n 2, 1) := by decide +kernel
theorem dX7_judged_36 : decode cX7_judged 36 = .ok (.lookupswitch 40 #[(0, 28), (1, 34)], 28) := by decide +kernel
theorem dX7_judged_64 : decode cX7_judged 64 = .ok (.aload 4, 2) := by decide +kernel
theorem dX7_judged_66 : decode cX7_judged 66 = .ok (.invokevirtual 247, 3) := by decide +kernel
theorem dX7_judged_69 : decode cX7_judged 69 = .ok (.ireturn, 1) := by decide +kernel
theorem dX7_judged_70 : decode cX7_judged 70 = .ok (.aload 4, 2) := by decide +kernel
theorem dX7_judged_72 : decode cX7_judged 72 = .ok (.getfield 249, 3) := by decide +kernel
theorem dX7_judged_75 : decode cX7_judged 75 = .ok (.ireturn, 1) := by decide +kernel
theorem dX7_judged_76 : decode cX7_judged 76 = .ok (.aload 4, 2) := by decide +kernel
theorem dX7_judged_78 : decode cX7_judged 78 = .ok (.getfield 252, 3) := by decide +kernel
theorem dX7_judged_81 : decode cX7_judged 81 = .ok (.ireturn, 1) := by decide +kernel
theorem dX7_appeal_0 : decode cX7_appeal 0 = .ok (.aload_n 0, 1) := by decide +kernel
theorem dX7_appeal_1 : decode cX7_appeal 1 = .ok (.iload_n 1, 1) := by decide +kernel
theorem dX7_appeal_2 : decode cX7_appeal 2 = .ok (.invokevirtual 180, 3) := by decide +kernel
theorem dX7_appeal_5 : decode cX7_appeal 5 = .ok (.astore_n 2, 1) := by decide +kernel
theorem dX7_appeal_6 : decode cX7_appeal 6 = .ok (.aload_n 2, 1) := by decide +kernel
theorem dX7_appeal_7 : decode cX7_appeal 7 = .ok (.ifnonnull 5, 3) := by decide +kernel
theorem dX7_appeal_10 : decode cX7_appeal 10 = .ok (.iconst (-1), 1) := by decide +kernel
theorem dX7_appeal_11 : decode cX7_appeal 11 = .ok (.ireturn, 1) := by decide +kernel
theorem dX7_appeal_12 : decode cX7_appeal 12 = .ok (.aload_n 2, 1) := by decide +kernel
theorem dX7_appeal_13 : decode cX7_appeal 13 = .ok (.getfield 203, 3) := by decide +kernel
theorem dX7_appeal_16 : decode cX7_appeal 16 = .ok (.iconst 2, 1) := by decide +kernel
theorem dX7_appeal_17 : decode cX7_appeal 17 = .ok (.if_icmp .eq 6, 3) := by decide +kernel
theorem dX7_appeal_20 : decode cX7_appeal 20 = .ok (.bipush (-4), 2) := by decide +kernel
theorem dX7_appeal_22 : decode cX7_appeal 22 = .ok (.ireturn, 1) := by decide +kernel
theorem dX7_appeal_23 : decode cX7_appeal 23 = .ok (.aload_n 2, 1) := by decide +kernel
theorem dX7_appeal_24 : decode cX7_appeal 24 = .ok (.aload_n 0, 1) := by decide +kernel
theorem dX7_appeal_25 : decode cX7_appeal 25 = .ok (.getfield 45, 3) := by decide +kernel
theorem dX7_appeal_28 : decode cX7_appeal 28 = .ok (.invokevirtual 255, 3) := by decide +kernel
theorem dX7_appeal_31 : decode cX7_appeal 31 = .ok (.iconst 1, 1) := by decide +kernel
theorem dX7_appeal_32 : decode cX7_appeal 32 = .ok (.ireturn, 1) := by decide +kernel
theorem dX7_known_0 : decode cX7_known 0 = .ok (.aload_n 0, 1) := by decide +kernel
theorem dX7_known_1 : decode cX7_known 1 = .ok (.iload_n 1, 1) := by decide +kernel
theorem dX7_known_2 : decode cX7_known 2 = .ok (.invokevirtual 180, 3) := by decide +kernel
theorem dX7_known_5 : decode cX7_known 5 = .ok (.astore_n 3, 1) := by decide +kernel
theorem dX7_known_6 : decode cX7_known 6 = .ok (.aload_n 3, 1) := by decide +kernel
theorem dX7_known_7 : decode cX7_known 7 = .ok (.ifnull 12, 3) := by decide +kernel
theorem dX7_known_10 : decode cX7_known 10 = .ok (.iload_n 2, 1) := by decide +kernel
theorem dX7_known_11 : decode cX7_known 11 = .ok (.iconst (-1), 1) := by decide +kernel
theorem dX7_known_12 : decode cX7_known 12 = .ok (.iconst 1, 1) := by decide +kernel
theorem dX7_known_13 : decode cX7_known 13 = .ok (.invokestatic 59, 3) := by decide +kernel
theorem dX7_known_16 : decode cX7_known 16 = .ok (.ifCond .ne 6, 3) := by decide +kernel
theorem dX7_known_19 : decode cX7_known 19 = .ok (.bipush (-5), 2) := by decide +kernel
theorem dX7_known_21 : decode cX7_known 21 = .ok (.ireturn, 1) := by decide +kernel
theorem dX7_known_22 : decode cX7_known 22 = .ok (.aload_n 3, 1) := by decide +kernel
theorem dX7_known_23 : decode cX7_known 23 = .ok (.getfield 258, 3) := by decide +kernel
theorem dX7_known_26 : decode cX7_known 26 = .ok (.istore 4, 2) := by decide +kernel
theorem dX7_known_28 : decode cX7_known 28 = .ok (.aload_n 3, 1) := by decide +kernel
theorem dX7_known_29 : decode cX7_known 29 = .ok (.iload_n 2, 1) := by decide +kernel
theorem dX7_known_30 : decode cX7_known 30 = .ok (.putfield 258, 3) := by decide +kernel
theorem dX7_known_33 : decode cX7_known 33 = .ok (.aload_n 0, 1) := by decide +kernel
theorem dX7_known_34 : decode cX7_known 34 = .ok (.invokevirtual 261, 3) := by decide +kernel
theorem dX7_known_37 : decode cX7_known 37 = .ok (.iload 4, 2) := by decide +kernel
theorem dX7_known_39 : decode cX7_known 39 = .ok (.ireturn, 1) := by decide +kernel
theorem dX7_late_0 : decode cX7_late 0 = .ok (.bipush (-4), 2) := by decide +kernel
theorem dX7_late_2 : decode cX7_late 2 = .ok (.istore_n 1, 1) := by decide +kernel
theorem dX7_late_3 : decode cX7_late 3 = .ok (.iconst 0, 1) := by decide +kernel
theorem dX7_late_4 : decode cX7_late 4 = .ok (.istore_n 2, 1) := by decide +kernel
theorem dX7_late_5 : decode cX7_late 5 = .ok (.iconst 0, 1) := by decide +kernel
theorem dX7_late_6 : decode cX7_late 6 = .ok (.istore_n 3, 1) := by decide +kernel
theorem dX7_late_7 : decode cX7_late 7 = .ok (.iload_n 3, 1) := by decide +kernel
theorem dX7_late_8 : decode cX7_late 8 = .ok (.aload_n 0, 1) := by decide +kernel
theorem dX7_late_9 : decode cX7_late 9 = .ok (.getfield 28, 3) := by decide +kernel
theorem dX7_late_12 : decode cX7_late 12 = .ok (.invokevirtual 83, 3) := by decide +kernel
theorem dX7_late_15 : decode cX7_late 15 = .ok (.if_icmp .ge 37, 3) := by decide +kernel
theorem dX7_late_18 : decode cX7_late 18 = .ok (.aload_n 0, 1) := by decide +kernel
theorem dX7_late_19 : decode cX7_late 19 = .ok (.aload_n 0, 1) := by decide +kernel
theorem dX7_late_20 : decode cX7_late 20 = .ok (.getfield 28, 3) := by decide +kernel
theorem dX7_late_23 : decode cX7_late 23 = .ok (.iload_n 3, 1) := by decide +kernel
theorem dX7_late_24 : decode cX7_late 24 = .ok (.invokevirtual 169, 3) := by decide +kernel
theorem dX7_late_27 : decode cX7_late 27 = .ok (.checkcast 105, 3) := by decide +kernel
theorem dX7_late_30 : decode cX7_late 30 = .ok (.invokevirtual 237, 3) := by decide +kernel
theorem dX7_late_33 : decode cX7_late 33 = .ok (.istore 4, 2) := by decide +kernel
theorem dX7_late_35 : decode cX7_late 35 = .ok (.iload 4, 2) := by decide +kernel
theorem dX7_late_37 : decode cX7_late 37 = .ok (.iload_n 2, 1) := by decide +kernel
theorem dX7_late_38 : decode cX7_late 38 = .ok (.if_icmp .le 8, 3) := by decide +kernel
theorem dX7_late_41 : decode cX7_late 41 = .ok (.iload 4, 2) := by decide +kernel
theorem dX7_late_43 : decode cX7_late 43 = .ok (.istore_n 2, 1) := by decide +kernel
theorem dX7_late_44 : decode cX7_late 44 = .ok (.iload_n 3, 1) := by decide +kernel
theorem dX7_late_45 : decode cX7_late 45 = .ok (.istore_n 1, 1) := by decide +kernel
theorem dX7_late_46 : decode cX7_late 46 = .ok (.iinc 3 1, 3) := by decide +kernel
theorem dX7_late_49 : decode cX7_late 49 = .ok (.goto (-42), 3) := by decide +kernel
theorem dX7_late_52 : decode cX7_late 52 = .ok (.iload_n 1, 1) := by decide +kernel
theorem dX7_late_53 : decode cX7_late 53 = .ok (.ireturn, 1) := by decide +kernel
theorem dX7_like_0 : decode cX7_like 0 = .ok (.aload_n 0, 1) := by decide +kernel
theorem dX7_like_1 : decode cX7_like 1 = .ok (.iload_n 1, 1) := by decide +kernel
theorem dX7_like_2 : decode cX7_like 2 = .ok (.invokevirtual 180, 3) := by decide +kernel
theorem dX7_like_5 : decode cX7_like 5 = .ok (.astore_n 3, 1) := by decide +kernel
theorem dX7_like_6 : decode cX7_like 6 = .ok (.aload_n 3, 1) := by decide +kernel
theorem dX7_like_7 : decode cX7_like 7 = .ok (.ifnull 13, 3) := by decide +kernel
theorem dX7_like_10 : decode cX7_like 10 = .ok (.iload_n 2, 1) := by decide +kernel
theorem dX7_like_11 : decode cX7_like 11 = .ok (.iconst 0, 1) := by decide +kernel
theorem dX7_like_12 : decode cX7_like 12 = .ok (.bipush 8, 2) := by decide +kernel
theorem dX7_like_14 : decode cX7_like 14 = .ok (.invokestatic 59, 3) := by decide +kernel
theorem dX7_like_17 : decode cX7_like 17 = .ok (.ifCond .ne 5, 3) := by decide +kernel
theorem dX7_like_20 : decode cX7_like 20 = .ok (.iconst (-1), 1) := by decide +kernel
theorem dX7_like_21 : decode cX7_like 21 = .ok (.ireturn, 1) := by decide +kernel
theorem dX7_like_22 : decode cX7_like 22 = .ok (.aload_n 0, 1) := by decide +kernel
theorem dX7_like_23 : decode cX7_like 23 = .ok (.aload_n 3, 1) := by decide +kernel
theorem dX7_like_24 : decode cX7_like 24 = .ok (.iload_n 2, 1) := by decide +kernel
theorem dX7_like_25 : decode cX7_like 25 = .ok (.iconst 0, 1) := by decide +kernel
theorem dX7_like_26 : decode cX7_like 26 = .ok (.invokevirtual 264, 3) := by decide +kernel
theorem dX7_like_29 : decode cX7_like 29 = .ok (.aload_n 0, 1) := by decide +kernel
theorem dX7_like_30 : decode cX7_like 30 = .ok (.aload_n 3, 1) := by decide +kernel
theorem dX7_like_31 : decode cX7_like 31 = .ok (.iload_n 2, 1) := by decide +kernel
theorem dX7_like_32 : decode cX7_like 32 = .ok (.iconst 1, 1) := by decide +kernel
theorem dX7_like_33 : decode cX7_like 33 = .ok (.invokevirtual 264, 3) := by decide +kernel
theorem dX7_like_36 : decode cX7_like 36 = .ok (.iadd, 1) := by decide +kernel
theorem dX7_like_37 : decode cX7_like 37 = .ok (.ireturn, 1) := by decide +kernel
theorem dX7_unlike_0 : decode cX7_unlike 0 = .ok (.aload_n 0, 1) := by decide +kernel
theorem dX7_unlike_1 : decode cX7_unlike 1 = .ok (.iload_n 1, 1) := by decide +kernel
theorem dX7_unlike_2 : decode cX7_unlike 2 = .ok (.invokevirtual 180, 3) := by decide +kernel
theorem dX7_unlike_5 : decode cX7_unlike 5 = .ok (.astore_n 3, 1) := by decide +kernel
theorem dX7_unlike_6 : decode cX7_unlike 6 = .ok (.aload_n 3, 1) := by decide +kernel
theorem dX7_unlike_7 : decode cX7_unlike 7 = .ok (.ifnull 13, 3) := by decide +kernel
theorem dX7_unlike_10 : decode cX7_unlike 10 = .ok (.iload_n 2, 1) := by decide +kernel
theorem dX7_unlike_11 : decode cX7_unlike 11 = .ok (.iconst 0, 1) := by decide +kernel
theorem dX7_unlike_12 : decode cX7_unlike 12 = .ok (.bipush 8, 2) := by decide +kernel
theorem dX7_unlike_14 : decode cX7_unlike 14 = .ok (.invokestatic 59, 3) := by decide +kernel
theorem dX7_unlike_17 : decode cX7_unlike 17 = .ok (.ifCond .ne 5, 3) := by decide +kernel
theorem dX7_unlike_20 : decode cX7_unlike 20 = .ok (.iconst (-1), 1) := by decide +kernel
theorem dX7_unlike_21 : decode cX7_unlike 21 = .ok (.ireturn, 1) := by decide +kernel
theorem dX7_unlike_22 : decode cX7_unlike 22 = .ok (.aload_n 0, 1) := by decide +kernel
theorem dX7_unlike_23 : decode cX7_unlike 23 = .ok (.aload_n 3, 1) := by decide +kernel
theorem dX7_unlike_24 : decode cX7_unlike 24 = .ok (.iload_n 2, 1) := by decide +kernel
theorem dX7_unlike_25 : decode cX7_unlike 25 = .ok (.iconst 0, 1) := by decide +kernel
theorem dX7_unlike_26 : decode cX7_unlike 26 = .ok (.invokevirtual 264, 3) := by decide +kernel
theorem dX7_unlike_29 : decode cX7_unlike 29 = .ok (.istore 4, 2) := by decide +kernel
theorem dX7_unlike_31 : decode cX7_unlike 31 = .ok (.aload_n 0, 1) := by decide +kernel
theorem dX7_unlike_32 : decode cX7_unlike 32 = .ok (.aload_n 3, 1) := by decide +kernel
theorem dX7_unlike_33 : decode cX7_unlike 33 = .ok (.iload_n 2, 1) := by decide +kernel
theorem dX7_unlike_34 : decode cX7_unlike 34 = .ok (.iconst 1, 1) := by decide +kernel
theorem dX7_unlike_35 : decode cX7_unlike 35 = .ok (.invokevirtual 264, 3) := by decide +kernel
theorem dX7_unlike_38 : decode cX7_unlike 38 = .ok (.istore 5, 2) := by decide +kernel
theorem dX7_unlike_40 : decode cX7_unlike 40 = .ok (.iload 4, 2) := by decide +kernel
theorem dX7_unlike_42 : decode cX7_unlike 42 = .ok (.iload 5, 2) := by decide +kernel
theorem dX7_unlike_44 : decode cX7_unlike 44 = .ok (.if_icmp .ne 7, 3) := by decide +kernel
theorem dX7_unlike_47 : decode cX7_unlike 47 = .ok (.iconst 0, 1) := by decide +kernel
theorem dX7_unlike_48 : decode cX7_unlike 48 = .ok (.goto 10, 3) := by decide +kernel
theorem dX7_unlike_51 : decode cX7_unlike 51 = .ok (.iload 4, 2) := by decide +kernel
theorem dX7_unlike_53 : decode cX7_unlike 53 = .ok (.iload 5, 2) := by decide +kernel
theorem dX7_unlike_55 : decode cX7_unlike 55 = .ok (.invokestatic 268, 3) := by decide +kernel
theorem dX7_unlike_58 : decode cX7_unlike 58 = .ok (.ireturn, 1) := by decide +kernel
theorem dX7_writer_0 : decode cX7_writer 0 = .ok (.iload_n 1, 1) := by decide +kernel
theorem dX7_writer_1 : decode cX7_writer 1 = .ok (.iconst 0, 1) := by decide +kernel
theorem dX7_writer_2 : decode cX7_writer 2 = .ok (.bipush 39, 2) := by decide +kernel
theorem dX7_writer_4 : decode cX7_writer 4 = .ok (.invokestatic 59, 3) := by decide +kernel
theorem dX7_writer_7 : decode cX7_writer 7 = .ok (.ifCond .ne 5, 3) := by decide +kernel
theorem dX7_writer_10 : decode cX7_writer 10 = .ok (.iconst (-1), 1) := by decide +kernel
theorem dX7_writer_11 : decode cX7_writer 11 = .ok (.ireturn, 1) := by decide +kernel
theorem dX7_writer_12 : decode cX7_writer 12 = .ok (.iload_n 2, 1) := by decide +kernel
theorem dX7_writer_13 : decode cX7_writer 13 = .ok (.tableswitch 137 0 6 #[43, 61, 78, 103, 109, 116, 123], 43) := by decide +kernel
theorem dX7_writer_56 : decode cX7_writer 56 = .ok (.aload_n 0, 1) := by decide +kernel
theorem dX7_writer_57 : decode cX7_writer 57 = .ok (.iload_n 1, 1) := by decide +kernel
theorem dX7_writer_58 : decode cX7_writer 58 = .ok (.aconst_null, 1) := by decide +kernel
theorem dX7_writer_59 : decode cX7_writer 59 = .ok (.invokevirtual 274, 3) := by decide +kernel
theorem dX7_writer_62 : decode cX7_writer 62 = .ok (.aload_n 0, 1) := by decide +kernel
theorem dX7_writer_63 : decode cX7_writer 63 = .ok (.getfield 41, 3) := by decide +kernel
theorem dX7_writer_66 : decode cX7_writer 66 = .ok (.aload_n 0, 1) := by decide +kernel
theorem dX7_writer_67 : decode cX7_writer 67 = .ok (.getfield 45, 3) := by decide +kernel
theorem dX7_writer_70 : decode cX7_writer 70 = .ok (.invokevirtual 278, 3) := by decide +kernel
theorem dX7_writer_73 : decode cX7_writer 73 = .ok (.ireturn, 1) := by decide +kernel
theorem dX7_writer_74 : decode cX7_writer 74 = .ok (.aload_n 0, 1) := by decide +kernel
theorem dX7_writer_75 : decode cX7_writer 75 = .ok (.iload_n 1, 1) := by decide +kernel
theorem dX7_writer_76 : decode cX7_writer 76 = .ok (.aconst_null, 1) := by decide +kernel
theorem dX7_writer_77 : decode cX7_writer 77 = .ok (.invokevirtual 274, 3) := by decide +kernel
theorem dX7_writer_80 : decode cX7_writer 80 = .ok (.aload_n 0, 1) := by decide +kernel
theorem dX7_writer_81 : decode cX7_writer 81 = .ok (.getfield 41, 3) := by decide +kernel
theorem dX7_writer_84 : decode cX7_writer 84 = .ok (.getfield 282, 3) := by decide +kernel
theorem dX7_writer_87 : decode cX7_writer 87 = .ok (.invokestatic 136, 3) := by decide +kernel
theorem dX7_writer_90 : decode cX7_writer 90 = .ok (.ireturn, 1) := by decide +kernel
theorem dX7_writer_91 : decode cX7_writer 91 = .ok (.aload_n 0, 1) := by decide +kernel
theorem dX7_writer_92 : decode cX7_writer 92 = .ok (.iload_n 1, 1) := by decide +kernel
theorem dX7_writer_93 : decode cX7_writer 93 = .ok (.aconst_null, 1) := by decide +kernel
theorem dX7_writer_94 : decode cX7_writer 94 = .ok (.invokevirtual 274, 3) := by decide +kernel
theorem dX7_writer_97 : decode cX7_writer 97 = .ok (.aload_n 0, 1) := by decide +kernel
theorem dX7_writer_98 : decode cX7_writer 98 = .ok (.getfield 41, 3) := by decide +kernel
theorem dX7_writer_101 : decode cX7_writer 101 = .ok (.getfield 285, 3) := by decide +kernel
theorem dX7_writer_104 : decode cX7_writer 104 = .ok (.ifCond .lt 7, 3) := by decide +kernel
theorem dX7_writer_107 : decode cX7_writer 107 = .ok (.iconst 1, 1) := by decide +kernel
theorem dX7_writer_108 : decode cX7_writer 108 = .ok (.goto 4, 3) := by decide +kernel
theorem dX7_writer_111 : decode cX7_writer 111 = .ok (.iconst 0, 1) := by decide +kernel
theorem dX7_writer_112 : decode cX7_writer 112 = .ok (.invokestatic 136, 3) := by decide +kernel
theorem dX7_writer_115 : decode cX7_writer 115 = .ok (.ireturn, 1) := by decide +kernel
theorem dX7_writer_116 : decode cX7_writer 116 = .ok (.aload_n 0, 1) := by decide +kernel
theorem dX7_writer_117 : decode cX7_writer 117 = .ok (.iload_n 1, 1) := by decide +kernel
theorem dX7_writer_118 : decode cX7_writer 118 = .ok (.invokevirtual 288, 3) := by decide +kernel
theorem dX7_writer_121 : decode cX7_writer 121 = .ok (.ireturn, 1) := by decide +kernel
theorem dX7_writer_122 : decode cX7_writer 122 = .ok (.aload_n 0, 1) := by decide +kernel
theorem dX7_writer_123 : decode cX7_writer 123 = .ok (.iload_n 1, 1) := by decide +kernel
theorem dX7_writer_124 : decode cX7_writer 124 = .ok (.iconst 0, 1) := by decide +kernel
theorem dX7_writer_125 : decode cX7_writer 125 = .ok (.invokevirtual 291, 3) := by decide +kernel
theorem dX7_writer_128 : decode cX7_writer 128 = .ok (.ireturn, 1) := by decide +kernel
theorem dX7_writer_129 : decode cX7_writer 129 = .ok (.aload_n 0, 1) := by decide +kernel
theorem dX7_writer_130 : decode cX7_writer 130 = .ok (.iload_n 1, 1) := by decide +kernel
theorem dX7_writer_131 : decode cX7_writer 131 = .ok (.iconst 1, 1) := by decide +kernel
theorem dX7_writer_132 : decode cX7_writer 132 = .ok (.invokevirtual 291, 3) := by decide +kernel
theorem dX7_writer_135 : decode cX7_writer 135 = .ok (.ireturn, 1) := by decide +kernel
theorem dX7_writer_136 : decode cX7_writer 136 = .ok (.aload_n 0, 1) := by decide +kernel
theorem dX7_writer_137 : decode cX7_writer 137 = .ok (.iload_n 1, 1) := by decide +kernel
theorem dX7_writer_138 : decode cX7_writer 138 = .ok (.aconst_null, 1) := by decide +kernel
theorem dX7_writer_139 : decode cX7_writer 139 = .ok (.invokevirtual 274, 3) := by decide +kernel
theorem dX7_writer_142 : decode cX7_writer 142 = .ok (.aload_n 0, 1) := by decide +kernel
theorem dX7_writer_143 : decode cX7_writer 143 = .ok (.getfield 41, 3) := by decide +kernel
theorem dX7_writer_146 : decode cX7_writer 146 = .ok (.getfield 285, 3) := by decide +kernel
theorem dX7_writer_149 : decode cX7_writer 149 = .ok (.ireturn, 1) := by decide +kernel
theorem dX7_writer_150 : decode cX7_writer 150 = .ok (.iconst (-1), 1) := by decide +kernel
theorem dX7_writer_151 : decode cX7_writer 151 = .ok (.ireturn, 1) := by decide +kernel
theorem dX7_level_0 : decode cX7_level 0 = .ok (.aload_n 0, 1) := by decide +kernel
theorem dX7_level_1 : decode cX7_level 1 = .ok (.iload_n 1, 1) := by decide +kernel
theorem dX7_level_2 : decode cX7_level 2 = .ok (.invokevirtual 180, 3) := by decide +kernel
theorem dX7_level_5 : decode cX7_level 5 = .ok (.astore_n 2, 1) := by decide +kernel
theorem dX7_level_6 : decode cX7_level 6 = .ok (.aload_n 2, 1) := by decide +kernel
theorem dX7_level_7 : decode cX7_level 7 = .ok (.ifnonnull 5, 3) := by decide +kernel
theorem dX7_level_10 : decode cX7_level 10 = .ok (.iconst (-1), 1) := by decide +kernel
theorem dX7_level_11 : decode cX7_level 11 = .ok (.ireturn, 1) := by decide +kernel
theorem dX7_level_12 : decode cX7_level 12 = .ok (.aload_n 2, 1) := by decide +kernel
theorem dX7_level_13 : decode cX7_level 13 = .ok (.invokevirtual 295, 3) := by decide +kernel
theorem dX7_level_16 : decode cX7_level 16 = .ok (.ifCond .ne 6, 3) := by decide +kernel
theorem dX7_level_19 : decode cX7_level 19 = .ok (.bipush (-4), 2) := by decide +kernel
theorem dX7_level_21 : decode cX7_level 21 = .ok (.ireturn, 1) := by decide +kernel
theorem dX7_level_22 : decode cX7_level 22 = .ok (.aload_n 0, 1) := by decide +kernel
theorem dX7_level_23 : decode cX7_level 23 = .ok (.aload_n 2, 1) := by decide +kernel
theorem dX7_level_24 : decode cX7_level 24 = .ok (.getfield 217, 3) := by decide +kernel
theorem dX7_level_27 : decode cX7_level 27 = .ok (.getfield 298, 3) := by decide +kernel
theorem dX7_level_30 : decode cX7_level 30 = .ok (.aload_n 2, 1) := by decide +kernel
theorem dX7_level_31 : decode cX7_level 31 = .ok (.invokevirtual 274, 3) := by decide +kernel
theorem dX7_level_34 : decode cX7_level 34 = .ok (.aload_n 0, 1) := by decide +kernel
theorem dX7_level_35 : decode cX7_level 35 = .ok (.getfield 41, 3) := by decide +kernel
theorem dX7_level_38 : decode cX7_level 38 = .ok (.getfield 301, 3) := by decide +kernel
theorem dX7_level_41 : decode cX7_level 41 = .ok (.ireturn, 1) := by decide +kernel
theorem dX7_hidden_0 : decode cX7_hidden 0 = .ok (.aload_n 0, 1) := by decide +kernel
theorem dX7_hidden_1 : decode cX7_hidden 1 = .ok (.iload_n 1, 1) := by decide +kernel
theorem dX7_hidden_2 : decode cX7_hidden 2 = .ok (.invokevirtual 96, 3) := by decide +kernel
theorem dX7_hidden_5 : decode cX7_hidden 5 = .ok (.astore_n 2, 1) := by decide +kernel
theorem dX7_hidden_6 : decode cX7_hidden 6 = .ok (.aload_n 2, 1) := by decide +kernel
theorem dX7_hidden_7 : decode cX7_hidden 7 = .ok (.ifnonnull 5, 3) := by decide +kernel
theorem dX7_hidden_10 : decode cX7_hidden 10 = .ok (.iconst (-1), 1) := by decide +kernel
theorem dX7_hidden_11 : decode cX7_hidden 11 = .ok (.ireturn, 1) := by decide +kernel
theorem dX7_hidden_12 : decode cX7_hidden 12 = .ok (.aload_n 2, 1) := by decide +kernel
theorem dX7_hidden_13 : decode cX7_hidden 13 = .ok (.invokevirtual 304, 3) := by decide +kernel
theorem dX7_hidden_16 : decode cX7_hidden 16 = .ok (.invokestatic 136, 3) := by decide +kernel
theorem dX7_hidden_19 : decode cX7_hidden 19 = .ok (.ireturn, 1) := by decide +kernel
theorem dX7_count_0 : decode cX7_count 0 = .ok (.iload_n 1, 1) := by decide +kernel
theorem dX7_count_1 : decode cX7_count 1 = .ok (.tableswitch 78 0 5 #[39, 47, 55, 60, 68, 73], 39) := by decide +kernel
theorem dX7_count_40 : decode cX7_count 40 = .ok (.aload_n 0, 1) := by decide +kernel
theorem dX7_count_41 : decode cX7_count 41 = .ok (.getfield 24, 3) := by decide +kernel
theorem dX7_count_44 : decode cX7_count 44 = .ok (.invokevirtual 83, 3) := by decide +kernel
theorem dX7_count_47 : decode cX7_count 47 = .ok (.ireturn, 1) := by decide +kernel
theorem dX7_count_48 : decode cX7_count 48 = .ok (.aload_n 0, 1) := by decide +kernel
theorem dX7_count_49 : decode cX7_count 49 = .ok (.getfield 28, 3) := by decide +kernel
theorem dX7_count_52 : decode cX7_count 52 = .ok (.invokevirtual 83, 3) := by decide +kernel
theorem dX7_count_55 : decode cX7_count 55 = .ok (.ireturn, 1) := by decide +kernel
theorem dX7_count_56 : decode cX7_count 56 = .ok (.aload_n 0, 1) := by decide +kernel
theorem dX7_count_57 : decode cX7_count 57 = .ok (.invokevirtual 307, 3) := by decide +kernel
theorem dX7_count_60 : decode cX7_count 60 = .ok (.ireturn, 1) := by decide +kernel
theorem dX7_count_61 : decode cX7_count 61 = .ok (.aload_n 0, 1) := by decide +kernel
theorem dX7_count_62 : decode cX7_count 62 = .ok (.getfield 31, 3) := by decide +kernel
theorem dX7_count_65 : decode cX7_count 65 = .ok (.invokevirtual 83, 3) := by decide +kernel
theorem dX7_count_68 : decode cX7_count 68 = .ok (.ireturn, 1) := by decide +kernel
theorem dX7_count_69 : decode cX7_count 69 = .ok (.aload_n 0, 1) := by decide +kernel
theorem dX7_count_70 : decode cX7_count 70 = .ok (.getfield 52, 3) := by decide +kernel
theorem dX7_count_73 : decode cX7_count 73 = .ok (.ireturn, 1) := by decide +kernel
theorem dX7_count_74 : decode cX7_count 74 = .ok (.aload_n 0, 1) := by decide +kernel
theorem dX7_count_75 : decode cX7_count 75 = .ok (.getfield 45, 3) := by decide +kernel
theorem dX7_count_78 : decode cX7_count 78 = .ok (.ireturn, 1) := by decide +kernel
theorem dX7_count_79 : decode cX7_count 79 = .ok (.iconst (-1), 1) := by decide +kernel
theorem dX7_count_80 : decode cX7_count 80 = .ok (.ireturn, 1) := by decide +kernel
theorem dX7_check_0 : decode cX7_check 0 = .ok (.iconst 1, 1) := by decide +kernel
theorem dX7_check_1 : decode cX7_check 1 = .ok (.istore_n 1, 1) := by decide +kernel
theorem dX7_check_2 : decode cX7_check 2 = .ok (.iconst 1, 1) := by decide +kernel
theorem dX7_check_3 : decode cX7_check 3 = .ok (.istore_n 2, 1) := by decide +kernel
theorem dX7_check_4 : decode cX7_check 4 = .ok (.iconst 0, 1) := by decide +kernel
theorem dX7_check_5 : decode cX7_check 5 = .ok (.istore_n 3, 1) := by decide +kernel
theorem dX7_check_6 : decode cX7_check 6 = .ok (.iload_n 3, 1) := by decide +kernel
theorem dX7_check_7 : decode cX7_check 7 = .ok (.aload_n 0, 1) := by decide +kernel
theorem dX7_check_8 : decode cX7_check 8 = .ok (.getfield 28, 3) := by decide +kernel
theorem dX7_check_11 : decode cX7_check 11 = .ok (.invokevirtual 83, 3) := by decide +kernel
theorem dX7_check_14 : decode cX7_check 14 = .ok (.if_icmp .ge 58, 3) := by decide +kernel
theorem dX7_check_17 : decode cX7_check 17 = .ok (.aload_n 0, 1) := by decide +kernel
theorem dX7_check_18 : decode cX7_check 18 = .ok (.getfield 28, 3) := by decide +kernel
theorem dX7_check_21 : decode cX7_check 21 = .ok (.iload_n 3, 1) := by decide +kernel
theorem dX7_check_22 : decode cX7_check 22 = .ok (.invokevirtual 169, 3) := by decide +kernel
theorem dX7_check_25 : decode cX7_check 25 = .ok (.checkcast 105, 3) := by decide +kernel
theorem dX7_check_28 : decode cX7_check 28 = .ok (.astore 4, 2) := by decide +kernel
theorem dX7_check_30 : decode cX7_check 30 = .ok (.iload_n 1, 1) := by decide +kernel
theorem dX7_check_31 : decode cX7_check 31 = .ok (.ifCond .eq 15, 3) := by decide +kernel
theorem dX7_check_34 : decode cX7_check 34 = .ok (.aload 4, 2) := by decide +kernel
theorem dX7_check_36 : decode cX7_check 36 = .ok (.invokevirtual 310, 3) := by decide +kernel
theorem dX7_check_39 : decode cX7_check 39 = .ok (.ifCond .eq 7, 3) := by decide +kernel
theorem dX7_check_42 : decode cX7_check 42 = .ok (.iconst 1, 1) := by decide +kernel
theorem dX7_check_43 : decode cX7_check 43 = .ok (.goto 4, 3) := by decide +kernel
theorem dX7_check_46 : decode cX7_check 46 = .ok (.iconst 0, 1) := by decide +kernel
theorem dX7_check_47 : decode cX7_check 47 = .ok (.istore_n 1, 1) := by decide +kernel
theorem dX7_check_48 : decode cX7_check 48 = .ok (.iload_n 2, 1) := by decide +kernel
theorem dX7_check_49 : decode cX7_check 49 = .ok (.ifCond .eq 15, 3) := by decide +kernel
theorem dX7_check_52 : decode cX7_check 52 = .ok (.aload 4, 2) := by decide +kernel
theorem dX7_check_54 : decode cX7_check 54 = .ok (.invokevirtual 313, 3) := by decide +kernel
theorem dX7_check_57 : decode cX7_check 57 = .ok (.ifCond .eq 7, 3) := by decide +kernel
theorem dX7_check_60 : decode cX7_check 60 = .ok (.iconst 1, 1) := by decide +kernel
theorem dX7_check_61 : decode cX7_check 61 = .ok (.goto 4, 3) := by decide +kernel
theorem dX7_check_64 : decode cX7_check 64 = .ok (.iconst 0, 1) := by decide +kernel
theorem dX7_check_65 : decode cX7_check 65 = .ok (.istore_n 2, 1) := by decide +kernel
theorem dX7_check_66 : decode cX7_check 66 = .ok (.iinc 3 1, 3) := by decide +kernel
theorem dX7_check_69 : decode cX7_check 69 = .ok (.goto (-63), 3) := by decide +kernel
theorem dX7_check_72 : decode cX7_check 72 = .ok (.iconst 1, 1) := by decide +kernel
theorem dX7_check_73 : decode cX7_check 73 = .ok (.istore_n 3, 1) := by decide +kernel
theorem dX7_check_74 : decode cX7_check 74 = .ok (.aload_n 0, 1) := by decide +kernel
theorem dX7_check_75 : decode cX7_check 75 = .ok (.getfield 17, 3) := by decide +kernel
theorem dX7_check_78 : decode cX7_check 78 = .ok (.astore 4, 2) := by decide +kernel
theorem dX7_check_80 : decode cX7_check 80 = .ok (.aload 4, 2) := by decide +kernel
theorem dX7_check_82 : decode cX7_check 82 = .ok (.arraylength, 1) := by decide +kernel
theorem dX7_check_83 : decode cX7_check 83 = .ok (.istore 5, 2) := by decide +kernel
theorem dX7_check_85 : decode cX7_check 85 = .ok (.iconst 0, 1) := by decide +kernel
theorem dX7_check_86 : decode cX7_check 86 = .ok (.istore 6, 2) := by decide +kernel
theorem dX7_check_88 : decode cX7_check 88 = .ok (.iload 6, 2) := by decide +kernel
theorem dX7_check_90 : decode cX7_check 90 = .ok (.iload 5, 2) := by decide +kernel
theorem dX7_check_92 : decode cX7_check 92 = .ok (.if_icmp .ge 36, 3) := by decide +kernel
theorem dX7_check_95 : decode cX7_check 95 = .ok (.aload 4, 2) := by decide +kernel
theorem dX7_check_97 : decode cX7_check 97 = .ok (.iload 6, 2) := by decide +kernel
theorem dX7_check_99 : decode cX7_check 99 = .ok (.aaload, 1) := by decide +kernel
theorem dX7_check_100 : decode cX7_check 100 = .ok (.astore 7, 2) := by decide +kernel
theorem dX7_check_102 : decode cX7_check 102 = .ok (.iload_n 3, 1) := by decide +kernel
theorem dX7_check_103 : decode cX7_check 103 = .ok (.ifCond .eq 17, 3) := by decide +kernel
theorem dX7_check_106 : decode cX7_check 106 = .ok (.aload 7, 2) := by decide +kernel
theorem dX7_check_108 : decode cX7_check 108 = .ok (.getfield 161, 3) := by decide +kernel
theorem dX7_check_111 : decode cX7_check 111 = .ok (.bipush 20, 2) := by decide +kernel
theorem dX7_check_113 : decode cX7_check 113 = .ok (.if_icmp .gt 7, 3) := by decide +kernel
theorem dX7_check_116 : decode cX7_check 116 = .ok (.iconst 1, 1) := by decide +kernel
theorem dX7_check_117 : decode cX7_check 117 = .ok (.goto 4, 3) := by decide +kernel
theorem dX7_check_120 : decode cX7_check 120 = .ok (.iconst 0, 1) := by decide +kernel
theorem dX7_check_121 : decode cX7_check 121 = .ok (.istore_n 3, 1) := by decide +kernel
theorem dX7_check_122 : decode cX7_check 122 = .ok (.iinc 6 1, 3) := by decide +kernel
theorem dX7_check_125 : decode cX7_check 125 = .ok (.goto (-37), 3) := by decide +kernel
theorem dX7_check_128 : decode cX7_check 128 = .ok (.iload_n 1, 1) := by decide +kernel
theorem dX7_check_129 : decode cX7_check 129 = .ok (.ifCond .ne 7, 3) := by decide +kernel
theorem dX7_check_132 : decode cX7_check 132 = .ok (.iconst 1, 1) := by decide +kernel
theorem dX7_check_133 : decode cX7_check 133 = .ok (.goto 4, 3) := by decide +kernel
theorem dX7_check_136 : decode cX7_check 136 = .ok (.iconst 0, 1) := by decide +kernel
theorem dX7_check_137 : decode cX7_check 137 = .ok (.invokestatic 136, 3) := by decide +kernel
theorem dX7_check_140 : decode cX7_check 140 = .ok (.iload_n 3, 1) := by decide +kernel
theorem dX7_check_141 : decode cX7_check 141 = .ok (.ifCond .ne 7, 3) := by decide +kernel
theorem dX7_check_144 : decode cX7_check 144 = .ok (.iconst 1, 1) := by decide +kernel
theorem dX7_check_145 : decode cX7_check 145 = .ok (.goto 4, 3) := by decide +kernel
theorem dX7_check_148 : decode cX7_check 148 = .ok (.iconst 0, 1) := by decide +kernel
theorem dX7_check_149 : decode cX7_check 149 = .ok (.invokestatic 136, 3) := by decide +kernel
theorem dX7_check_152 : decode cX7_check 152 = .ok (.iadd, 1) := by decide +kernel
theorem dX7_check_153 : decode cX7_check 153 = .ok (.iload_n 2, 1) := by decide +kernel
theorem dX7_check_154 : decode cX7_check 154 = .ok (.ifCond .ne 7, 3) := by decide +kernel
theorem dX7_check_157 : decode cX7_check 157 = .ok (.iconst 1, 1) := by decide +kernel
theorem dX7_check_158 : decode cX7_check 158 = .ok (.goto 4, 3) := by decide +kernel
theorem dX7_check_161 : decode cX7_check 161 = .ok (.iconst 0, 1) := by decide +kernel
theorem dX7_check_162 : decode cX7_check 162 = .ok (.invokestatic 136, 3) := by decide +kernel
theorem dX7_check_165 : decode cX7_check 165 = .ok (.iadd, 1) := by decide +kernel
theorem dX7_check_166 : decode cX7_check 166 = .ok (.ireturn, 1) := by decide +kernel
theorem dX7_ruleAt_0 : decode cX7_ruleAt 0 = .ok (.iload_n 1, 1) := by decide +kernel
theorem dX7_ruleAt_1 : decode cX7_ruleAt 1 = .ok (.iconst 0, 1) := by decide +kernel
theorem dX7_ruleAt_2 : decode cX7_ruleAt 2 = .ok (.bipush 7, 2) := by decide +kernel
theorem dX7_ruleAt_4 : decode cX7_ruleAt 4 = .ok (.invokestatic 59, 3) := by decide +kernel
theorem dX7_ruleAt_7 : decode cX7_ruleAt 7 = .ok (.ifCond .eq 12, 3) := by decide +kernel
theorem dX7_ruleAt_10 : decode cX7_ruleAt 10 = .ok (.aload_n 0, 1) := by decide +kernel
theorem dX7_ruleAt_11 : decode cX7_ruleAt 11 = .ok (.getfield 11, 3) := by decide +kernel
theorem dX7_ruleAt_14 : decode cX7_ruleAt 14 = .ok (.iload_n 1, 1) := by decide +kernel
theorem dX7_ruleAt_15 : decode cX7_ruleAt 15 = .ok (.aaload, 1) := by decide +kernel
theorem dX7_ruleAt_16 : decode cX7_ruleAt 16 = .ok (.goto 4, 3) := by decide +kernel
theorem dX7_ruleAt_19 : decode cX7_ruleAt 19 = .ok (.aconst_null, 1) := by decide +kernel
theorem dX7_ruleAt_20 : decode cX7_ruleAt 20 = .ok (.areturn, 1) := by decide +kernel
theorem dX7_judgeAt_0 : decode cX7_judgeAt 0 = .ok (.iload_n 1, 1) := by decide +kernel
theorem dX7_judgeAt_1 : decode cX7_judgeAt 1 = .ok (.iconst 0, 1) := by decide +kernel
theorem dX7_judgeAt_2 : decode cX7_judgeAt 2 = .ok (.bipush 19, 2) := by decide +kernel
theorem dX7_judgeAt_4 : decode cX7_judgeAt 4 = .ok (.invokestatic 59, 3) := by decide +kernel
theorem dX7_judgeAt_7 : decode cX7_judgeAt 7 = .ok (.ifCond .eq 12, 3) := by decide +kernel
theorem dX7_judgeAt_10 : decode cX7_judgeAt 10 = .ok (.aload_n 0, 1) := by decide +kernel
theorem dX7_judgeAt_11 : decode cX7_judgeAt 11 = .ok (.getfield 17, 3) := by decide +kernel
theorem dX7_judgeAt_14 : decode cX7_judgeAt 14 = .ok (.iload_n 1, 1) := by decide +kernel
theorem dX7_judgeAt_15 : decode cX7_judgeAt 15 = .ok (.aaload, 1) := by decide +kernel
theorem dX7_judgeAt_16 : decode cX7_judgeAt 16 = .ok (.goto 4, 3) := by decide +kernel
theorem dX7_judgeAt_19 : decode cX7_judgeAt 19 = .ok (.aconst_null, 1) := by decide +kernel
theorem dX7_judgeAt_20 : decode cX7_judgeAt 20 = .ok (.areturn, 1) := by decide +kernel
theorem dX7_postAt_0 : decode cX7_postAt 0 = .ok (.iload_n 1, 1) := by decide +kernel
theorem dX7_postAt_1 : decode cX7_postAt 1 = .ok (.iconst 0, 1) := by decide +kernel
theorem dX7_postAt_2 : decode cX7_postAt 2 = .ok (.aload_n 0, 1) := by decide +kernel
theorem dX7_postAt_3 : decode cX7_postAt 3 = .ok (.getfield 24, 3) := by decide +kernel
theorem dX7_postAt_6 : decode cX7_postAt 6 = .ok (.invokevirtual 83, 3) := by decide +kernel
theorem dX7_postAt_9 : decode cX7_postAt 9 = .ok (.iconst 1, 1) := by decide +kernel
theorem dX7_postAt_10 : decode cX7_postAt 10 = .ok (.isub, 1) := by decide +kernel
theorem dX7_postAt_11 : decode cX7_postAt 11 = .ok (.invokestatic 59, 3) := by decide +kernel
theorem dX7_postAt_14 : decode cX7_postAt 14 = .ok (.ifCond .eq 17, 3) := by decide +kernel
theorem dX7_postAt_17 : decode cX7_postAt 17 = .ok (.aload_n 0, 1) := by decide +kernel
theorem dX7_postAt_18 : decode cX7_postAt 18 = .ok (.getfield 24, 3) := by decide +kernel
theorem dX7_postAt_21 : decode cX7_postAt 21 = .ok (.iload_n 1, 1) := by decide +kernel
theorem dX7_postAt_22 : decode cX7_postAt 22 = .ok (.invokevirtual 169, 3) := by decide +kernel
theorem dX7_postAt_25 : decode cX7_postAt 25 = .ok (.checkcast 87, 3) := by decide +kernel
theorem dX7_postAt_28 : decode cX7_postAt 28 = .ok (.goto 4, 3) := by decide +kernel
theorem dX7_postAt_31 : decode cX7_postAt 31 = .ok (.aconst_null, 1) := by decide +kernel
theorem dX7_postAt_32 : decode cX7_postAt 32 = .ok (.areturn, 1) := by decide +kernel
theorem dX7_caseAt_0 : decode cX7_caseAt 0 = .ok (.iload_n 1, 1) := by decide +kernel
theorem dX7_caseAt_1 : decode cX7_caseAt 1 = .ok (.iconst 0, 1) := by decide +kernel
theorem dX7_caseAt_2 : decode cX7_caseAt 2 = .ok (.aload_n 0, 1) := by decide +kernel
theorem dX7_caseAt_3 : decode cX7_caseAt 3 = .ok (.getfield 28, 3) := by decide +kernel
theorem dX7_caseAt_6 : decode cX7_caseAt 6 = .ok (.invokevirtual 83, 3) := by decide +kernel
theorem dX7_caseAt_9 : decode cX7_caseAt 9 = .ok (.iconst 1, 1) := by decide +kernel
theorem dX7_caseAt_10 : decode cX7_caseAt 10 = .ok (.isub, 1) := by decide +kernel
theorem dX7_caseAt_11 : decode cX7_caseAt 11 = .ok (.invokestatic 59, 3) := by decide +kernel
theorem dX7_caseAt_14 : decode cX7_caseAt 14 = .ok (.ifCond .eq 17, 3) := by decide +kernel
theorem dX7_caseAt_17 : decode cX7_caseAt 17 = .ok (.aload_n 0, 1) := by decide +kernel
theorem dX7_caseAt_18 : decode cX7_caseAt 18 = .ok (.getfield 28, 3) := by decide +kernel
theorem dX7_caseAt_21 : decode cX7_caseAt 21 = .ok (.iload_n 1, 1) := by decide +kernel
theorem dX7_caseAt_22 : decode cX7_caseAt 22 = .ok (.invokevirtual 169, 3) := by decide +kernel
theorem dX7_caseAt_25 : decode cX7_caseAt 25 = .ok (.checkcast 105, 3) := by decide +kernel
theorem dX7_caseAt_28 : decode cX7_caseAt 28 = .ok (.goto 4, 3) := by decide +kernel
theorem dX7_caseAt_31 : decode cX7_caseAt 31 = .ok (.aconst_null, 1) := by decide +kernel
theorem dX7_caseAt_32 : decode cX7_caseAt 32 = .ok (.areturn, 1) := by decide +kernel
theorem dX7_within_0 : decode cX7_within 0 = .ok (.iload_n 0, 1) := by decide +kernel
theorem dX7_within_1 : decode cX7_within 1 = .ok (.iload_n 1, 1) := by decide +kernel
theorem dX7_within_2 : decode cX7_within 2 = .ok (.if_icmp .lt 12, 3) := by decide +kernel
theorem dX7_within_5 : decode cX7_within 5 = .ok (.iload_n 0, 1) := by decide +kernel
theorem dX7_within_6 : decode cX7_within 6 = .ok (.iload_n 2, 1) := by decide +kernel
theorem dX7_within_7 : decode cX7_within 7 = .ok (.if_icmp .gt 7, 3) := by decide +kernel
theorem dX7_within_10 : decode cX7_within 10 = .ok (.iconst 1, 1) := by decide +kernel
theorem dX7_within_11 : decode cX7_within 11 = .ok (.goto 4, 3) := by decide +kernel
theorem dX7_within_14 : decode cX7_within 14 = .ok (.iconst 0, 1) := by decide +kernel
theorem dX7_within_15 : decode cX7_within 15 = .ok (.ireturn, 1) := by decide +kernel
theorem dX7_asNumber_0 : decode cX7_asNumber 0 = .ok (.iload_n 0, 1) := by decide +kernel
theorem dX7_asNumber_1 : decode cX7_asNumber 1 = .ok (.ifCond .eq 7, 3) := by decide +kernel
theorem dX7_asNumber_4 : decode cX7_asNumber 4 = .ok (.iconst 1, 1) := by decide +kernel
theorem dX7_asNumber_5 : decode cX7_asNumber 5 = .ok (.goto 4, 3) := by decide +kernel
theorem dX7_asNumber_8 : decode cX7_asNumber 8 = .ok (.iconst 0, 1) := by decide +kernel
theorem dX7_asNumber_9 : decode cX7_asNumber 9 = .ok (.ireturn, 1) := by decide +kernel
theorem dX7_mayHave_0 : decode cX7_mayHave 0 = .ok (.aload_n 1, 1) := by decide +kernel
theorem dX7_mayHave_1 : decode cX7_mayHave 1 = .ok (.invokevirtual 227, 3) := by decide +kernel
theorem dX7_mayHave_4 : decode cX7_mayHave 4 = .ok (.ifCond .eq 65, 3) := by decide +kernel
theorem dX7_mayHave_7 : decode cX7_mayHave 7 = .ok (.aload_n 1, 1) := by decide +kernel
theorem dX7_mayHave_8 : decode cX7_mayHave 8 = .ok (.invokevirtual 316, 3) := by decide +kernel
theorem dX7_mayHave_11 : decode cX7_mayHave 11 = .ok (.ifCond .eq 58, 3) := by decide +kernel
theorem dX7_mayHave_14 : decode cX7_mayHave 14 = .ok (.aload_n 0, 1) := by decide +kernel
theorem dX7_mayHave_15 : decode cX7_mayHave 15 = .ok (.invokevirtual 319, 3) := by decide +kernel
theorem dX7_mayHave_18 : decode cX7_mayHave 18 = .ok (.ifCond .eq 51, 3) := by decide +kernel
theorem dX7_mayHave_21 : decode cX7_mayHave 21 = .ok (.aload_n 0, 1) := by decide +kernel
theorem dX7_mayHave_22 : decode cX7_mayHave 22 = .ok (.aload_n 1, 1) := by decide +kernel
theorem dX7_mayHave_23 : decode cX7_mayHave 23 = .ok (.getfield 222, 3) := by decide +kernel
theorem dX7_mayHave_26 : decode cX7_mayHave 26 = .ok (.getfield 226, 3) := by decide +kernel
theorem dX7_mayHave_29 : decode cX7_mayHave 29 = .ok (.invokevirtual 322, 3) := by decide +kernel
theorem dX7_mayHave_32 : decode cX7_mayHave 32 = .ok (.ifCond .eq 37, 3) := by decide +kernel
theorem dX7_mayHave_35 : decode cX7_mayHave 35 = .ok (.aload_n 0, 1) := by decide +kernel
theorem dX7_mayHave_36 : decode cX7_mayHave 36 = .ok (.aload_n 1, 1) := by decide +kernel
theorem dX7_mayHave_37 : decode cX7_mayHave 37 = .ok (.getfield 217, 3) := by decide +kernel
theorem dX7_mayHave_40 : decode cX7_mayHave 40 = .ok (.getfield 298, 3) := by decide +kernel
theorem dX7_mayHave_43 : decode cX7_mayHave 43 = .ok (.invokevirtual 132, 3) := by decide +kernel
theorem dX7_mayHave_46 : decode cX7_mayHave 46 = .ok (.ifCond .ne 23, 3) := by decide +kernel
theorem dX7_mayHave_49 : decode cX7_mayHave 49 = .ok (.aload_n 1, 1) := by decide +kernel
theorem dX7_mayHave_50 : decode cX7_mayHave 50 = .ok (.aload_n 0, 1) := by decide +kernel
theorem dX7_mayHave_51 : decode cX7_mayHave 51 = .ok (.invokevirtual 325, 3) := by decide +kernel
theorem dX7_mayHave_54 : decode cX7_mayHave 54 = .ok (.ifCond .ne 15, 3) := by decide +kernel
theorem dX7_mayHave_57 : decode cX7_mayHave 57 = .ok (.aload_n 1, 1) := by decide +kernel
theorem dX7_mayHave_58 : decode cX7_mayHave 58 = .ok (.aload_n 0, 1) := by decide +kernel
theorem dX7_mayHave_59 : decode cX7_mayHave 59 = .ok (.invokevirtual 329, 3) := by decide +kernel
theorem dX7_mayHave_62 : decode cX7_mayHave 62 = .ok (.ifCond .ne 7, 3) := by decide +kernel
theorem dX7_mayHave_65 : decode cX7_mayHave 65 = .ok (.iconst 1, 1) := by decide +kernel
theorem dX7_mayHave_66 : decode cX7_mayHave 66 = .ok (.goto 4, 3) := by decide +kernel
theorem dX7_mayHave_69 : decode cX7_mayHave 69 = .ok (.iconst 0, 1) := by decide +kernel
theorem dX7_mayHave_70 : decode cX7_mayHave 70 = .ok (.ireturn, 1) := by decide +kernel
theorem dX7_nextFor_0 : decode cX7_nextFor 0 = .ok (.aconst_null, 1) := by decide +kernel
theorem dX7_nextFor_1 : decode cX7_nextFor 1 = .ok (.astore_n 2, 1) := by decide +kernel
theorem dX7_nextFor_2 : decode cX7_nextFor 2 = .ok (.iconst 0, 1) := by decide +kernel
theorem dX7_nextFor_3 : decode cX7_nextFor 3 = .ok (.istore_n 3, 1) := by decide +kernel
theorem dX7_nextFor_4 : decode cX7_nextFor 4 = .ok (.iconst 0, 1) := by decide +kernel
theorem dX7_nextFor_5 : decode cX7_nextFor 5 = .ok (.istore 4, 2) := by decide +kernel
theorem dX7_nextFor_7 : decode cX7_nextFor 7 = .ok (.iload 4, 2) := by decide +kernel
theorem dX7_nextFor_9 : decode cX7_nextFor 9 = .ok (.aload_n 0, 1) := by decide +kernel
theorem dX7_nextFor_10 : decode cX7_nextFor 10 = .ok (.getfield 28, 3) := by decide +kernel
theorem dX7_nextFor_13 : decode cX7_nextFor 13 = .ok (.invokevirtual 83, 3) := by decide +kernel
theorem dX7_nextFor_16 : decode cX7_nextFor 16 = .ok (.if_icmp .ge 63, 3) := by decide +kernel
theorem dX7_nextFor_19 : decode cX7_nextFor 19 = .ok (.aload_n 0, 1) := by decide +kernel
theorem dX7_nextFor_20 : decode cX7_nextFor 20 = .ok (.getfield 28, 3) := by decide +kernel
theorem dX7_nextFor_23 : decode cX7_nextFor 23 = .ok (.iload 4, 2) := by decide +kernel
theorem dX7_nextFor_25 : decode cX7_nextFor 25 = .ok (.invokevirtual 169, 3) := by decide +kernel
theorem dX7_nextFor_28 : decode cX7_nextFor 28 = .ok (.checkcast 105, 3) := by decide +kernel
theorem dX7_nextFor_31 : decode cX7_nextFor 31 = .ok (.astore 5, 2) := by decide +kernel
theorem dX7_nextFor_33 : decode cX7_nextFor 33 = .ok (.aload 5, 2) := by decide +kernel
theorem dX7_nextFor_35 : decode cX7_nextFor 35 = .ok (.getfield 222, 3) := by decide +kernel
theorem dX7_nextFor_38 : decode cX7_nextFor 38 = .ok (.getfield 71, 3) := by decide +kernel
theorem dX7_nextFor_41 : decode cX7_nextFor 41 = .ok (.aload 5, 2) := by decide +kernel
theorem dX7_nextFor_43 : decode cX7_nextFor 43 = .ok (.getfield 217, 3) := by decide +kernel
theorem dX7_nextFor_46 : decode cX7_nextFor 46 = .ok (.getfield 332, 3) := by decide +kernel
theorem dX7_nextFor_49 : decode cX7_nextFor 49 = .ok (.imul, 1) := by decide +kernel
theorem dX7_nextFor_50 : decode cX7_nextFor 50 = .ok (.istore 6, 2) := by decide +kernel
theorem dX7_nextFor_52 : decode cX7_nextFor 52 = .ok (.iload 6, 2) := by decide +kernel
theorem dX7_nextFor_54 : decode cX7_nextFor 54 = .ok (.iload_n 3, 1) := by decide +kernel
theorem dX7_nextFor_55 : decode cX7_nextFor 55 = .ok (.if_icmp .le 18, 3) := by decide +kernel
theorem dX7_nextFor_58 : decode cX7_nextFor 58 = .ok (.aload_n 1, 1) := by decide +kernel
theorem dX7_nextFor_59 : decode cX7_nextFor 59 = .ok (.aload 5, 2) := by decide +kernel
theorem dX7_nextFor_61 : decode cX7_nextFor 61 = .ok (.invokestatic 206, 3) := by decide +kernel
theorem dX7_nextFor_64 : decode cX7_nextFor 64 = .ok (.ifCond .eq 9, 3) := by decide +kernel
theorem dX7_nextFor_67 : decode cX7_nextFor 67 = .ok (.aload 5, 2) := by decide +kernel
theorem dX7_nextFor_69 : decode cX7_nextFor 69 = .ok (.astore_n 2, 1) := by decide +kernel
theorem dX7_nextFor_70 : decode cX7_nextFor 70 = .ok (.iload 6, 2) := by decide +kernel
theorem dX7_nextFor_72 : decode cX7_nextFor 72 = .ok (.istore_n 3, 1) := by decide +kernel
theorem dX7_nextFor_73 : decode cX7_nextFor 73 = .ok (.iinc 4 1, 3) := by decide +kernel
theorem dX7_nextFor_76 : decode cX7_nextFor 76 = .ok (.goto (-69), 3) := by decide +kernel
theorem dX7_nextFor_79 : decode cX7_nextFor 79 = .ok (.aload_n 2, 1) := by decide +kernel
theorem dX7_nextFor_80 : decode cX7_nextFor 80 = .ok (.areturn, 1) := by decide +kernel
theorem dX7_giftOf_0 : decode cX7_giftOf 0 = .ok (.iconst 0, 1) := by decide +kernel
theorem dX7_giftOf_1 : decode cX7_giftOf 1 = .ok (.istore_n 3, 1) := by decide +kernel
theorem dX7_giftOf_2 : decode cX7_giftOf 2 = .ok (.iload_n 3, 1) := by decide +kernel
theorem dX7_giftOf_3 : decode cX7_giftOf 3 = .ok (.aload_n 0, 1) := by decide +kernel
theorem dX7_giftOf_4 : decode cX7_giftOf 4 = .ok (.getfield 31, 3) := by decide +kernel
theorem dX7_giftOf_7 : decode cX7_giftOf 7 = .ok (.invokevirtual 83, 3) := by decide +kernel
theorem dX7_giftOf_10 : decode cX7_giftOf 10 = .ok (.if_icmp .ge 42, 3) := by decide +kernel
theorem dX7_giftOf_13 : decode cX7_giftOf 13 = .ok (.aload_n 0, 1) := by decide +kernel
theorem dX7_giftOf_14 : decode cX7_giftOf 14 = .ok (.getfield 31, 3) := by decide +kernel
theorem dX7_giftOf_17 : decode cX7_giftOf 17 = .ok (.iload_n 3, 1) := by decide +kernel
theorem dX7_giftOf_18 : decode cX7_giftOf 18 = .ok (.invokevirtual 169, 3) := by decide +kernel
theorem dX7_giftOf_21 : decode cX7_giftOf 21 = .ok (.checkcast 156, 3) := by decide +kernel
theorem dX7_giftOf_24 : decode cX7_giftOf 24 = .ok (.astore 4, 2) := by decide +kernel
theorem dX7_giftOf_26 : decode cX7_giftOf 26 = .ok (.aload 4, 2) := by decide +kernel
theorem dX7_giftOf_28 : decode cX7_giftOf 28 = .ok (.getfield 335, 3) := by decide +kernel
theorem dX7_giftOf_31 : decode cX7_giftOf 31 = .ok (.aload_n 1, 1) := by decide +kernel
theorem dX7_giftOf_32 : decode cX7_giftOf 32 = .ok (.if_acmp .ne 14, 3) := by decide +kernel
theorem dX7_giftOf_35 : decode cX7_giftOf 35 = .ok (.aload 4, 2) := by decide +kernel
theorem dX7_giftOf_37 : decode cX7_giftOf 37 = .ok (.getfield 173, 3) := by decide +kernel
theorem dX7_giftOf_40 : decode cX7_giftOf 40 = .ok (.aload_n 2, 1) := by decide +kernel
theorem dX7_giftOf_41 : decode cX7_giftOf 41 = .ok (.if_acmp .ne 5, 3) := by decide +kernel
theorem dX7_giftOf_44 : decode cX7_giftOf 44 = .ok (.iload_n 3, 1) := by decide +kernel
theorem dX7_giftOf_45 : decode cX7_giftOf 45 = .ok (.ireturn, 1) := by decide +kernel
theorem dX7_giftOf_46 : decode cX7_giftOf 46 = .ok (.iinc 3 1, 3) := by decide +kernel
theorem dX7_giftOf_49 : decode cX7_giftOf 49 = .ok (.goto (-47), 3) := by decide +kernel
theorem dX7_giftOf_52 : decode cX7_giftOf 52 = .ok (.iconst (-1), 1) := by decide +kernel
theorem dX7_giftOf_53 : decode cX7_giftOf 53 = .ok (.ireturn, 1) := by decide +kernel
theorem dX7_takeBack_0 : decode cX7_takeBack 0 = .ok (.iload_n 1, 1) := by decide +kernel
theorem dX7_takeBack_1 : decode cX7_takeBack 1 = .ok (.iconst 0, 1) := by decide +kernel
theorem dX7_takeBack_2 : decode cX7_takeBack 2 = .ok (.aload_n 0, 1) := by decide +kernel
theorem dX7_takeBack_3 : decode cX7_takeBack 3 = .ok (.getfield 31, 3) := by decide +kernel
theorem dX7_takeBack_6 : decode cX7_takeBack 6 = .ok (.invokevirtual 83, 3) := by decide +kernel
theorem dX7_takeBack_9 : decode cX7_takeBack 9 = .ok (.iconst 1, 1) := by decide +kernel
theorem dX7_takeBack_10 : decode cX7_takeBack 10 = .ok (.isub, 1) := by decide +kernel
theorem dX7_takeBack_11 : decode cX7_takeBack 11 = .ok (.invokestatic 59, 3) := by decide +kernel
theorem dX7_takeBack_14 : decode cX7_takeBack 14 = .ok (.ifCond .ne 4, 3) := by decide +kernel
theorem dX7_takeBack_17 : decode cX7_takeBack 17 = .ok (.return_, 1) := by decide +kernel
theorem dX7_takeBack_18 : decode cX7_takeBack 18 = .ok (.aload_n 0, 1) := by decide +kernel
theorem dX7_takeBack_19 : decode cX7_takeBack 19 = .ok (.getfield 31, 3) := by decide +kernel
theorem dX7_takeBack_22 : decode cX7_takeBack 22 = .ok (.iload_n 1, 1) := by decide +kernel
theorem dX7_takeBack_23 : decode cX7_takeBack 23 = .ok (.invokevirtual 339, 3) := by decide +kernel
theorem dX7_takeBack_26 : decode cX7_takeBack 26 = .ok (.checkcast 156, 3) := by decide +kernel
theorem dX7_takeBack_29 : decode cX7_takeBack 29 = .ok (.astore_n 2, 1) := by decide +kernel
theorem dX7_takeBack_30 : decode cX7_takeBack 30 = .ok (.aload_n 2, 1) := by decide +kernel
theorem dX7_takeBack_31 : decode cX7_takeBack 31 = .ok (.getfield 335, 3) := by decide +kernel
theorem dX7_takeBack_34 : decode cX7_takeBack 34 = .ok (.dup, 1) := by decide +kernel
end
section
theorem dX7_takeBack_35 : decode cX7_takeBack 35 = .ok (.getfield 161, 3) := by decide +kernel
theorem dX7_takeBack_38 : decode cX7_takeBack 38 = .ok (.iconst 1, 1) := by decide +kernel
theorem dX7_takeBack_39 : decode cX7_takeBack 39 = .ok (.isub, 1) := by decide +kernel
theorem dX7_takeBack_40 : decode cX7_takeBack 40 = .ok (.putfield 161, 3) := by decide +kernel
theorem dX7_takeBack_43 : decode cX7_takeBack 43 = .ok (.aload_n 2, 1) := by decide +kernel
theorem dX7_takeBack_44 : decode cX7_takeBack 44 = .ok (.getfield 173, 3) := by decide +kernel
theorem dX7_takeBack_47 : decode cX7_takeBack 47 = .ok (.dup, 1) := by decide +kernel
theorem dX7_takeBack_48 : decode cX7_takeBack 48 = .ok (.getfield 163, 3) := by decide +kernel
theorem dX7_takeBack_51 : decode cX7_takeBack 51 = .ok (.aload_n 2, 1) := by decide +kernel
theorem dX7_takeBack_52 : decode cX7_takeBack 52 = .ok (.getfield 335, 3) := by decide +kernel
theorem dX7_takeBack_55 : decode cX7_takeBack 55 = .ok (.getfield 166, 3) := by decide +kernel
theorem dX7_takeBack_58 : decode cX7_takeBack 58 = .ok (.iconst (-1), 1) := by decide +kernel
theorem dX7_takeBack_59 : decode cX7_takeBack 59 = .ok (.ixor, 1) := by decide +kernel
theorem dX7_takeBack_60 : decode cX7_takeBack 60 = .ok (.iand, 1) := by decide +kernel
theorem dX7_takeBack_61 : decode cX7_takeBack 61 = .ok (.putfield 163, 3) := by decide +kernel
theorem dX7_takeBack_64 : decode cX7_takeBack 64 = .ok (.return_, 1) := by decide +kernel
theorem dX7_layToRest_0 : decode cX7_layToRest 0 = .ok (.aload_n 1, 1) := by decide +kernel
theorem dX7_layToRest_1 : decode cX7_layToRest 1 = .ok (.iconst 1, 1) := by decide +kernel
theorem dX7_layToRest_2 : decode cX7_layToRest 2 = .ok (.putfield 144, 3) := by decide +kernel
theorem dX7_layToRest_5 : decode cX7_layToRest 5 = .ok (.aload_n 0, 1) := by decide +kernel
theorem dX7_layToRest_6 : decode cX7_layToRest 6 = .ok (.getfield 31, 3) := by decide +kernel
theorem dX7_layToRest_9 : decode cX7_layToRest 9 = .ok (.invokevirtual 83, 3) := by decide +kernel
theorem dX7_layToRest_12 : decode cX7_layToRest 12 = .ok (.iconst 1, 1) := by decide +kernel
theorem dX7_layToRest_13 : decode cX7_layToRest 13 = .ok (.isub, 1) := by decide +kernel
theorem dX7_layToRest_14 : decode cX7_layToRest 14 = .ok (.istore_n 2, 1) := by decide +kernel
theorem dX7_layToRest_15 : decode cX7_layToRest 15 = .ok (.iload_n 2, 1) := by decide +kernel
theorem dX7_layToRest_16 : decode cX7_layToRest 16 = .ok (.ifCond .lt 32, 3) := by decide +kernel
theorem dX7_layToRest_19 : decode cX7_layToRest 19 = .ok (.aload_n 0, 1) := by decide +kernel
theorem dX7_layToRest_20 : decode cX7_layToRest 20 = .ok (.getfield 31, 3) := by decide +kernel
theorem dX7_layToRest_23 : decode cX7_layToRest 23 = .ok (.iload_n 2, 1) := by decide +kernel
theorem dX7_layToRest_24 : decode cX7_layToRest 24 = .ok (.invokevirtual 169, 3) := by decide +kernel
theorem dX7_layToRest_27 : decode cX7_layToRest 27 = .ok (.checkcast 156, 3) := by decide +kernel
theorem dX7_layToRest_30 : decode cX7_layToRest 30 = .ok (.getfield 335, 3) := by decide +kernel
theorem dX7_layToRest_33 : decode cX7_layToRest 33 = .ok (.aload_n 1, 1) := by decide +kernel
theorem dX7_layToRest_34 : decode cX7_layToRest 34 = .ok (.if_acmp .ne 8, 3) := by decide +kernel
theorem dX7_layToRest_37 : decode cX7_layToRest 37 = .ok (.aload_n 0, 1) := by decide +kernel
theorem dX7_layToRest_38 : decode cX7_layToRest 38 = .ok (.iload_n 2, 1) := by decide +kernel
theorem dX7_layToRest_39 : decode cX7_layToRest 39 = .ok (.invokevirtual 177, 3) := by decide +kernel
theorem dX7_layToRest_42 : decode cX7_layToRest 42 = .ok (.iinc 2 (-1), 3) := by decide +kernel
theorem dX7_layToRest_45 : decode cX7_layToRest 45 = .ok (.goto (-30), 3) := by decide +kernel
theorem dX7_layToRest_48 : decode cX7_layToRest 48 = .ok (.return_, 1) := by decide +kernel
theorem dX7_settle_0 : decode cX7_settle 0 = .ok (.aload_n 1, 1) := by decide +kernel
theorem dX7_settle_1 : decode cX7_settle 1 = .ok (.invokevirtual 190, 3) := by decide +kernel
theorem dX7_settle_4 : decode cX7_settle 4 = .ok (.astore_n 2, 1) := by decide +kernel
theorem dX7_settle_5 : decode cX7_settle 5 = .ok (.aload_n 2, 1) := by decide +kernel
theorem dX7_settle_6 : decode cX7_settle 6 = .ok (.invokevirtual 247, 3) := by decide +kernel
theorem dX7_settle_9 : decode cX7_settle 9 = .ok (.aload_n 2, 1) := by decide +kernel
theorem dX7_settle_10 : decode cX7_settle 10 = .ok (.getfield 231, 3) := by decide +kernel
theorem dX7_settle_13 : decode cX7_settle 13 = .ok (.if_icmp .ge 4, 3) := by decide +kernel
theorem dX7_settle_16 : decode cX7_settle 16 = .ok (.return_, 1) := by decide +kernel
theorem dX7_settle_17 : decode cX7_settle 17 = .ok (.aload_n 2, 1) := by decide +kernel
theorem dX7_settle_18 : decode cX7_settle 18 = .ok (.invokevirtual 342, 3) := by decide +kernel
theorem dX7_settle_21 : decode cX7_settle 21 = .ok (.ifCond .ne 15, 3) := by decide +kernel
theorem dX7_settle_24 : decode cX7_settle 24 = .ok (.aload_n 2, 1) := by decide +kernel
theorem dX7_settle_25 : decode cX7_settle 25 = .ok (.invokevirtual 345, 3) := by decide +kernel
theorem dX7_settle_28 : decode cX7_settle 28 = .ok (.ifCond .eq 8, 3) := by decide +kernel
theorem dX7_settle_31 : decode cX7_settle 31 = .ok (.aload_n 2, 1) := by decide +kernel
theorem dX7_settle_32 : decode cX7_settle 32 = .ok (.invokevirtual 348, 3) := by decide +kernel
theorem dX7_settle_35 : decode cX7_settle 35 = .ok (.return_, 1) := by decide +kernel
theorem dX7_settle_36 : decode cX7_settle 36 = .ok (.aload_n 1, 1) := by decide +kernel
theorem dX7_settle_37 : decode cX7_settle 37 = .ok (.invokevirtual 351, 3) := by decide +kernel
theorem dX7_settle_40 : decode cX7_settle 40 = .ok (.aload_n 0, 1) := by decide +kernel
theorem dX7_settle_41 : decode cX7_settle 41 = .ok (.dup, 1) := by decide +kernel
theorem dX7_settle_42 : decode cX7_settle 42 = .ok (.getfield 52, 3) := by decide +kernel
theorem dX7_settle_45 : decode cX7_settle 45 = .ok (.iconst 1, 1) := by decide +kernel
theorem dX7_settle_46 : decode cX7_settle 46 = .ok (.iadd, 1) := by decide +kernel
theorem dX7_settle_47 : decode cX7_settle 47 = .ok (.putfield 52, 3) := by decide +kernel
theorem dX7_settle_50 : decode cX7_settle 50 = .ok (.aload_n 0, 1) := by decide +kernel
theorem dX7_settle_51 : decode cX7_settle 51 = .ok (.invokevirtual 261, 3) := by decide +kernel
theorem dX7_settle_54 : decode cX7_settle 54 = .ok (.return_, 1) := by decide +kernel
theorem dX7_restDoubtedJudges_0 : decode cX7_restDoubtedJudges 0 = .ok (.aload_n 0, 1) := by decide +kernel
theorem dX7_restDoubtedJudges_1 : decode cX7_restDoubtedJudges 1 = .ok (.getfield 17, 3) := by decide +kernel
theorem dX7_restDoubtedJudges_4 : decode cX7_restDoubtedJudges 4 = .ok (.astore_n 1, 1) := by decide +kernel
theorem dX7_restDoubtedJudges_5 : decode cX7_restDoubtedJudges 5 = .ok (.aload_n 1, 1) := by decide +kernel
theorem dX7_restDoubtedJudges_6 : decode cX7_restDoubtedJudges 6 = .ok (.arraylength, 1) := by decide +kernel
theorem dX7_restDoubtedJudges_7 : decode cX7_restDoubtedJudges 7 = .ok (.istore_n 2, 1) := by decide +kernel
theorem dX7_restDoubtedJudges_8 : decode cX7_restDoubtedJudges 8 = .ok (.iconst 0, 1) := by decide +kernel
theorem dX7_restDoubtedJudges_9 : decode cX7_restDoubtedJudges 9 = .ok (.istore_n 3, 1) := by decide +kernel
theorem dX7_restDoubtedJudges_10 : decode cX7_restDoubtedJudges 10 = .ok (.iload_n 3, 1) := by decide +kernel
theorem dX7_restDoubtedJudges_11 : decode cX7_restDoubtedJudges 11 = .ok (.iload_n 2, 1) := by decide +kernel
theorem dX7_restDoubtedJudges_12 : decode cX7_restDoubtedJudges 12 = .ok (.if_icmp .ge 53, 3) := by decide +kernel
theorem dX7_restDoubtedJudges_15 : decode cX7_restDoubtedJudges 15 = .ok (.aload_n 1, 1) := by decide +kernel
theorem dX7_restDoubtedJudges_16 : decode cX7_restDoubtedJudges 16 = .ok (.iload_n 3, 1) := by decide +kernel
theorem dX7_restDoubtedJudges_17 : decode cX7_restDoubtedJudges 17 = .ok (.aaload, 1) := by decide +kernel
theorem dX7_restDoubtedJudges_18 : decode cX7_restDoubtedJudges 18 = .ok (.astore 4, 2) := by decide +kernel
theorem dX7_restDoubtedJudges_20 : decode cX7_restDoubtedJudges 20 = .ok (.aload_n 0, 1) := by decide +kernel
theorem dX7_restDoubtedJudges_21 : decode cX7_restDoubtedJudges 21 = .ok (.aload 4, 2) := by decide +kernel
theorem dX7_restDoubtedJudges_23 : decode cX7_restDoubtedJudges 23 = .ok (.invokevirtual 210, 3) := by decide +kernel
theorem dX7_restDoubtedJudges_26 : decode cX7_restDoubtedJudges 26 = .ok (.istore 5, 2) := by decide +kernel
theorem dX7_restDoubtedJudges_28 : decode cX7_restDoubtedJudges 28 = .ok (.iload 5, 2) := by decide +kernel
theorem dX7_restDoubtedJudges_30 : decode cX7_restDoubtedJudges 30 = .ok (.iconst 5, 1) := by decide +kernel
theorem dX7_restDoubtedJudges_31 : decode cX7_restDoubtedJudges 31 = .ok (.if_icmp .lt 28, 3) := by decide +kernel
theorem dX7_restDoubtedJudges_34 : decode cX7_restDoubtedJudges 34 = .ok (.aload_n 0, 1) := by decide +kernel
theorem dX7_restDoubtedJudges_35 : decode cX7_restDoubtedJudges 35 = .ok (.aload 4, 2) := by decide +kernel
theorem dX7_restDoubtedJudges_37 : decode cX7_restDoubtedJudges 37 = .ok (.invokevirtual 214, 3) := by decide +kernel
theorem dX7_restDoubtedJudges_40 : decode cX7_restDoubtedJudges 40 = .ok (.bipush 100, 2) := by decide +kernel
theorem dX7_restDoubtedJudges_42 : decode cX7_restDoubtedJudges 42 = .ok (.imul, 1) := by decide +kernel
theorem dX7_restDoubtedJudges_43 : decode cX7_restDoubtedJudges 43 = .ok (.aload_n 0, 1) := by decide +kernel
theorem dX7_restDoubtedJudges_44 : decode cX7_restDoubtedJudges 44 = .ok (.getfield 49, 3) := by decide +kernel
theorem dX7_restDoubtedJudges_47 : decode cX7_restDoubtedJudges 47 = .ok (.iload 5, 2) := by decide +kernel
theorem dX7_restDoubtedJudges_49 : decode cX7_restDoubtedJudges 49 = .ok (.imul, 1) := by decide +kernel
theorem dX7_restDoubtedJudges_50 : decode cX7_restDoubtedJudges 50 = .ok (.if_icmp .le 9, 3) := by decide +kernel
theorem dX7_restDoubtedJudges_53 : decode cX7_restDoubtedJudges 53 = .ok (.aload_n 0, 1) := by decide +kernel
theorem dX7_restDoubtedJudges_54 : decode cX7_restDoubtedJudges 54 = .ok (.aload 4, 2) := by decide +kernel
theorem dX7_restDoubtedJudges_56 : decode cX7_restDoubtedJudges 56 = .ok (.invokevirtual 148, 3) := by decide +kernel
theorem dX7_restDoubtedJudges_59 : decode cX7_restDoubtedJudges 59 = .ok (.iinc 3 1, 3) := by decide +kernel
theorem dX7_restDoubtedJudges_62 : decode cX7_restDoubtedJudges 62 = .ok (.goto (-52), 3) := by decide +kernel
theorem dX7_restDoubtedJudges_65 : decode cX7_restDoubtedJudges 65 = .ok (.return_, 1) := by decide +kernel
theorem dX7_askedOf_0 : decode cX7_askedOf 0 = .ok (.iconst 0, 1) := by decide +kernel
theorem dX7_askedOf_1 : decode cX7_askedOf 1 = .ok (.istore_n 2, 1) := by decide +kernel
theorem dX7_askedOf_2 : decode cX7_askedOf 2 = .ok (.iconst 0, 1) := by decide +kernel
theorem dX7_askedOf_3 : decode cX7_askedOf 3 = .ok (.istore_n 3, 1) := by decide +kernel
theorem dX7_askedOf_4 : decode cX7_askedOf 4 = .ok (.iload_n 3, 1) := by decide +kernel
theorem dX7_askedOf_5 : decode cX7_askedOf 5 = .ok (.aload_n 0, 1) := by decide +kernel
theorem dX7_askedOf_6 : decode cX7_askedOf 6 = .ok (.getfield 28, 3) := by decide +kernel
theorem dX7_askedOf_9 : decode cX7_askedOf 9 = .ok (.invokevirtual 83, 3) := by decide +kernel
theorem dX7_askedOf_12 : decode cX7_askedOf 12 = .ok (.if_icmp .ge 38, 3) := by decide +kernel
theorem dX7_askedOf_15 : decode cX7_askedOf 15 = .ok (.iload_n 2, 1) := by decide +kernel
theorem dX7_askedOf_16 : decode cX7_askedOf 16 = .ok (.aload_n 0, 1) := by decide +kernel
theorem dX7_askedOf_17 : decode cX7_askedOf 17 = .ok (.getfield 28, 3) := by decide +kernel
theorem dX7_askedOf_20 : decode cX7_askedOf 20 = .ok (.iload_n 3, 1) := by decide +kernel
theorem dX7_askedOf_21 : decode cX7_askedOf 21 = .ok (.invokevirtual 169, 3) := by decide +kernel
theorem dX7_askedOf_24 : decode cX7_askedOf 24 = .ok (.checkcast 105, 3) := by decide +kernel
theorem dX7_askedOf_27 : decode cX7_askedOf 27 = .ok (.aload_n 1, 1) := by decide +kernel
theorem dX7_askedOf_28 : decode cX7_askedOf 28 = .ok (.invokevirtual 354, 3) := by decide +kernel
theorem dX7_askedOf_31 : decode cX7_askedOf 31 = .ok (.ifCond .eq 7, 3) := by decide +kernel
theorem dX7_askedOf_34 : decode cX7_askedOf 34 = .ok (.iconst 1, 1) := by decide +kernel
theorem dX7_askedOf_35 : decode cX7_askedOf 35 = .ok (.goto 4, 3) := by decide +kernel
theorem dX7_askedOf_38 : decode cX7_askedOf 38 = .ok (.iconst 0, 1) := by decide +kernel
theorem dX7_askedOf_39 : decode cX7_askedOf 39 = .ok (.invokestatic 136, 3) := by decide +kernel
theorem dX7_askedOf_42 : decode cX7_askedOf 42 = .ok (.iadd, 1) := by decide +kernel
theorem dX7_askedOf_43 : decode cX7_askedOf 43 = .ok (.istore_n 2, 1) := by decide +kernel
theorem dX7_askedOf_44 : decode cX7_askedOf 44 = .ok (.iinc 3 1, 3) := by decide +kernel
theorem dX7_askedOf_47 : decode cX7_askedOf 47 = .ok (.goto (-43), 3) := by decide +kernel
theorem dX7_askedOf_50 : decode cX7_askedOf 50 = .ok (.iload_n 2, 1) := by decide +kernel
theorem dX7_askedOf_51 : decode cX7_askedOf 51 = .ok (.ireturn, 1) := by decide +kernel
theorem dX7_stoodAlone_0 : decode cX7_stoodAlone 0 = .ok (.iconst 0, 1) := by decide +kernel
theorem dX7_stoodAlone_1 : decode cX7_stoodAlone 1 = .ok (.istore_n 2, 1) := by decide +kernel
theorem dX7_stoodAlone_2 : decode cX7_stoodAlone 2 = .ok (.iconst 0, 1) := by decide +kernel
theorem dX7_stoodAlone_3 : decode cX7_stoodAlone 3 = .ok (.istore_n 3, 1) := by decide +kernel
theorem dX7_stoodAlone_4 : decode cX7_stoodAlone 4 = .ok (.iload_n 3, 1) := by decide +kernel
theorem dX7_stoodAlone_5 : decode cX7_stoodAlone 5 = .ok (.aload_n 0, 1) := by decide +kernel
theorem dX7_stoodAlone_6 : decode cX7_stoodAlone 6 = .ok (.getfield 28, 3) := by decide +kernel
theorem dX7_stoodAlone_9 : decode cX7_stoodAlone 9 = .ok (.invokevirtual 83, 3) := by decide +kernel
theorem dX7_stoodAlone_12 : decode cX7_stoodAlone 12 = .ok (.if_icmp .ge 39, 3) := by decide +kernel
theorem dX7_stoodAlone_15 : decode cX7_stoodAlone 15 = .ok (.iload_n 2, 1) := by decide +kernel
theorem dX7_stoodAlone_16 : decode cX7_stoodAlone 16 = .ok (.aload_n 0, 1) := by decide +kernel
theorem dX7_stoodAlone_17 : decode cX7_stoodAlone 17 = .ok (.getfield 28, 3) := by decide +kernel
theorem dX7_stoodAlone_20 : decode cX7_stoodAlone 20 = .ok (.iload_n 3, 1) := by decide +kernel
theorem dX7_stoodAlone_21 : decode cX7_stoodAlone 21 = .ok (.invokevirtual 169, 3) := by decide +kernel
theorem dX7_stoodAlone_24 : decode cX7_stoodAlone 24 = .ok (.checkcast 105, 3) := by decide +kernel
theorem dX7_stoodAlone_27 : decode cX7_stoodAlone 27 = .ok (.aload_n 1, 1) := by decide +kernel
theorem dX7_stoodAlone_28 : decode cX7_stoodAlone 28 = .ok (.invokevirtual 354, 3) := by decide +kernel
theorem dX7_stoodAlone_31 : decode cX7_stoodAlone 31 = .ok (.iconst 2, 1) := by decide +kernel
theorem dX7_stoodAlone_32 : decode cX7_stoodAlone 32 = .ok (.if_icmp .ne 7, 3) := by decide +kernel
theorem dX7_stoodAlone_35 : decode cX7_stoodAlone 35 = .ok (.iconst 1, 1) := by decide +kernel
theorem dX7_stoodAlone_36 : decode cX7_stoodAlone 36 = .ok (.goto 4, 3) := by decide +kernel
theorem dX7_stoodAlone_39 : decode cX7_stoodAlone 39 = .ok (.iconst 0, 1) := by decide +kernel
theorem dX7_stoodAlone_40 : decode cX7_stoodAlone 40 = .ok (.invokestatic 136, 3) := by decide +kernel
theorem dX7_stoodAlone_43 : decode cX7_stoodAlone 43 = .ok (.iadd, 1) := by decide +kernel
theorem dX7_stoodAlone_44 : decode cX7_stoodAlone 44 = .ok (.istore_n 2, 1) := by decide +kernel
theorem dX7_stoodAlone_45 : decode cX7_stoodAlone 45 = .ok (.iinc 3 1, 3) := by decide +kernel
theorem dX7_stoodAlone_48 : decode cX7_stoodAlone 48 = .ok (.goto (-44), 3) := by decide +kernel
theorem dX7_stoodAlone_51 : decode cX7_stoodAlone 51 = .ok (.iload_n 2, 1) := by decide +kernel
theorem dX7_stoodAlone_52 : decode cX7_stoodAlone 52 = .ok (.ireturn, 1) := by decide +kernel
theorem dX7_lateBy_0 : decode cX7_lateBy 0 = .ok (.aload_n 1, 1) := by decide +kernel
theorem dX7_lateBy_1 : decode cX7_lateBy 1 = .ok (.invokevirtual 227, 3) := by decide +kernel
theorem dX7_lateBy_4 : decode cX7_lateBy 4 = .ok (.ifCond .eq 21, 3) := by decide +kernel
theorem dX7_lateBy_7 : decode cX7_lateBy 7 = .ok (.aload_n 1, 1) := by decide +kernel
theorem dX7_lateBy_8 : decode cX7_lateBy 8 = .ok (.getfield 357, 3) := by decide +kernel
theorem dX7_lateBy_11 : decode cX7_lateBy 11 = .ok (.iconst 0, 1) := by decide +kernel
theorem dX7_lateBy_12 : decode cX7_lateBy 12 = .ok (.aload_n 0, 1) := by decide +kernel
theorem dX7_lateBy_13 : decode cX7_lateBy 13 = .ok (.getfield 34, 3) := by decide +kernel
theorem dX7_lateBy_16 : decode cX7_lateBy 16 = .ok (.arraylength, 1) := by decide +kernel
theorem dX7_lateBy_17 : decode cX7_lateBy 17 = .ok (.iconst 1, 1) := by decide +kernel
theorem dX7_lateBy_18 : decode cX7_lateBy 18 = .ok (.isub, 1) := by decide +kernel
theorem dX7_lateBy_19 : decode cX7_lateBy 19 = .ok (.invokestatic 59, 3) := by decide +kernel
theorem dX7_lateBy_22 : decode cX7_lateBy 22 = .ok (.ifCond .ne 5, 3) := by decide +kernel
theorem dX7_lateBy_25 : decode cX7_lateBy 25 = .ok (.iconst 0, 1) := by decide +kernel
theorem dX7_lateBy_26 : decode cX7_lateBy 26 = .ok (.ireturn, 1) := by decide +kernel
theorem dX7_lateBy_27 : decode cX7_lateBy 27 = .ok (.iconst 0, 1) := by decide +kernel
theorem dX7_lateBy_28 : decode cX7_lateBy 28 = .ok (.aload_n 0, 1) := by decide +kernel
theorem dX7_lateBy_29 : decode cX7_lateBy 29 = .ok (.getfield 45, 3) := by decide +kernel
theorem dX7_lateBy_32 : decode cX7_lateBy 32 = .ok (.aload_n 1, 1) := by decide +kernel
theorem dX7_lateBy_33 : decode cX7_lateBy 33 = .ok (.getfield 358, 3) := by decide +kernel
theorem dX7_lateBy_36 : decode cX7_lateBy 36 = .ok (.isub, 1) := by decide +kernel
theorem dX7_lateBy_37 : decode cX7_lateBy 37 = .ok (.aload_n 0, 1) := by decide +kernel
theorem dX7_lateBy_38 : decode cX7_lateBy 38 = .ok (.getfield 34, 3) := by decide +kernel
theorem dX7_lateBy_41 : decode cX7_lateBy 41 = .ok (.aload_n 1, 1) := by decide +kernel
theorem dX7_lateBy_42 : decode cX7_lateBy 42 = .ok (.getfield 357, 3) := by decide +kernel
theorem dX7_lateBy_45 : decode cX7_lateBy 45 = .ok (.iaload, 1) := by decide +kernel
theorem dX7_lateBy_46 : decode cX7_lateBy 46 = .ok (.isub, 1) := by decide +kernel
theorem dX7_lateBy_47 : decode cX7_lateBy 47 = .ok (.invokestatic 361, 3) := by decide +kernel
theorem dX7_lateBy_50 : decode cX7_lateBy 50 = .ok (.ireturn, 1) := by decide +kernel
theorem dX7_alike_0 : decode cX7_alike 0 = .ok (.iconst 0, 1) := by decide +kernel
theorem dX7_alike_1 : decode cX7_alike 1 = .ok (.istore 4, 2) := by decide +kernel
theorem dX7_alike_3 : decode cX7_alike 3 = .ok (.iconst 0, 1) := by decide +kernel
theorem dX7_alike_4 : decode cX7_alike 4 = .ok (.istore 5, 2) := by decide +kernel
theorem dX7_alike_6 : decode cX7_alike 6 = .ok (.iload 5, 2) := by decide +kernel
theorem dX7_alike_8 : decode cX7_alike 8 = .ok (.aload_n 0, 1) := by decide +kernel
theorem dX7_alike_9 : decode cX7_alike 9 = .ok (.getfield 28, 3) := by decide +kernel
theorem dX7_alike_12 : decode cX7_alike 12 = .ok (.invokevirtual 83, 3) := by decide +kernel
theorem dX7_alike_15 : decode cX7_alike 15 = .ok (.if_icmp .ge 51, 3) := by decide +kernel
theorem dX7_alike_18 : decode cX7_alike 18 = .ok (.aload_n 0, 1) := by decide +kernel
theorem dX7_alike_19 : decode cX7_alike 19 = .ok (.getfield 28, 3) := by decide +kernel
theorem dX7_alike_22 : decode cX7_alike 22 = .ok (.iload 5, 2) := by decide +kernel
theorem dX7_alike_24 : decode cX7_alike 24 = .ok (.invokevirtual 169, 3) := by decide +kernel
theorem dX7_alike_27 : decode cX7_alike 27 = .ok (.checkcast 105, 3) := by decide +kernel
theorem dX7_alike_30 : decode cX7_alike 30 = .ok (.astore 6, 2) := by decide +kernel
theorem dX7_alike_32 : decode cX7_alike 32 = .ok (.aload 6, 2) := by decide +kernel
theorem dX7_alike_34 : decode cX7_alike 34 = .ok (.aload_n 1, 1) := by decide +kernel
theorem dX7_alike_35 : decode cX7_alike 35 = .ok (.if_acmp .eq 25, 3) := by decide +kernel
theorem dX7_alike_38 : decode cX7_alike 38 = .ok (.aload 6, 2) := by decide +kernel
theorem dX7_alike_40 : decode cX7_alike 40 = .ok (.aload_n 1, 1) := by decide +kernel
theorem dX7_alike_41 : decode cX7_alike 41 = .ok (.iload_n 2, 1) := by decide +kernel
theorem dX7_alike_42 : decode cX7_alike 42 = .ok (.invokevirtual 364, 3) := by decide +kernel
theorem dX7_alike_45 : decode cX7_alike 45 = .ok (.ifCond .eq 15, 3) := by decide +kernel
theorem dX7_alike_48 : decode cX7_alike 48 = .ok (.aload 6, 2) := by decide +kernel
theorem dX7_alike_50 : decode cX7_alike 50 = .ok (.invokevirtual 368, 3) := by decide +kernel
theorem dX7_alike_53 : decode cX7_alike 53 = .ok (.iload_n 3, 1) := by decide +kernel
theorem dX7_alike_54 : decode cX7_alike 54 = .ok (.if_icmp .ne 6, 3) := by decide +kernel
theorem dX7_alike_57 : decode cX7_alike 57 = .ok (.iinc 4 1, 3) := by decide +kernel
theorem dX7_alike_60 : decode cX7_alike 60 = .ok (.iinc 5 1, 3) := by decide +kernel
theorem dX7_alike_63 : decode cX7_alike 63 = .ok (.goto (-57), 3) := by decide +kernel
theorem dX7_alike_66 : decode cX7_alike 66 = .ok (.iload 4, 2) := by decide +kernel
theorem dX7_alike_68 : decode cX7_alike 68 = .ok (.ireturn, 1) := by decide +kernel
theorem dX7_undecidedCases_0 : decode cX7_undecidedCases 0 = .ok (.iconst 0, 1) := by decide +kernel
theorem dX7_undecidedCases_1 : decode cX7_undecidedCases 1 = .ok (.istore_n 1, 1) := by decide +kernel
theorem dX7_undecidedCases_2 : decode cX7_undecidedCases 2 = .ok (.iconst 0, 1) := by decide +kernel
theorem dX7_undecidedCases_3 : decode cX7_undecidedCases 3 = .ok (.istore_n 2, 1) := by decide +kernel
theorem dX7_undecidedCases_4 : decode cX7_undecidedCases 4 = .ok (.iload_n 2, 1) := by decide +kernel
theorem dX7_undecidedCases_5 : decode cX7_undecidedCases 5 = .ok (.aload_n 0, 1) := by decide +kernel
theorem dX7_undecidedCases_6 : decode cX7_undecidedCases 6 = .ok (.getfield 28, 3) := by decide +kernel
theorem dX7_undecidedCases_9 : decode cX7_undecidedCases 9 = .ok (.invokevirtual 83, 3) := by decide +kernel
theorem dX7_undecidedCases_12 : decode cX7_undecidedCases 12 = .ok (.if_icmp .ge 29, 3) := by decide +kernel
theorem dX7_undecidedCases_15 : decode cX7_undecidedCases 15 = .ok (.iload_n 1, 1) := by decide +kernel
theorem dX7_undecidedCases_16 : decode cX7_undecidedCases 16 = .ok (.aload_n 0, 1) := by decide +kernel
theorem dX7_undecidedCases_17 : decode cX7_undecidedCases 17 = .ok (.getfield 28, 3) := by decide +kernel
theorem dX7_undecidedCases_20 : decode cX7_undecidedCases 20 = .ok (.iload_n 2, 1) := by decide +kernel
theorem dX7_undecidedCases_21 : decode cX7_undecidedCases 21 = .ok (.invokevirtual 169, 3) := by decide +kernel
theorem dX7_undecidedCases_24 : decode cX7_undecidedCases 24 = .ok (.checkcast 105, 3) := by decide +kernel
theorem dX7_undecidedCases_27 : decode cX7_undecidedCases 27 = .ok (.invokevirtual 227, 3) := by decide +kernel
theorem dX7_undecidedCases_30 : decode cX7_undecidedCases 30 = .ok (.invokestatic 136, 3) := by decide +kernel
theorem dX7_undecidedCases_33 : decode cX7_undecidedCases 33 = .ok (.iadd, 1) := by decide +kernel
theorem dX7_undecidedCases_34 : decode cX7_undecidedCases 34 = .ok (.istore_n 1, 1) := by decide +kernel
theorem dX7_undecidedCases_35 : decode cX7_undecidedCases 35 = .ok (.iinc 2 1, 3) := by decide +kernel
theorem dX7_undecidedCases_38 : decode cX7_undecidedCases 38 = .ok (.goto (-34), 3) := by decide +kernel
theorem dX7_undecidedCases_41 : decode cX7_undecidedCases 41 = .ok (.iload_n 1, 1) := by decide +kernel
theorem dX7_undecidedCases_42 : decode cX7_undecidedCases 42 = .ok (.ireturn, 1) := by decide +kernel
theorem dX7_climbLadder_0 : decode cX7_climbLadder 0 = .ok (.aload_n 0, 1) := by decide +kernel
theorem dX7_climbLadder_1 : decode cX7_climbLadder 1 = .ok (.getfield 41, 3) := by decide +kernel
theorem dX7_climbLadder_4 : decode cX7_climbLadder 4 = .ok (.invokevirtual 371, 3) := by decide +kernel
theorem dX7_climbLadder_7 : decode cX7_climbLadder 7 = .ok (.iconst 0, 1) := by decide +kernel
theorem dX7_climbLadder_8 : decode cX7_climbLadder 8 = .ok (.istore_n 3, 1) := by decide +kernel
theorem dX7_climbLadder_9 : decode cX7_climbLadder 9 = .ok (.iload_n 3, 1) := by decide +kernel
theorem dX7_climbLadder_10 : decode cX7_climbLadder 10 = .ok (.aload_n 0, 1) := by decide +kernel
theorem dX7_climbLadder_11 : decode cX7_climbLadder 11 = .ok (.getfield 24, 3) := by decide +kernel
theorem dX7_climbLadder_14 : decode cX7_climbLadder 14 = .ok (.invokevirtual 83, 3) := by decide +kernel
theorem dX7_climbLadder_17 : decode cX7_climbLadder 17 = .ok (.if_icmp .ge 87, 3) := by decide +kernel
theorem dX7_climbLadder_20 : decode cX7_climbLadder 20 = .ok (.aload_n 0, 1) := by decide +kernel
theorem dX7_climbLadder_21 : decode cX7_climbLadder 21 = .ok (.getfield 24, 3) := by decide +kernel
theorem dX7_climbLadder_24 : decode cX7_climbLadder 24 = .ok (.iload_n 3, 1) := by decide +kernel
theorem dX7_climbLadder_25 : decode cX7_climbLadder 25 = .ok (.invokevirtual 169, 3) := by decide +kernel
theorem dX7_climbLadder_28 : decode cX7_climbLadder 28 = .ok (.checkcast 87, 3) := by decide +kernel
theorem dX7_climbLadder_31 : decode cX7_climbLadder 31 = .ok (.astore 4, 2) := by decide +kernel
theorem dX7_climbLadder_33 : decode cX7_climbLadder 33 = .ok (.aload 4, 2) := by decide +kernel
theorem dX7_climbLadder_35 : decode cX7_climbLadder 35 = .ok (.getfield 298, 3) := by decide +kernel
theorem dX7_climbLadder_38 : decode cX7_climbLadder 38 = .ok (.iload_n 1, 1) := by decide +kernel
theorem dX7_climbLadder_39 : decode cX7_climbLadder 39 = .ok (.if_icmp .eq 6, 3) := by decide +kernel
theorem dX7_climbLadder_42 : decode cX7_climbLadder 42 = .ok (.goto 56, 3) := by decide +kernel
theorem dX7_climbLadder_45 : decode cX7_climbLadder 45 = .ok (.aload 4, 2) := by decide +kernel
theorem dX7_climbLadder_47 : decode cX7_climbLadder 47 = .ok (.getfield 374, 3) := by decide +kernel
theorem dX7_climbLadder_50 : decode cX7_climbLadder 50 = .ok (.astore 5, 2) := by decide +kernel
theorem dX7_climbLadder_52 : decode cX7_climbLadder 52 = .ok (.aload 5, 2) := by decide +kernel
theorem dX7_climbLadder_54 : decode cX7_climbLadder 54 = .ok (.ifnull 44, 3) := by decide +kernel
theorem dX7_climbLadder_57 : decode cX7_climbLadder 57 = .ok (.aload 5, 2) := by decide +kernel
theorem dX7_climbLadder_59 : decode cX7_climbLadder 59 = .ok (.invokevirtual 295, 3) := by decide +kernel
theorem dX7_climbLadder_62 : decode cX7_climbLadder 62 = .ok (.ifCond .eq 19, 3) := by decide +kernel
theorem dX7_climbLadder_65 : decode cX7_climbLadder 65 = .ok (.aload_n 0, 1) := by decide +kernel
theorem dX7_climbLadder_66 : decode cX7_climbLadder 66 = .ok (.getfield 41, 3) := by decide +kernel
theorem dX7_climbLadder_69 : decode cX7_climbLadder 69 = .ok (.aload 4, 2) := by decide +kernel
theorem dX7_climbLadder_71 : decode cX7_climbLadder 71 = .ok (.getfield 377, 3) := by decide +kernel
theorem dX7_climbLadder_74 : decode cX7_climbLadder 74 = .ok (.aload_n 0, 1) := by decide +kernel
theorem dX7_climbLadder_75 : decode cX7_climbLadder 75 = .ok (.getfield 45, 3) := by decide +kernel
theorem dX7_climbLadder_78 : decode cX7_climbLadder 78 = .ok (.invokevirtual 380, 3) := by decide +kernel
theorem dX7_climbLadder_81 : decode cX7_climbLadder 81 = .ok (.aload 5, 2) := by decide +kernel
theorem dX7_climbLadder_83 : decode cX7_climbLadder 83 = .ok (.aload_n 2, 1) := by decide +kernel
theorem dX7_climbLadder_84 : decode cX7_climbLadder 84 = .ok (.if_acmp .ne 4, 3) := by decide +kernel
theorem dX7_climbLadder_87 : decode cX7_climbLadder 87 = .ok (.return_, 1) := by decide +kernel
theorem dX7_climbLadder_88 : decode cX7_climbLadder 88 = .ok (.aload 5, 2) := by decide +kernel
theorem dX7_climbLadder_90 : decode cX7_climbLadder 90 = .ok (.getfield 384, 3) := by decide +kernel
theorem dX7_climbLadder_93 : decode cX7_climbLadder 93 = .ok (.astore 5, 2) := by decide +kernel
theorem dX7_climbLadder_95 : decode cX7_climbLadder 95 = .ok (.goto (-43), 3) := by decide +kernel
theorem dX7_climbLadder_98 : decode cX7_climbLadder 98 = .ok (.iinc 3 1, 3) := by decide +kernel
theorem dX7_climbLadder_101 : decode cX7_climbLadder 101 = .ok (.goto (-92), 3) := by decide +kernel
theorem dX7_climbLadder_104 : decode cX7_climbLadder 104 = .ok (.return_, 1) := by decide +kernel
theorem dX7_timesWarned_0 : decode cX7_timesWarned 0 = .ok (.iconst 0, 1) := by decide +kernel
theorem dX7_timesWarned_1 : decode cX7_timesWarned 1 = .ok (.istore_n 2, 1) := by decide +kernel
theorem dX7_timesWarned_2 : decode cX7_timesWarned 2 = .ok (.iconst 0, 1) := by decide +kernel
theorem dX7_timesWarned_3 : decode cX7_timesWarned 3 = .ok (.istore_n 3, 1) := by decide +kernel
theorem dX7_timesWarned_4 : decode cX7_timesWarned 4 = .ok (.iload_n 3, 1) := by decide +kernel
theorem dX7_timesWarned_5 : decode cX7_timesWarned 5 = .ok (.aload_n 0, 1) := by decide +kernel
theorem dX7_timesWarned_6 : decode cX7_timesWarned 6 = .ok (.getfield 28, 3) := by decide +kernel
theorem dX7_timesWarned_9 : decode cX7_timesWarned 9 = .ok (.invokevirtual 83, 3) := by decide +kernel
theorem dX7_timesWarned_12 : decode cX7_timesWarned 12 = .ok (.if_icmp .ge 65, 3) := by decide +kernel
theorem dX7_timesWarned_15 : decode cX7_timesWarned 15 = .ok (.aload_n 0, 1) := by decide +kernel
theorem dX7_timesWarned_16 : decode cX7_timesWarned 16 = .ok (.getfield 28, 3) := by decide +kernel
theorem dX7_timesWarned_19 : decode cX7_timesWarned 19 = .ok (.iload_n 3, 1) := by decide +kernel
theorem dX7_timesWarned_20 : decode cX7_timesWarned 20 = .ok (.invokevirtual 169, 3) := by decide +kernel
theorem dX7_timesWarned_23 : decode cX7_timesWarned 23 = .ok (.checkcast 105, 3) := by decide +kernel
theorem dX7_timesWarned_26 : decode cX7_timesWarned 26 = .ok (.astore 4, 2) := by decide +kernel
theorem dX7_timesWarned_28 : decode cX7_timesWarned 28 = .ok (.iload_n 2, 1) := by decide +kernel
theorem dX7_timesWarned_29 : decode cX7_timesWarned 29 = .ok (.aload 4, 2) := by decide +kernel
theorem dX7_timesWarned_31 : decode cX7_timesWarned 31 = .ok (.getfield 217, 3) := by decide +kernel
theorem dX7_timesWarned_34 : decode cX7_timesWarned 34 = .ok (.getfield 298, 3) := by decide +kernel
theorem dX7_timesWarned_37 : decode cX7_timesWarned 37 = .ok (.iload_n 1, 1) := by decide +kernel
theorem dX7_timesWarned_38 : decode cX7_timesWarned 38 = .ok (.if_icmp .ne 27, 3) := by decide +kernel
theorem dX7_timesWarned_41 : decode cX7_timesWarned 41 = .ok (.aload 4, 2) := by decide +kernel
theorem dX7_timesWarned_43 : decode cX7_timesWarned 43 = .ok (.invokevirtual 368, 3) := by decide +kernel
theorem dX7_timesWarned_46 : decode cX7_timesWarned 46 = .ok (.ifCond .eq 19, 3) := by decide +kernel
theorem dX7_timesWarned_49 : decode cX7_timesWarned 49 = .ok (.aload 4, 2) := by decide +kernel
theorem dX7_timesWarned_51 : decode cX7_timesWarned 51 = .ok (.getfield 222, 3) := by decide +kernel
theorem dX7_timesWarned_54 : decode cX7_timesWarned 54 = .ok (.getfield 74, 3) := by decide +kernel
theorem dX7_timesWarned_57 : decode cX7_timesWarned 57 = .ok (.iconst 1, 1) := by decide +kernel
theorem dX7_timesWarned_58 : decode cX7_timesWarned 58 = .ok (.if_icmp .lt 7, 3) := by decide +kernel
theorem dX7_timesWarned_61 : decode cX7_timesWarned 61 = .ok (.iconst 1, 1) := by decide +kernel
theorem dX7_timesWarned_62 : decode cX7_timesWarned 62 = .ok (.goto 4, 3) := by decide +kernel
theorem dX7_timesWarned_65 : decode cX7_timesWarned 65 = .ok (.iconst 0, 1) := by decide +kernel
theorem dX7_timesWarned_66 : decode cX7_timesWarned 66 = .ok (.invokestatic 136, 3) := by decide +kernel
theorem dX7_timesWarned_69 : decode cX7_timesWarned 69 = .ok (.iadd, 1) := by decide +kernel
theorem dX7_timesWarned_70 : decode cX7_timesWarned 70 = .ok (.istore_n 2, 1) := by decide +kernel
theorem dX7_timesWarned_71 : decode cX7_timesWarned 71 = .ok (.iinc 3 1, 3) := by decide +kernel
theorem dX7_timesWarned_74 : decode cX7_timesWarned 74 = .ok (.goto (-70), 3) := by decide +kernel
theorem dX7_timesWarned_77 : decode cX7_timesWarned 77 = .ok (.iload_n 2, 1) := by decide +kernel
theorem dX7_timesWarned_78 : decode cX7_timesWarned 78 = .ok (.ireturn, 1) := by decide +kernel
theorem dX7_postsOf_0 : decode cX7_postsOf 0 = .ok (.iconst 0, 1) := by decide +kernel
theorem dX7_postsOf_1 : decode cX7_postsOf 1 = .ok (.istore_n 3, 1) := by decide +kernel
theorem dX7_postsOf_2 : decode cX7_postsOf 2 = .ok (.iconst 0, 1) := by decide +kernel
theorem dX7_postsOf_3 : decode cX7_postsOf 3 = .ok (.istore 4, 2) := by decide +kernel
theorem dX7_postsOf_5 : decode cX7_postsOf 5 = .ok (.iload 4, 2) := by decide +kernel
theorem dX7_postsOf_7 : decode cX7_postsOf 7 = .ok (.aload_n 0, 1) := by decide +kernel
theorem dX7_postsOf_8 : decode cX7_postsOf 8 = .ok (.getfield 24, 3) := by decide +kernel
theorem dX7_postsOf_11 : decode cX7_postsOf 11 = .ok (.invokevirtual 83, 3) := by decide +kernel
theorem dX7_postsOf_14 : decode cX7_postsOf 14 = .ok (.if_icmp .ge 55, 3) := by decide +kernel
theorem dX7_postsOf_17 : decode cX7_postsOf 17 = .ok (.aload_n 0, 1) := by decide +kernel
theorem dX7_postsOf_18 : decode cX7_postsOf 18 = .ok (.getfield 24, 3) := by decide +kernel
theorem dX7_postsOf_21 : decode cX7_postsOf 21 = .ok (.iload 4, 2) := by decide +kernel
theorem dX7_postsOf_23 : decode cX7_postsOf 23 = .ok (.invokevirtual 169, 3) := by decide +kernel
theorem dX7_postsOf_26 : decode cX7_postsOf 26 = .ok (.checkcast 87, 3) := by decide +kernel
theorem dX7_postsOf_29 : decode cX7_postsOf 29 = .ok (.astore 5, 2) := by decide +kernel
theorem dX7_postsOf_31 : decode cX7_postsOf 31 = .ok (.iload_n 3, 1) := by decide +kernel
theorem dX7_postsOf_32 : decode cX7_postsOf 32 = .ok (.aload 5, 2) := by decide +kernel
theorem dX7_postsOf_34 : decode cX7_postsOf 34 = .ok (.getfield 298, 3) := by decide +kernel
theorem dX7_postsOf_37 : decode cX7_postsOf 37 = .ok (.iload_n 1, 1) := by decide +kernel
theorem dX7_postsOf_38 : decode cX7_postsOf 38 = .ok (.if_icmp .ne 19, 3) := by decide +kernel
theorem dX7_postsOf_41 : decode cX7_postsOf 41 = .ok (.iload_n 2, 1) := by decide +kernel
theorem dX7_postsOf_42 : decode cX7_postsOf 42 = .ok (.ifCond .eq 11, 3) := by decide +kernel
theorem dX7_postsOf_45 : decode cX7_postsOf 45 = .ok (.aload 5, 2) := by decide +kernel
theorem dX7_postsOf_47 : decode cX7_postsOf 47 = .ok (.invokevirtual 304, 3) := by decide +kernel
theorem dX7_postsOf_50 : decode cX7_postsOf 50 = .ok (.ifCond .eq 7, 3) := by decide +kernel
theorem dX7_postsOf_53 : decode cX7_postsOf 53 = .ok (.iconst 1, 1) := by decide +kernel
theorem dX7_postsOf_54 : decode cX7_postsOf 54 = .ok (.goto 4, 3) := by decide +kernel
theorem dX7_postsOf_57 : decode cX7_postsOf 57 = .ok (.iconst 0, 1) := by decide +kernel
theorem dX7_postsOf_58 : decode cX7_postsOf 58 = .ok (.invokestatic 136, 3) := by decide +kernel
theorem dX7_postsOf_61 : decode cX7_postsOf 61 = .ok (.iadd, 1) := by decide +kernel
theorem dX7_postsOf_62 : decode cX7_postsOf 62 = .ok (.istore_n 3, 1) := by decide +kernel
theorem dX7_postsOf_63 : decode cX7_postsOf 63 = .ok (.iinc 4 1, 3) := by decide +kernel
theorem dX7_postsOf_66 : decode cX7_postsOf 66 = .ok (.goto (-61), 3) := by decide +kernel
theorem dX7_postsOf_69 : decode cX7_postsOf 69 = .ok (.iload_n 3, 1) := by decide +kernel
theorem dX7_postsOf_70 : decode cX7_postsOf 70 = .ok (.ireturn, 1) := by decide +kernel
theorem dX8_init_0 : decode cX8_init 0 = .ok (.aload_n 0, 1) := by decide +kernel
theorem dX8_init_1 : decode cX8_init 1 = .ok (.invokespecial 1, 3) := by decide +kernel
theorem dX8_init_4 : decode cX8_init 4 = .ok (.aload_n 0, 1) := by decide +kernel
theorem dX8_init_5 : decode cX8_init 5 = .ok (.bipush 8, 2) := by decide +kernel
theorem dX8_init_7 : decode cX8_init 7 = .ok (.newarray .int, 2) := by decide +kernel
theorem dX8_init_9 : decode cX8_init 9 = .ok (.putfield 9, 3) := by decide +kernel
theorem dX8_init_12 : decode cX8_init 12 = .ok (.aload_n 0, 1) := by decide +kernel
theorem dX8_init_13 : decode cX8_init 13 = .ok (.bipush 8, 2) := by decide +kernel
theorem dX8_init_15 : decode cX8_init 15 = .ok (.newarray .int, 2) := by decide +kernel
theorem dX8_init_17 : decode cX8_init 17 = .ok (.putfield 13, 3) := by decide +kernel
theorem dX8_init_20 : decode cX8_init 20 = .ok (.aload_n 0, 1) := by decide +kernel
theorem dX8_init_21 : decode cX8_init 21 = .ok (.bipush 8, 2) := by decide +kernel
theorem dX8_init_23 : decode cX8_init 23 = .ok (.newarray .int, 2) := by decide +kernel
theorem dX8_init_25 : decode cX8_init 25 = .ok (.putfield 16, 3) := by decide +kernel
theorem dX8_init_28 : decode cX8_init 28 = .ok (.aload_n 0, 1) := by decide +kernel
theorem dX8_init_29 : decode cX8_init 29 = .ok (.iconst 3, 1) := by decide +kernel
theorem dX8_init_30 : decode cX8_init 30 = .ok (.newarray .int, 2) := by decide +kernel
theorem dX8_init_32 : decode cX8_init 32 = .ok (.putfield 19, 3) := by decide +kernel
theorem dX8_init_35 : decode cX8_init 35 = .ok (.aload_n 0, 1) := by decide +kernel
theorem dX8_init_36 : decode cX8_init 36 = .ok (.bipush 100, 2) := by decide +kernel
theorem dX8_init_38 : decode cX8_init 38 = .ok (.putfield 22, 3) := by decide +kernel
theorem dX8_init_41 : decode cX8_init 41 = .ok (.aload_n 0, 1) := by decide +kernel
theorem dX8_init_42 : decode cX8_init 42 = .ok (.bipush 10, 2) := by decide +kernel
theorem dX8_init_44 : decode cX8_init 44 = .ok (.putfield 26, 3) := by decide +kernel
theorem dX8_init_47 : decode cX8_init 47 = .ok (.aload_n 0, 1) := by decide +kernel
theorem dX8_init_48 : decode cX8_init 48 = .ok (.bipush 100, 2) := by decide +kernel
theorem dX8_init_50 : decode cX8_init 50 = .ok (.putfield 29, 3) := by decide +kernel
theorem dX8_init_53 : decode cX8_init 53 = .ok (.aload_n 0, 1) := by decide +kernel
theorem dX8_init_54 : decode cX8_init 54 = .ok (.sipush 300, 3) := by decide +kernel
theorem dX8_init_57 : decode cX8_init 57 = .ok (.newarray .int, 2) := by decide +kernel
theorem dX8_init_59 : decode cX8_init 59 = .ok (.putfield 32, 3) := by decide +kernel
theorem dX8_init_62 : decode cX8_init 62 = .ok (.aload_n 0, 1) := by decide +kernel
theorem dX8_init_63 : decode cX8_init 63 = .ok (.sipush 300, 3) := by decide +kernel
theorem dX8_init_66 : decode cX8_init 66 = .ok (.newarray .int, 2) := by decide +kernel
theorem dX8_init_68 : decode cX8_init 68 = .ok (.putfield 35, 3) := by decide +kernel
theorem dX8_init_71 : decode cX8_init 71 = .ok (.aload_n 0, 1) := by decide +kernel
theorem dX8_init_72 : decode cX8_init 72 = .ok (.sipush 300, 3) := by decide +kernel
theorem dX8_init_75 : decode cX8_init 75 = .ok (.newarray .int, 2) := by decide +kernel
theorem dX8_init_77 : decode cX8_init 77 = .ok (.putfield 38, 3) := by decide +kernel
theorem dX8_init_80 : decode cX8_init 80 = .ok (.aload_n 0, 1) := by decide +kernel
theorem dX8_init_81 : decode cX8_init 81 = .ok (.sipush 300, 3) := by decide +kernel
theorem dX8_init_84 : decode cX8_init 84 = .ok (.newarray .int, 2) := by decide +kernel
theorem dX8_init_86 : decode cX8_init 86 = .ok (.putfield 41, 3) := by decide +kernel
theorem dX8_init_89 : decode cX8_init 89 = .ok (.aload_n 0, 1) := by decide +kernel
theorem dX8_init_90 : decode cX8_init 90 = .ok (.sipush 400, 3) := by decide +kernel
theorem dX8_init_93 : decode cX8_init 93 = .ok (.newarray .int, 2) := by decide +kernel
theorem dX8_init_95 : decode cX8_init 95 = .ok (.putfield 44, 3) := by decide +kernel
theorem dX8_init_98 : decode cX8_init 98 = .ok (.aload_n 0, 1) := by decide +kernel
theorem dX8_init_99 : decode cX8_init 99 = .ok (.sipush 400, 3) := by decide +kernel
theorem dX8_init_102 : decode cX8_init 102 = .ok (.newarray .int, 2) := by decide +kernel
theorem dX8_init_104 : decode cX8_init 104 = .ok (.putfield 47, 3) := by decide +kernel
theorem dX8_init_107 : decode cX8_init 107 = .ok (.aload_n 0, 1) := by decide +kernel
theorem dX8_init_108 : decode cX8_init 108 = .ok (.sipush 400, 3) := by decide +kernel
theorem dX8_init_111 : decode cX8_init 111 = .ok (.newarray .int, 2) := by decide +kernel
theorem dX8_init_113 : decode cX8_init 113 = .ok (.putfield 50, 3) := by decide +kernel
theorem dX8_init_116 : decode cX8_init 116 = .ok (.aload_n 0, 1) := by decide +kernel
theorem dX8_init_117 : decode cX8_init 117 = .ok (.sipush 400, 3) := by decide +kernel
theorem dX8_init_120 : decode cX8_init 120 = .ok (.newarray .int, 2) := by decide +kernel
theorem dX8_init_122 : decode cX8_init 122 = .ok (.putfield 53, 3) := by decide +kernel
theorem dX8_init_125 : decode cX8_init 125 = .ok (.aload_n 0, 1) := by decide +kernel
theorem dX8_init_126 : decode cX8_init 126 = .ok (.sipush 400, 3) := by decide +kernel
theorem dX8_init_129 : decode cX8_init 129 = .ok (.newarray .int, 2) := by decide +kernel
theorem dX8_init_131 : decode cX8_init 131 = .ok (.putfield 56, 3) := by decide +kernel
theorem dX8_init_134 : decode cX8_init 134 = .ok (.aload_n 0, 1) := by decide +kernel
theorem dX8_init_135 : decode cX8_init 135 = .ok (.sipush 400, 3) := by decide +kernel
theorem dX8_init_138 : decode cX8_init 138 = .ok (.newarray .int, 2) := by decide +kernel
theorem dX8_init_140 : decode cX8_init 140 = .ok (.putfield 59, 3) := by decide +kernel
theorem dX8_init_143 : decode cX8_init 143 = .ok (.aload_n 0, 1) := by decide +kernel
theorem dX8_init_144 : decode cX8_init 144 = .ok (.sipush 400, 3) := by decide +kernel
theorem dX8_init_147 : decode cX8_init 147 = .ok (.newarray .int, 2) := by decide +kernel
theorem dX8_init_149 : decode cX8_init 149 = .ok (.putfield 62, 3) := by decide +kernel
theorem dX8_init_152 : decode cX8_init 152 = .ok (.aload_n 0, 1) := by decide +kernel
theorem dX8_init_153 : decode cX8_init 153 = .ok (.sipush 400, 3) := by decide +kernel
theorem dX8_init_156 : decode cX8_init 156 = .ok (.newarray .int, 2) := by decide +kernel
theorem dX8_init_158 : decode cX8_init 158 = .ok (.putfield 65, 3) := by decide +kernel
theorem dX8_init_161 : decode cX8_init 161 = .ok (.aload_n 0, 1) := by decide +kernel
theorem dX8_init_162 : decode cX8_init 162 = .ok (.sipush 400, 3) := by decide +kernel
theorem dX8_init_165 : decode cX8_init 165 = .ok (.newarray .int, 2) := by decide +kernel
theorem dX8_init_167 : decode cX8_init 167 = .ok (.putfield 68, 3) := by decide +kernel
theorem dX8_init_170 : decode cX8_init 170 = .ok (.aload_n 0, 1) := by decide +kernel
theorem dX8_init_171 : decode cX8_init 171 = .ok (.sipush 400, 3) := by decide +kernel
theorem dX8_init_174 : decode cX8_init 174 = .ok (.newarray .int, 2) := by decide +kernel
theorem dX8_init_176 : decode cX8_init 176 = .ok (.putfield 71, 3) := by decide +kernel
theorem dX8_init_179 : decode cX8_init 179 = .ok (.aload_n 0, 1) := by decide +kernel
theorem dX8_init_180 : decode cX8_init 180 = .ok (.sipush 800, 3) := by decide +kernel
theorem dX8_init_183 : decode cX8_init 183 = .ok (.newarray .int, 2) := by decide +kernel
theorem dX8_init_185 : decode cX8_init 185 = .ok (.putfield 74, 3) := by decide +kernel
theorem dX8_init_188 : decode cX8_init 188 = .ok (.aload_n 0, 1) := by decide +kernel
theorem dX8_init_189 : decode cX8_init 189 = .ok (.sipush 400, 3) := by decide +kernel
theorem dX8_init_192 : decode cX8_init 192 = .ok (.newarray .int, 2) := by decide +kernel
theorem dX8_init_194 : decode cX8_init 194 = .ok (.putfield 77, 3) := by decide +kernel
theorem dX8_init_197 : decode cX8_init 197 = .ok (.aload_n 0, 1) := by decide +kernel
theorem dX8_init_198 : decode cX8_init 198 = .ok (.sipush 400, 3) := by decide +kernel
theorem dX8_init_201 : decode cX8_init 201 = .ok (.newarray .int, 2) := by decide +kernel
theorem dX8_init_203 : decode cX8_init 203 = .ok (.putfield 80, 3) := by decide +kernel
theorem dX8_init_206 : decode cX8_init 206 = .ok (.aload_n 0, 1) := by decide +kernel
theorem dX8_init_207 : decode cX8_init 207 = .ok (.sipush 400, 3) := by decide +kernel
theorem dX8_init_210 : decode cX8_init 210 = .ok (.newarray .int, 2) := by decide +kernel
theorem dX8_init_212 : decode cX8_init 212 = .ok (.putfield 83, 3) := by decide +kernel
theorem dX8_init_215 : decode cX8_init 215 = .ok (.aload_n 0, 1) := by decide +kernel
theorem dX8_init_216 : decode cX8_init 216 = .ok (.bipush 20, 2) := by decide +kernel
theorem dX8_init_218 : decode cX8_init 218 = .ok (.newarray .int, 2) := by decide +kernel
theorem dX8_init_220 : decode cX8_init 220 = .ok (.putfield 86, 3) := by decide +kernel
theorem dX8_init_223 : decode cX8_init 223 = .ok (.aload_n 0, 1) := by decide +kernel
theorem dX8_init_224 : decode cX8_init 224 = .ok (.bipush 20, 2) := by decide +kernel
theorem dX8_init_226 : decode cX8_init 226 = .ok (.newarray .long, 2) := by decide +kernel
theorem dX8_init_228 : decode cX8_init 228 = .ok (.putfield 89, 3) := by decide +kernel
theorem dX8_init_231 : decode cX8_init 231 = .ok (.aload_n 0, 1) := by decide +kernel
theorem dX8_init_232 : decode cX8_init 232 = .ok (.bipush 20, 2) := by decide +kernel
theorem dX8_init_234 : decode cX8_init 234 = .ok (.newarray .int, 2) := by decide +kernel
theorem dX8_init_236 : decode cX8_init 236 = .ok (.putfield 93, 3) := by decide +kernel
theorem dX8_init_239 : decode cX8_init 239 = .ok (.aload_n 0, 1) := by decide +kernel
theorem dX8_init_240 : decode cX8_init 240 = .ok (.bipush 20, 2) := by decide +kernel
theorem dX8_init_242 : decode cX8_init 242 = .ok (.newarray .int, 2) := by decide +kernel
theorem dX8_init_244 : decode cX8_init 244 = .ok (.putfield 96, 3) := by decide +kernel
theorem dX8_init_247 : decode cX8_init 247 = .ok (.aload_n 0, 1) := by decide +kernel
theorem dX8_init_248 : decode cX8_init 248 = .ok (.bipush 20, 2) := by decide +kernel
theorem dX8_init_250 : decode cX8_init 250 = .ok (.newarray .boolean, 2) := by decide +kernel
theorem dX8_init_252 : decode cX8_init 252 = .ok (.putfield 99, 3) := by decide +kernel
theorem dX8_init_255 : decode cX8_init 255 = .ok (.aload_n 0, 1) := by decide +kernel
theorem dX8_init_256 : decode cX8_init 256 = .ok (.sipush 400, 3) := by decide +kernel
theorem dX8_init_259 : decode cX8_init 259 = .ok (.newarray .int, 2) := by decide +kernel
theorem dX8_init_261 : decode cX8_init 261 = .ok (.putfield 103, 3) := by decide +kernel
theorem dX8_init_264 : decode cX8_init 264 = .ok (.aload_n 0, 1) := by decide +kernel
theorem dX8_init_265 : decode cX8_init 265 = .ok (.sipush 400, 3) := by decide +kernel
theorem dX8_init_268 : decode cX8_init 268 = .ok (.newarray .int, 2) := by decide +kernel
theorem dX8_init_270 : decode cX8_init 270 = .ok (.putfield 106, 3) := by decide +kernel
theorem dX8_init_273 : decode cX8_init 273 = .ok (.aload_n 0, 1) := by decide +kernel
theorem dX8_init_274 : decode cX8_init 274 = .ok (.sipush 8000, 3) := by decide +kernel
theorem dX8_init_277 : decode cX8_init 277 = .ok (.newarray .int, 2) := by decide +kernel
theorem dX8_init_279 : decode cX8_init 279 = .ok (.putfield 109, 3) := by decide +kernel
theorem dX8_init_282 : decode cX8_init 282 = .ok (.aload_n 0, 1) := by decide +kernel
theorem dX8_init_283 : decode cX8_init 283 = .ok (.sipush 8000, 3) := by decide +kernel
theorem dX8_init_286 : decode cX8_init 286 = .ok (.newarray .int, 2) := by decide +kernel
theorem dX8_init_288 : decode cX8_init 288 = .ok (.putfield 112, 3) := by decide +kernel
theorem dX8_init_291 : decode cX8_init 291 = .ok (.aload_n 0, 1) := by decide +kernel
theorem dX8_init_292 : decode cX8_init 292 = .ok (.sipush 8000, 3) := by decide +kernel
theorem dX8_init_295 : decode cX8_init 295 = .ok (.newarray .int, 2) := by decide +kernel
theorem dX8_init_297 : decode cX8_init 297 = .ok (.putfield 115, 3) := by decide +kernel
theorem dX8_init_300 : decode cX8_init 300 = .ok (.aload_n 0, 1) := by decide +kernel
theorem dX8_init_301 : decode cX8_init 301 = .ok (.sipush 8000, 3) := by decide +kernel
theorem dX8_init_304 : decode cX8_init 304 = .ok (.newarray .int, 2) := by decide +kernel
theorem dX8_init_306 : decode cX8_init 306 = .ok (.putfield 118, 3) := by decide +kernel
theorem dX8_init_309 : decode cX8_init 309 = .ok (.aload_n 0, 1) := by decide +kernel
theorem dX8_init_310 : decode cX8_init 310 = .ok (.sipush 8000, 3) := by decide +kernel
theorem dX8_init_313 : decode cX8_init 313 = .ok (.newarray .int, 2) := by decide +kernel
theorem dX8_init_315 : decode cX8_init 315 = .ok (.putfield 121, 3) := by decide +kernel
theorem dX8_init_318 : decode cX8_init 318 = .ok (.aload_n 0, 1) := by decide +kernel
theorem dX8_init_319 : decode cX8_init 319 = .ok (.sipush 400, 3) := by decide +kernel
theorem dX8_init_322 : decode cX8_init 322 = .ok (.newarray .int, 2) := by decide +kernel
theorem dX8_init_324 : decode cX8_init 324 = .ok (.putfield 124, 3) := by decide +kernel
theorem dX8_init_327 : decode cX8_init 327 = .ok (.aload_n 0, 1) := by decide +kernel
theorem dX8_init_328 : decode cX8_init 328 = .ok (.sipush 400, 3) := by decide +kernel
theorem dX8_init_331 : decode cX8_init 331 = .ok (.newarray .int, 2) := by decide +kernel
theorem dX8_init_333 : decode cX8_init 333 = .ok (.putfield 127, 3) := by decide +kernel
theorem dX8_init_336 : decode cX8_init 336 = .ok (.aload_n 0, 1) := by decide +kernel
theorem dX8_init_337 : decode cX8_init 337 = .ok (.sipush 400, 3) := by decide +kernel
theorem dX8_init_340 : decode cX8_init 340 = .ok (.newarray .int, 2) := by decide +kernel
theorem dX8_init_342 : decode cX8_init 342 = .ok (.putfield 130, 3) := by decide +kernel
theorem dX8_init_345 : decode cX8_init 345 = .ok (.iconst 0, 1) := by decide +kernel
theorem dX8_init_346 : decode cX8_init 346 = .ok (.istore_n 1, 1) := by decide +kernel
theorem dX8_init_347 : decode cX8_init 347 = .ok (.iload_n 1, 1) := by decide +kernel
theorem dX8_init_348 : decode cX8_init 348 = .ok (.bipush 8, 2) := by decide +kernel
theorem dX8_init_350 : decode cX8_init 350 = .ok (.if_icmp .ge 16, 3) := by decide +kernel
theorem dX8_init_353 : decode cX8_init 353 = .ok (.aload_n 0, 1) := by decide +kernel
theorem dX8_init_354 : decode cX8_init 354 = .ok (.getfield 13, 3) := by decide +kernel
theorem dX8_init_357 : decode cX8_init 357 = .ok (.iload_n 1, 1) := by decide +kernel
theorem dX8_init_358 : decode cX8_init 358 = .ok (.iconst 1, 1) := by decide +kernel
theorem dX8_init_359 : decode cX8_init 359 = .ok (.iastore, 1) := by decide +kernel
theorem dX8_init_360 : decode cX8_init 360 = .ok (.iinc 1 1, 3) := by decide +kernel
theorem dX8_init_363 : decode cX8_init 363 = .ok (.goto (-16), 3) := by decide +kernel
theorem dX8_init_366 : decode cX8_init 366 = .ok (.iconst 0, 1) := by decide +kernel
theorem dX8_init_367 : decode cX8_init 367 = .ok (.istore_n 1, 1) := by decide +kernel
theorem dX8_init_368 : decode cX8_init 368 = .ok (.iload_n 1, 1) := by decide +kernel
theorem dX8_init_369 : decode cX8_init 369 = .ok (.bipush 20, 2) := by decide +kernel
theorem dX8_init_371 : decode cX8_init 371 = .ok (.if_icmp .ge 23, 3) := by decide +kernel
theorem dX8_init_374 : decode cX8_init 374 = .ok (.aload_n 0, 1) := by decide +kernel
theorem dX8_init_375 : decode cX8_init 375 = .ok (.getfield 93, 3) := by decide +kernel
theorem dX8_init_378 : decode cX8_init 378 = .ok (.iload_n 1, 1) := by decide +kernel
theorem dX8_init_379 : decode cX8_init 379 = .ok (.iconst 2, 1) := by decide +kernel
theorem dX8_init_380 : decode cX8_init 380 = .ok (.iastore, 1) := by decide +kernel
theorem dX8_init_381 : decode cX8_init 381 = .ok (.aload_n 0, 1) := by decide +kernel
theorem dX8_init_382 : decode cX8_init 382 = .ok (.getfield 96, 3) := by decide +kernel
theorem dX8_init_385 : decode cX8_init 385 = .ok (.iload_n 1, 1) := by decide +kernel
theorem dX8_init_386 : decode cX8_init 386 = .ok (.iconst 1, 1) := by decide +kernel
theorem dX8_init_387 : decode cX8_init 387 = .ok (.iastore, 1) := by decide +kernel
theorem dX8_init_388 : decode cX8_init 388 = .ok (.iinc 1 1, 3) := by decide +kernel
theorem dX8_init_391 : decode cX8_init 391 = .ok (.goto (-23), 3) := by decide +kernel
theorem dX8_init_394 : decode cX8_init 394 = .ok (.iconst 0, 1) := by decide +kernel
theorem dX8_init_395 : decode cX8_init 395 = .ok (.istore_n 1, 1) := by decide +kernel
theorem dX8_init_396 : decode cX8_init 396 = .ok (.iload_n 1, 1) := by decide +kernel
theorem dX8_init_397 : decode cX8_init 397 = .ok (.iconst 3, 1) := by decide +kernel
theorem dX8_init_398 : decode cX8_init 398 = .ok (.if_icmp .ge 21, 3) := by decide +kernel
theorem dX8_init_401 : decode cX8_init 401 = .ok (.aload_n 0, 1) := by decide +kernel
theorem dX8_init_402 : decode cX8_init 402 = .ok (.getfield 19, 3) := by decide +kernel
theorem dX8_init_405 : decode cX8_init 405 = .ok (.iload_n 1, 1) := by decide +kernel
theorem dX8_init_406 : decode cX8_init 406 = .ok (.bipush 10, 2) := by decide +kernel
theorem dX8_init_408 : decode cX8_init 408 = .ok (.iload_n 1, 1) := by decide +kernel
theorem dX8_init_409 : decode cX8_init 409 = .ok (.iconst 1, 1) := by decide +kernel
theorem dX8_init_410 : decode cX8_init 410 = .ok (.iadd, 1) := by decide +kernel
theorem dX8_init_411 : decode cX8_init 411 = .ok (.imul, 1) := by decide +kernel
theorem dX8_init_412 : decode cX8_init 412 = .ok (.iastore, 1) := by decide +kernel
theorem dX8_init_413 : decode cX8_init 413 = .ok (.iinc 1 1, 3) := by decide +kernel
theorem dX8_init_416 : decode cX8_init 416 = .ok (.goto (-20), 3) := by decide +kernel
theorem dX8_init_419 : decode cX8_init 419 = .ok (.return_, 1) := by decide +kernel
theorem dX8_within_0 : decode cX8_within 0 = .ok (.iload_n 0, 1) := by decide +kernel
theorem dX8_within_1 : decode cX8_within 1 = .ok (.iload_n 1, 1) := by decide +kernel
theorem dX8_within_2 : decode cX8_within 2 = .ok (.if_icmp .lt 12, 3) := by decide +kernel
theorem dX8_within_5 : decode cX8_within 5 = .ok (.iload_n 0, 1) := by decide +kernel
theorem dX8_within_6 : decode cX8_within 6 = .ok (.iload_n 2, 1) := by decide +kernel
theorem dX8_within_7 : decode cX8_within 7 = .ok (.if_icmp .gt 7, 3) := by decide +kernel
theorem dX8_within_10 : decode cX8_within 10 = .ok (.iconst 1, 1) := by decide +kernel
theorem dX8_within_11 : decode cX8_within 11 = .ok (.goto 4, 3) := by decide +kernel
theorem dX8_within_14 : decode cX8_within 14 = .ok (.iconst 0, 1) := by decide +kernel
theorem dX8_within_15 : decode cX8_within 15 = .ok (.ireturn, 1) := by decide +kernel
theorem dX8_isJudge_0 : decode cX8_isJudge 0 = .ok (.iload_n 0, 1) := by decide +kernel
theorem dX8_isJudge_1 : decode cX8_isJudge 1 = .ok (.ifCond .lt 13, 3) := by decide +kernel
theorem dX8_isJudge_4 : decode cX8_isJudge 4 = .ok (.iload_n 0, 1) := by decide +kernel
theorem dX8_isJudge_5 : decode cX8_isJudge 5 = .ok (.bipush 20, 2) := by decide +kernel
theorem dX8_isJudge_7 : decode cX8_isJudge 7 = .ok (.if_icmp .ge 7, 3) := by decide +kernel
theorem dX8_isJudge_10 : decode cX8_isJudge 10 = .ok (.iconst 1, 1) := by decide +kernel
theorem dX8_isJudge_11 : decode cX8_isJudge 11 = .ok (.goto 4, 3) := by decide +kernel
theorem dX8_isJudge_14 : decode cX8_isJudge 14 = .ok (.iconst 0, 1) := by decide +kernel
theorem dX8_isJudge_15 : decode cX8_isJudge 15 = .ok (.ireturn, 1) := by decide +kernel
theorem dX8_isCase_0 : decode cX8_isCase 0 = .ok (.iload_n 1, 1) := by decide +kernel
theorem dX8_isCase_1 : decode cX8_isCase 1 = .ok (.ifCond .lt 15, 3) := by decide +kernel
theorem dX8_isCase_4 : decode cX8_isCase 4 = .ok (.iload_n 1, 1) := by decide +kernel
theorem dX8_isCase_5 : decode cX8_isCase 5 = .ok (.aload_n 0, 1) := by decide +kernel
theorem dX8_isCase_6 : decode cX8_isCase 6 = .ok (.getfield 133, 3) := by decide +kernel
theorem dX8_isCase_9 : decode cX8_isCase 9 = .ok (.if_icmp .ge 7, 3) := by decide +kernel
theorem dX8_isCase_12 : decode cX8_isCase 12 = .ok (.iconst 1, 1) := by decide +kernel
theorem dX8_isCase_13 : decode cX8_isCase 13 = .ok (.goto 4, 3) := by decide +kernel
theorem dX8_isCase_16 : decode cX8_isCase 16 = .ok (.iconst 0, 1) := by decide +kernel
theorem dX8_isCase_17 : decode cX8_isCase 17 = .ok (.ireturn, 1) := by decide +kernel
theorem dX8_tick_0 : decode cX8_tick 0 = .ok (.iload_n 1, 1) := by decide +kernel
theorem dX8_tick_1 : decode cX8_tick 1 = .ok (.iconst 1, 1) := by decide +kernel
theorem dX8_tick_2 : decode cX8_tick 2 = .ok (.sipush 1000, 3) := by decide +kernel
theorem dX8_tick_5 : decode cX8_tick 5 = .ok (.invokestatic 136, 3) := by decide +kernel
theorem dX8_tick_8 : decode cX8_tick 8 = .ok (.ifCond .eq 14, 3) := by decide +kernel
theorem dX8_tick_11 : decode cX8_tick 11 = .ok (.aload_n 0, 1) := by decide +kernel
theorem dX8_tick_12 : decode cX8_tick 12 = .ok (.getfield 140, 3) := by decide +kernel
theorem dX8_tick_15 : decode cX8_tick 15 = .ok (.iload_n 1, 1) := by decide +kernel
theorem dX8_tick_16 : decode cX8_tick 16 = .ok (.iadd, 1) := by decide +kernel
theorem dX8_tick_17 : decode cX8_tick 17 = .ok (.ldc 143, 2) := by decide +kernel
theorem dX8_tick_19 : decode cX8_tick 19 = .ok (.if_icmp .le 5, 3) := by decide +kernel
theorem dX8_tick_22 : decode cX8_tick 22 = .ok (.iconst (-1), 1) := by decide +kernel
theorem dX8_tick_23 : decode cX8_tick 23 = .ok (.ireturn, 1) := by decide +kernel
theorem dX8_tick_24 : decode cX8_tick 24 = .ok (.aload_n 0, 1) := by decide +kernel
theorem dX8_tick_25 : decode cX8_tick 25 = .ok (.dup, 1) := by decide +kernel
theorem dX8_tick_26 : decode cX8_tick 26 = .ok (.getfield 140, 3) := by decide +kernel
theorem dX8_tick_29 : decode cX8_tick 29 = .ok (.iload_n 1, 1) := by decide +kernel
theorem dX8_tick_30 : decode cX8_tick 30 = .ok (.iadd, 1) := by decide +kernel
theorem dX8_tick_31 : decode cX8_tick 31 = .ok (.putfield 140, 3) := by decide +kernel
theorem dX8_tick_34 : decode cX8_tick 34 = .ok (.aload_n 0, 1) := by decide +kernel
theorem dX8_tick_35 : decode cX8_tick 35 = .ok (.getfield 140, 3) := by decide +kernel
theorem dX8_tick_38 : decode cX8_tick 38 = .ok (.ireturn, 1) := by decide +kernel
theorem dX8_rule_0 : decode cX8_rule 0 = .ok (.iload_n 1, 1) := by decide +kernel
theorem dX8_rule_1 : decode cX8_rule 1 = .ok (.iconst 0, 1) := by decide +kernel
theorem dX8_rule_2 : decode cX8_rule 2 = .ok (.bipush 7, 2) := by decide +kernel
theorem dX8_rule_4 : decode cX8_rule 4 = .ok (.invokestatic 136, 3) := by decide +kernel
theorem dX8_rule_7 : decode cX8_rule 7 = .ok (.ifCond .eq 32, 3) := by decide +kernel
theorem dX8_rule_10 : decode cX8_rule 10 = .ok (.iload_n 2, 1) := by decide +kernel
theorem dX8_rule_11 : decode cX8_rule 11 = .ok (.iconst 0, 1) := by decide +kernel
theorem dX8_rule_12 : decode cX8_rule 12 = .ok (.iconst 2, 1) := by decide +kernel
theorem dX8_rule_13 : decode cX8_rule 13 = .ok (.invokestatic 136, 3) := by decide +kernel
theorem dX8_rule_16 : decode cX8_rule 16 = .ok (.ifCond .eq 23, 3) := by decide +kernel
theorem dX8_rule_19 : decode cX8_rule 19 = .ok (.iload_n 3, 1) := by decide +kernel
theorem dX8_rule_20 : decode cX8_rule 20 = .ok (.iconst 1, 1) := by decide +kernel
theorem dX8_rule_21 : decode cX8_rule 21 = .ok (.bipush 100, 2) := by decide +kernel
theorem dX8_rule_23 : decode cX8_rule 23 = .ok (.invokestatic 136, 3) := by decide +kernel
theorem dX8_rule_26 : decode cX8_rule 26 = .ok (.ifCond .eq 13, 3) := by decide +kernel
theorem dX8_rule_29 : decode cX8_rule 29 = .ok (.iload 4, 2) := by decide +kernel
theorem dX8_rule_31 : decode cX8_rule 31 = .ok (.iconst 0, 1) := by decide +kernel
theorem dX8_rule_32 : decode cX8_rule 32 = .ok (.iconst 2, 1) := by decide +kernel
theorem dX8_rule_33 : decode cX8_rule 33 = .ok (.invokestatic 136, 3) := by decide +kernel
theorem dX8_rule_36 : decode cX8_rule 36 = .ok (.ifCond .ne 5, 3) := by decide +kernel
theorem dX8_rule_39 : decode cX8_rule 39 = .ok (.iconst (-1), 1) := by decide +kernel
theorem dX8_rule_40 : decode cX8_rule 40 = .ok (.ireturn, 1) := by decide +kernel
theorem dX8_rule_41 : decode cX8_rule 41 = .ok (.aload_n 0, 1) := by decide +kernel
theorem dX8_rule_42 : decode cX8_rule 42 = .ok (.getfield 9, 3) := by decide +kernel
theorem dX8_rule_45 : decode cX8_rule 45 = .ok (.iload_n 1, 1) := by decide +kernel
theorem dX8_rule_46 : decode cX8_rule 46 = .ok (.iload_n 2, 1) := by decide +kernel
theorem dX8_rule_47 : decode cX8_rule 47 = .ok (.iastore, 1) := by decide +kernel
theorem dX8_rule_48 : decode cX8_rule 48 = .ok (.aload_n 0, 1) := by decide +kernel
theorem dX8_rule_49 : decode cX8_rule 49 = .ok (.getfield 13, 3) := by decide +kernel
theorem dX8_rule_52 : decode cX8_rule 52 = .ok (.iload_n 1, 1) := by decide +kernel
theorem dX8_rule_53 : decode cX8_rule 53 = .ok (.iload_n 3, 1) := by decide +kernel
theorem dX8_rule_54 : decode cX8_rule 54 = .ok (.iastore, 1) := by decide +kernel
theorem dX8_rule_55 : decode cX8_rule 55 = .ok (.aload_n 0, 1) := by decide +kernel
theorem dX8_rule_56 : decode cX8_rule 56 = .ok (.getfield 16, 3) := by decide +kernel
theorem dX8_rule_59 : decode cX8_rule 59 = .ok (.iload_n 1, 1) := by decide +kernel
theorem dX8_rule_60 : decode cX8_rule 60 = .ok (.iload 4, 2) := by decide +kernel
theorem dX8_rule_62 : decode cX8_rule 62 = .ok (.iastore, 1) := by decide +kernel
theorem dX8_rule_63 : decode cX8_rule 63 = .ok (.iconst 1, 1) := by decide +kernel
theorem dX8_rule_64 : decode cX8_rule 64 = .ok (.ireturn, 1) := by decide +kernel
theorem dX8_ladder_0 : decode cX8_ladder 0 = .ok (.iload_n 1, 1) := by decide +kernel
theorem dX8_ladder_1 : decode cX8_ladder 1 = .ok (.iconst 1, 1) := by decide +kernel
theorem dX8_ladder_2 : decode cX8_ladder 2 = .ok (.sipush 10000, 3) := by decide +kernel
theorem dX8_ladder_5 : decode cX8_ladder 5 = .ok (.invokestatic 136, 3) := by decide +kernel
theorem dX8_ladder_8 : decode cX8_ladder 8 = .ok (.ifCond .eq 14, 3) := by decide +kernel
theorem dX8_ladder_11 : decode cX8_ladder 11 = .ok (.iload_n 2, 1) := by decide +kernel
theorem dX8_ladder_12 : decode cX8_ladder 12 = .ok (.iconst 1, 1) := by decide +kernel
theorem dX8_ladder_13 : decode cX8_ladder 13 = .ok (.sipush 10000, 3) := by decide +kernel
theorem dX8_ladder_16 : decode cX8_ladder 16 = .ok (.invokestatic 136, 3) := by decide +kernel
theorem dX8_ladder_19 : decode cX8_ladder 19 = .ok (.ifCond .ne 5, 3) := by decide +kernel
theorem dX8_ladder_22 : decode cX8_ladder 22 = .ok (.iconst (-1), 1) := by decide +kernel
theorem dX8_ladder_23 : decode cX8_ladder 23 = .ok (.ireturn, 1) := by decide +kernel
theorem dX8_ladder_24 : decode cX8_ladder 24 = .ok (.aload_n 0, 1) := by decide +kernel
theorem dX8_ladder_25 : decode cX8_ladder 25 = .ok (.iload_n 1, 1) := by decide +kernel
theorem dX8_ladder_26 : decode cX8_ladder 26 = .ok (.putfield 22, 3) := by decide +kernel
theorem dX8_ladder_29 : decode cX8_ladder 29 = .ok (.aload_n 0, 1) := by decide +kernel
theorem dX8_ladder_30 : decode cX8_ladder 30 = .ok (.iload_n 2, 1) := by decide +kernel
theorem dX8_ladder_31 : decode cX8_ladder 31 = .ok (.putfield 26, 3) := by decide +kernel
theorem dX8_ladder_34 : decode cX8_ladder 34 = .ok (.iconst 1, 1) := by decide +kernel
theorem dX8_ladder_35 : decode cX8_ladder 35 = .ok (.ireturn, 1) := by decide +kernel
theorem dX8_due_0 : decode cX8_due 0 = .ok (.iload_n 1, 1) := by decide +kernel
theorem dX8_due_1 : decode cX8_due 1 = .ok (.iconst 0, 1) := by decide +kernel
theorem dX8_due_2 : decode cX8_due 2 = .ok (.iconst 2, 1) := by decide +kernel
theorem dX8_due_3 : decode cX8_due 3 = .ok (.invokestatic 136, 3) := by decide +kernel
theorem dX8_due_6 : decode cX8_due 6 = .ok (.ifCond .eq 14, 3) := by decide +kernel
theorem dX8_due_9 : decode cX8_due 9 = .ok (.iload_n 2, 1) := by decide +kernel
theorem dX8_due_10 : decode cX8_due 10 = .ok (.iconst 1, 1) := by decide +kernel
theorem dX8_due_11 : decode cX8_due 11 = .ok (.sipush 1000, 3) := by decide +kernel
theorem dX8_due_14 : decode cX8_due 14 = .ok (.invokestatic 136, 3) := by decide +kernel
theorem dX8_due_17 : decode cX8_due 17 = .ok (.ifCond .ne 5, 3) := by decide +kernel
theorem dX8_due_20 : decode cX8_due 20 = .ok (.iconst (-1), 1) := by decide +kernel
theorem dX8_due_21 : decode cX8_due 21 = .ok (.ireturn, 1) := by decide +kernel
theorem dX8_due_22 : decode cX8_due 22 = .ok (.aload_n 0, 1) := by decide +kernel
theorem dX8_due_23 : decode cX8_due 23 = .ok (.getfield 19, 3) := by decide +kernel
theorem dX8_due_26 : decode cX8_due 26 = .ok (.iload_n 1, 1) := by decide +kernel
theorem dX8_due_27 : decode cX8_due 27 = .ok (.iaload, 1) := by decide +kernel
theorem dX8_due_28 : decode cX8_due 28 = .ok (.istore_n 3, 1) := by decide +kernel
theorem dX8_due_29 : decode cX8_due 29 = .ok (.aload_n 0, 1) := by decide +kernel
theorem dX8_due_30 : decode cX8_due 30 = .ok (.getfield 19, 3) := by decide +kernel
theorem dX8_due_33 : decode cX8_due 33 = .ok (.iload_n 1, 1) := by decide +kernel
theorem dX8_due_34 : decode cX8_due 34 = .ok (.iload_n 2, 1) := by decide +kernel
theorem dX8_due_35 : decode cX8_due 35 = .ok (.iastore, 1) := by decide +kernel
theorem dX8_due_36 : decode cX8_due 36 = .ok (.iload_n 3, 1) := by decide +kernel
theorem dX8_due_37 : decode cX8_due 37 = .ok (.ireturn, 1) := by decide +kernel
theorem dX8_limit_0 : decode cX8_limit 0 = .ok (.iload_n 1, 1) := by decide +kernel
theorem dX8_limit_1 : decode cX8_limit 1 = .ok (.iconst 0, 1) := by decide +kernel
theorem dX8_limit_2 : decode cX8_limit 2 = .ok (.bipush 100, 2) := by decide +kernel
theorem dX8_limit_4 : decode cX8_limit 4 = .ok (.invokestatic 136, 3) := by decide +kernel
theorem dX8_limit_7 : decode cX8_limit 7 = .ok (.ifCond .ne 5, 3) := by decide +kernel
theorem dX8_limit_10 : decode cX8_limit 10 = .ok (.iconst (-1), 1) := by decide +kernel
theorem dX8_limit_11 : decode cX8_limit 11 = .ok (.ireturn, 1) := by decide +kernel
theorem dX8_limit_12 : decode cX8_limit 12 = .ok (.aload_n 0, 1) := by decide +kernel
theorem dX8_limit_13 : decode cX8_limit 13 = .ok (.getfield 29, 3) := by decide +kernel
theorem dX8_limit_16 : decode cX8_limit 16 = .ok (.istore_n 2, 1) := by decide +kernel
theorem dX8_limit_17 : decode cX8_limit 17 = .ok (.aload_n 0, 1) := by decide +kernel
theorem dX8_limit_18 : decode cX8_limit 18 = .ok (.iload_n 1, 1) := by decide +kernel
theorem dX8_limit_19 : decode cX8_limit 19 = .ok (.putfield 29, 3) := by decide +kernel
theorem dX8_limit_22 : decode cX8_limit 22 = .ok (.iload_n 2, 1) := by decide +kernel
theorem dX8_limit_23 : decode cX8_limit 23 = .ok (.ireturn, 1) := by decide +kernel
theorem dX8_post_0 : decode cX8_post 0 = .ok (.iload_n 1, 1) := by decide +kernel
theorem dX8_post_1 : decode cX8_post 1 = .ok (.iconst 0, 1) := by decide +kernel
theorem dX8_post_2 : decode cX8_post 2 = .ok (.bipush 39, 2) := by decide +kernel
theorem dX8_post_4 : decode cX8_post 4 = .ok (.invokestatic 136, 3) := by decide +kernel
theorem dX8_post_7 : decode cX8_post 7 = .ok (.ifCond .eq 25, 3) := by decide +kernel
theorem dX8_post_10 : decode cX8_post 10 = .ok (.iload_n 2, 1) := by decide +kernel
theorem dX8_post_11 : decode cX8_post 11 = .ok (.iconst 1, 1) := by decide +kernel
theorem dX8_post_12 : decode cX8_post 12 = .ok (.sipush 1000, 3) := by decide +kernel
theorem dX8_post_15 : decode cX8_post 15 = .ok (.invokestatic 136, 3) := by decide +kernel
theorem dX8_post_18 : decode cX8_post 18 = .ok (.ifCond .eq 14, 3) := by decide +kernel
theorem dX8_post_21 : decode cX8_post 21 = .ok (.iload_n 3, 1) := by decide +kernel
theorem dX8_post_22 : decode cX8_post 22 = .ok (.iconst 0, 1) := by decide +kernel
theorem dX8_post_23 : decode cX8_post 23 = .ok (.sipush 255, 3) := by decide +kernel
theorem dX8_post_26 : decode cX8_post 26 = .ok (.invokestatic 136, 3) := by decide +kernel
theorem dX8_post_29 : decode cX8_post 29 = .ok (.ifCond .ne 5, 3) := by decide +kernel
theorem dX8_post_32 : decode cX8_post 32 = .ok (.iconst (-1), 1) := by decide +kernel
theorem dX8_post_33 : decode cX8_post 33 = .ok (.ireturn, 1) := by decide +kernel
theorem dX8_post_34 : decode cX8_post 34 = .ok (.aload_n 0, 1) := by decide +kernel
theorem dX8_post_35 : decode cX8_post 35 = .ok (.getfield 144, 3) := by decide +kernel
theorem dX8_post_38 : decode cX8_post 38 = .ok (.sipush 300, 3) := by decide +kernel
theorem dX8_post_41 : decode cX8_post 41 = .ok (.if_icmp .ne 6, 3) := by decide +kernel
theorem dX8_post_44 : decode cX8_post 44 = .ok (.bipush (-2), 2) := by decide +kernel
theorem dX8_post_46 : decode cX8_post 46 = .ok (.ireturn, 1) := by decide +kernel
theorem dX8_post_47 : decode cX8_post 47 = .ok (.aload_n 0, 1) := by decide +kernel
theorem dX8_post_48 : decode cX8_post 48 = .ok (.getfield 32, 3) := by decide +kernel
theorem dX8_post_51 : decode cX8_post 51 = .ok (.aload_n 0, 1) := by decide +kernel
theorem dX8_post_52 : decode cX8_post 52 = .ok (.getfield 144, 3) := by decide +kernel
theorem dX8_post_55 : decode cX8_post 55 = .ok (.iload_n 1, 1) := by decide +kernel
theorem dX8_post_56 : decode cX8_post 56 = .ok (.iastore, 1) := by decide +kernel
theorem dX8_post_57 : decode cX8_post 57 = .ok (.aload_n 0, 1) := by decide +kernel
theorem dX8_post_58 : decode cX8_post 58 = .ok (.getfield 35, 3) := by decide +kernel
theorem dX8_post_61 : decode cX8_post 61 = .ok (.aload_n 0, 1) := by decide +kernel
theorem dX8_post_62 : decode cX8_post 62 = .ok (.getfield 144, 3) := by decide +kernel
theorem dX8_post_65 : decode cX8_post 65 = .ok (.aload_n 0, 1) := by decide +kernel
theorem dX8_post_66 : decode cX8_post 66 = .ok (.getfield 140, 3) := by decide +kernel
theorem dX8_post_69 : decode cX8_post 69 = .ok (.iastore, 1) := by decide +kernel
theorem dX8_post_70 : decode cX8_post 70 = .ok (.aload_n 0, 1) := by decide +kernel
theorem dX8_post_71 : decode cX8_post 71 = .ok (.getfield 38, 3) := by decide +kernel
theorem dX8_post_74 : decode cX8_post 74 = .ok (.aload_n 0, 1) := by decide +kernel
theorem dX8_post_75 : decode cX8_post 75 = .ok (.getfield 144, 3) := by decide +kernel
theorem dX8_post_78 : decode cX8_post 78 = .ok (.iload_n 2, 1) := by decide +kernel
theorem dX8_post_79 : decode cX8_post 79 = .ok (.iastore, 1) := by decide +kernel
theorem dX8_post_80 : decode cX8_post 80 = .ok (.aload_n 0, 1) := by decide +kernel
theorem dX8_post_81 : decode cX8_post 81 = .ok (.getfield 41, 3) := by decide +kernel
theorem dX8_post_84 : decode cX8_post 84 = .ok (.aload_n 0, 1) := by decide +kernel
theorem dX8_post_85 : decode cX8_post 85 = .ok (.getfield 144, 3) := by decide +kernel
theorem dX8_post_88 : decode cX8_post 88 = .ok (.iload_n 3, 1) := by decide +kernel
theorem dX8_post_89 : decode cX8_post 89 = .ok (.iastore, 1) := by decide +kernel
theorem dX8_post_90 : decode cX8_post 90 = .ok (.aload_n 0, 1) := by decide +kernel
theorem dX8_post_91 : decode cX8_post 91 = .ok (.dup, 1) := by decide +kernel
theorem dX8_post_92 : decode cX8_post 92 = .ok (.getfield 144, 3) := by decide +kernel
theorem dX8_post_95 : decode cX8_post 95 = .ok (.iconst 1, 1) := by decide +kernel
theorem dX8_post_96 : decode cX8_post 96 = .ok (.iadd, 1) := by decide +kernel
theorem dX8_post_97 : decode cX8_post 97 = .ok (.putfield 144, 3) := by decide +kernel
theorem dX8_post_100 : decode cX8_post 100 = .ok (.aload_n 0, 1) := by decide +kernel
theorem dX8_post_101 : decode cX8_post 101 = .ok (.getfield 144, 3) := by decide +kernel
theorem dX8_post_104 : decode cX8_post 104 = .ok (.iconst 1, 1) := by decide +kernel
theorem dX8_post_105 : decode cX8_post 105 = .ok (.isub, 1) := by decide +kernel
theorem dX8_post_106 : decode cX8_post 106 = .ok (.ireturn, 1) := by decide +kernel
theorem dX8_complain_0 : decode cX8_complain 0 = .ok (.iload_n 1, 1) := by decide +kernel
theorem dX8_complain_1 : decode cX8_complain 1 = .ok (.ifCond .lt 21, 3) := by decide +kernel
theorem dX8_complain_4 : decode cX8_complain 4 = .ok (.iload_n 1, 1) := by decide +kernel
theorem dX8_complain_5 : decode cX8_complain 5 = .ok (.aload_n 0, 1) := by decide +kernel
theorem dX8_complain_6 : decode cX8_complain 6 = .ok (.getfield 144, 3) := by decide +kernel
theorem dX8_complain_9 : decode cX8_complain 9 = .ok (.if_icmp .ge 13, 3) := by decide +kernel
theorem dX8_complain_12 : decode cX8_complain 12 = .ok (.iload_n 2, 1) := by decide +kernel
theorem dX8_complain_13 : decode cX8_complain 13 = .ok (.iconst 0, 1) := by decide +kernel
theorem dX8_complain_14 : decode cX8_complain 14 = .ok (.bipush 7, 2) := by decide +kernel
theorem dX8_complain_16 : decode cX8_complain 16 = .ok (.invokestatic 136, 3) := by decide +kernel
theorem dX8_complain_19 : decode cX8_complain 19 = .ok (.ifCond .ne 5, 3) := by decide +kernel
theorem dX8_complain_22 : decode cX8_complain 22 = .ok (.iconst (-1), 1) := by decide +kernel
theorem dX8_complain_23 : decode cX8_complain 23 = .ok (.ireturn, 1) := by decide +kernel
theorem dX8_complain_24 : decode cX8_complain 24 = .ok (.iconst 0, 1) := by decide +kernel
theorem dX8_complain_25 : decode cX8_complain 25 = .ok (.istore_n 3, 1) := by decide +kernel
theorem dX8_complain_26 : decode cX8_complain 26 = .ok (.iload_n 3, 1) := by decide +kernel
theorem dX8_complain_27 : decode cX8_complain 27 = .ok (.aload_n 0, 1) := by decide +kernel
theorem dX8_complain_28 : decode cX8_complain 28 = .ok (.getfield 133, 3) := by decide +kernel
theorem dX8_complain_31 : decode cX8_complain 31 = .ok (.if_icmp .ge 41, 3) := by decide +kernel
theorem dX8_complain_34 : decode cX8_complain 34 = .ok (.aload_n 0, 1) := by decide +kernel
theorem dX8_complain_35 : decode cX8_complain 35 = .ok (.getfield 44, 3) := by decide +kernel
theorem dX8_complain_38 : decode cX8_complain 38 = .ok (.iload_n 3, 1) := by decide +kernel
theorem dX8_complain_39 : decode cX8_complain 39 = .ok (.iaload, 1) := by decide +kernel
theorem dX8_complain_40 : decode cX8_complain 40 = .ok (.iload_n 1, 1) := by decide +kernel
theorem dX8_complain_41 : decode cX8_complain 41 = .ok (.if_icmp .ne 25, 3) := by decide +kernel
theorem dX8_complain_44 : decode cX8_complain 44 = .ok (.aload_n 0, 1) := by decide +kernel
theorem dX8_complain_45 : decode cX8_complain 45 = .ok (.getfield 47, 3) := by decide +kernel
theorem dX8_complain_48 : decode cX8_complain 48 = .ok (.iload_n 3, 1) := by decide +kernel
theorem dX8_complain_49 : decode cX8_complain 49 = .ok (.iaload, 1) := by decide +kernel
theorem dX8_complain_50 : decode cX8_complain 50 = .ok (.iload_n 2, 1) := by decide +kernel
theorem dX8_complain_51 : decode cX8_complain 51 = .ok (.if_icmp .ne 15, 3) := by decide +kernel
theorem dX8_complain_54 : decode cX8_complain 54 = .ok (.aload_n 0, 1) := by decide +kernel
theorem dX8_complain_55 : decode cX8_complain 55 = .ok (.getfield 53, 3) := by decide +kernel
theorem dX8_complain_58 : decode cX8_complain 58 = .ok (.iload_n 3, 1) := by decide +kernel
theorem dX8_complain_59 : decode cX8_complain 59 = .ok (.dup2, 1) := by decide +kernel
theorem dX8_complain_60 : decode cX8_complain 60 = .ok (.iaload, 1) := by decide +kernel
theorem dX8_complain_61 : decode cX8_complain 61 = .ok (.iconst 1, 1) := by decide +kernel
theorem dX8_complain_62 : decode cX8_complain 62 = .ok (.iadd, 1) := by decide +kernel
theorem dX8_complain_63 : decode cX8_complain 63 = .ok (.iastore, 1) := by decide +kernel
theorem dX8_complain_64 : decode cX8_complain 64 = .ok (.iload_n 3, 1) := by decide +kernel
theorem dX8_complain_65 : decode cX8_complain 65 = .ok (.ireturn, 1) := by decide +kernel
theorem dX8_complain_66 : decode cX8_complain 66 = .ok (.iinc 3 1, 3) := by decide +kernel
theorem dX8_complain_69 : decode cX8_complain 69 = .ok (.goto (-43), 3) := by decide +kernel
theorem dX8_complain_72 : decode cX8_complain 72 = .ok (.aload_n 0, 1) := by decide +kernel
theorem dX8_complain_73 : decode cX8_complain 73 = .ok (.getfield 133, 3) := by decide +kernel
theorem dX8_complain_76 : decode cX8_complain 76 = .ok (.sipush 400, 3) := by decide +kernel
theorem dX8_complain_79 : decode cX8_complain 79 = .ok (.if_icmp .ne 6, 3) := by decide +kernel
theorem dX8_complain_82 : decode cX8_complain 82 = .ok (.bipush (-2), 2) := by decide +kernel
theorem dX8_complain_84 : decode cX8_complain 84 = .ok (.ireturn, 1) := by decide +kernel
theorem dX8_complain_85 : decode cX8_complain 85 = .ok (.aload_n 0, 1) := by decide +kernel
theorem dX8_complain_86 : decode cX8_complain 86 = .ok (.getfield 133, 3) := by decide +kernel
theorem dX8_complain_89 : decode cX8_complain 89 = .ok (.istore_n 3, 1) := by decide +kernel
theorem dX8_complain_90 : decode cX8_complain 90 = .ok (.aload_n 0, 1) := by decide +kernel
theorem dX8_complain_91 : decode cX8_complain 91 = .ok (.getfield 44, 3) := by decide +kernel
theorem dX8_complain_94 : decode cX8_complain 94 = .ok (.iload_n 3, 1) := by decide +kernel
theorem dX8_complain_95 : decode cX8_complain 95 = .ok (.iload_n 1, 1) := by decide +kernel
theorem dX8_complain_96 : decode cX8_complain 96 = .ok (.iastore, 1) := by decide +kernel
theorem dX8_complain_97 : decode cX8_complain 97 = .ok (.aload_n 0, 1) := by decide +kernel
theorem dX8_complain_98 : decode cX8_complain 98 = .ok (.getfield 47, 3) := by decide +kernel
theorem dX8_complain_101 : decode cX8_complain 101 = .ok (.iload_n 3, 1) := by decide +kernel
theorem dX8_complain_102 : decode cX8_complain 102 = .ok (.iload_n 2, 1) := by decide +kernel
theorem dX8_complain_103 : decode cX8_complain 103 = .ok (.iastore, 1) := by decide +kernel
theorem dX8_complain_104 : decode cX8_complain 104 = .ok (.aload_n 0, 1) := by decide +kernel
theorem dX8_complain_105 : decode cX8_complain 105 = .ok (.getfield 50, 3) := by decide +kernel
theorem dX8_complain_108 : decode cX8_complain 108 = .ok (.iload_n 3, 1) := by decide +kernel
theorem dX8_complain_109 : decode cX8_complain 109 = .ok (.iconst 0, 1) := by decide +kernel
theorem dX8_complain_110 : decode cX8_complain 110 = .ok (.iastore, 1) := by decide +kernel
theorem dX8_complain_111 : decode cX8_complain 111 = .ok (.aload_n 0, 1) := by decide +kernel
theorem dX8_complain_112 : decode cX8_complain 112 = .ok (.getfield 53, 3) := by decide +kernel
theorem dX8_complain_115 : decode cX8_complain 115 = .ok (.iload_n 3, 1) := by decide +kernel
theorem dX8_complain_116 : decode cX8_complain 116 = .ok (.iconst 1, 1) := by decide +kernel
theorem dX8_complain_117 : decode cX8_complain 117 = .ok (.iastore, 1) := by decide +kernel
theorem dX8_complain_118 : decode cX8_complain 118 = .ok (.aload_n 0, 1) := by decide +kernel
theorem dX8_complain_119 : decode cX8_complain 119 = .ok (.getfield 56, 3) := by decide +kernel
theorem dX8_complain_122 : decode cX8_complain 122 = .ok (.iload_n 3, 1) := by decide +kernel
theorem dX8_complain_123 : decode cX8_complain 123 = .ok (.aload_n 0, 1) := by decide +kernel
theorem dX8_complain_124 : decode cX8_complain 124 = .ok (.getfield 9, 3) := by decide +kernel
theorem dX8_complain_127 : decode cX8_complain 127 = .ok (.iload_n 2, 1) := by decide +kernel
theorem dX8_complain_128 : decode cX8_complain 128 = .ok (.iaload, 1) := by decide +kernel
theorem dX8_complain_129 : decode cX8_complain 129 = .ok (.iastore, 1) := by decide +kernel
theorem dX8_complain_130 : decode cX8_complain 130 = .ok (.aload_n 0, 1) := by decide +kernel
theorem dX8_complain_131 : decode cX8_complain 131 = .ok (.getfield 59, 3) := by decide +kernel
theorem dX8_complain_134 : decode cX8_complain 134 = .ok (.iload_n 3, 1) := by decide +kernel
theorem dX8_complain_135 : decode cX8_complain 135 = .ok (.aload_n 0, 1) := by decide +kernel
theorem dX8_complain_136 : decode cX8_complain 136 = .ok (.getfield 140, 3) := by decide +kernel
theorem dX8_complain_139 : decode cX8_complain 139 = .ok (.iastore, 1) := by decide +kernel
theorem dX8_complain_140 : decode cX8_complain 140 = .ok (.aload_n 0, 1) := by decide +kernel
theorem dX8_complain_141 : decode cX8_complain 141 = .ok (.getfield 62, 3) := by decide +kernel
theorem dX8_complain_144 : decode cX8_complain 144 = .ok (.iload_n 3, 1) := by decide +kernel
theorem dX8_complain_145 : decode cX8_complain 145 = .ok (.iconst 2, 1) := by decide +kernel
theorem dX8_complain_146 : decode cX8_complain 146 = .ok (.aload_n 0, 1) := by decide +kernel
theorem dX8_complain_147 : decode cX8_complain 147 = .ok (.getfield 9, 3) := by decide +kernel
theorem dX8_complain_150 : decode cX8_complain 150 = .ok (.iload_n 2, 1) := by decide +kernel
theorem dX8_complain_151 : decode cX8_complain 151 = .ok (.iaload, 1) := by decide +kernel
theorem dX8_complain_152 : decode cX8_complain 152 = .ok (.imul, 1) := by decide +kernel
theorem dX8_complain_153 : decode cX8_complain 153 = .ok (.iconst 1, 1) := by decide +kernel
theorem dX8_complain_154 : decode cX8_complain 154 = .ok (.iadd, 1) := by decide +kernel
theorem dX8_complain_155 : decode cX8_complain 155 = .ok (.iastore, 1) := by decide +kernel
theorem dX8_complain_156 : decode cX8_complain 156 = .ok (.aload_n 0, 1) := by decide +kernel
theorem dX8_complain_157 : decode cX8_complain 157 = .ok (.getfield 65, 3) := by decide +kernel
theorem dX8_complain_160 : decode cX8_complain 160 = .ok (.iload_n 3, 1) := by decide +kernel
theorem dX8_complain_161 : decode cX8_complain 161 = .ok (.iconst 0, 1) := by decide +kernel
theorem dX8_complain_162 : decode cX8_complain 162 = .ok (.iastore, 1) := by decide +kernel
theorem dX8_complain_163 : decode cX8_complain 163 = .ok (.aload_n 0, 1) := by decide +kernel
theorem dX8_complain_164 : decode cX8_complain 164 = .ok (.getfield 68, 3) := by decide +kernel
theorem dX8_complain_167 : decode cX8_complain 167 = .ok (.iload_n 3, 1) := by decide +kernel
theorem dX8_complain_168 : decode cX8_complain 168 = .ok (.iconst 0, 1) := by decide +kernel
theorem dX8_complain_169 : decode cX8_complain 169 = .ok (.iastore, 1) := by decide +kernel
theorem dX8_complain_170 : decode cX8_complain 170 = .ok (.aload_n 0, 1) := by decide +kernel
theorem dX8_complain_171 : decode cX8_complain 171 = .ok (.getfield 71, 3) := by decide +kernel
theorem dX8_complain_174 : decode cX8_complain 174 = .ok (.iload_n 3, 1) := by decide +kernel
theorem dX8_complain_175 : decode cX8_complain 175 = .ok (.iconst (-1), 1) := by decide +kernel
theorem dX8_complain_176 : decode cX8_complain 176 = .ok (.iastore, 1) := by decide +kernel
theorem dX8_complain_177 : decode cX8_complain 177 = .ok (.aload_n 0, 1) := by decide +kernel
theorem dX8_complain_178 : decode cX8_complain 178 = .ok (.getfield 74, 3) := by decide +kernel
theorem dX8_complain_181 : decode cX8_complain 181 = .ok (.iconst 2, 1) := by decide +kernel
theorem dX8_complain_182 : decode cX8_complain 182 = .ok (.iload_n 3, 1) := by decide +kernel
theorem dX8_complain_183 : decode cX8_complain 183 = .ok (.imul, 1) := by decide +kernel
theorem dX8_complain_184 : decode cX8_complain 184 = .ok (.iconst (-1), 1) := by decide +kernel
theorem dX8_complain_185 : decode cX8_complain 185 = .ok (.iastore, 1) := by decide +kernel
theorem dX8_complain_186 : decode cX8_complain 186 = .ok (.aload_n 0, 1) := by decide +kernel
theorem dX8_complain_187 : decode cX8_complain 187 = .ok (.getfield 74, 3) := by decide +kernel
theorem dX8_complain_190 : decode cX8_complain 190 = .ok (.iconst 2, 1) := by decide +kernel
theorem dX8_complain_191 : decode cX8_complain 191 = .ok (.iload_n 3, 1) := by decide +kernel
theorem dX8_complain_192 : decode cX8_complain 192 = .ok (.imul, 1) := by decide +kernel
theorem dX8_complain_193 : decode cX8_complain 193 = .ok (.iconst 1, 1) := by decide +kernel
theorem dX8_complain_194 : decode cX8_complain 194 = .ok (.iadd, 1) := by decide +kernel
theorem dX8_complain_195 : decode cX8_complain 195 = .ok (.iconst (-1), 1) := by decide +kernel
theorem dX8_complain_196 : decode cX8_complain 196 = .ok (.iastore, 1) := by decide +kernel
theorem dX8_complain_197 : decode cX8_complain 197 = .ok (.aload_n 0, 1) := by decide +kernel
theorem dX8_complain_198 : decode cX8_complain 198 = .ok (.dup, 1) := by decide +kernel
theorem dX8_complain_199 : decode cX8_complain 199 = .ok (.getfield 133, 3) := by decide +kernel
theorem dX8_complain_202 : decode cX8_complain 202 = .ok (.iconst 1, 1) := by decide +kernel
theorem dX8_complain_203 : decode cX8_complain 203 = .ok (.iadd, 1) := by decide +kernel
theorem dX8_complain_204 : decode cX8_complain 204 = .ok (.putfield 133, 3) := by decide +kernel
theorem dX8_complain_207 : decode cX8_complain 207 = .ok (.iload_n 3, 1) := by decide +kernel
theorem dX8_complain_208 : decode cX8_complain 208 = .ok (.ireturn, 1) := by decide +kernel
theorem dX8_judge_0 : decode cX8_judge 0 = .ok (.iload_n 1, 1) := by decide +kernel
theorem dX8_judge_1 : decode cX8_judge 1 = .ok (.invokestatic 147, 3) := by decide +kernel
theorem dX8_judge_4 : decode cX8_judge 4 = .ok (.ifCond .eq 35, 3) := by decide +kernel
theorem dX8_judge_7 : decode cX8_judge 7 = .ok (.iload_n 2, 1) := by decide +kernel
theorem dX8_judge_8 : decode cX8_judge 8 = .ok (.iconst 0, 1) := by decide +kernel
theorem dX8_judge_9 : decode cX8_judge 9 = .ok (.sipush 255, 3) := by decide +kernel
theorem dX8_judge_12 : decode cX8_judge 12 = .ok (.invokestatic 136, 3) := by decide +kernel
theorem dX8_judge_15 : decode cX8_judge 15 = .ok (.ifCond .eq 24, 3) := by decide +kernel
theorem dX8_judge_18 : decode cX8_judge 18 = .ok (.iload_n 3, 1) := by decide +kernel
theorem dX8_judge_19 : decode cX8_judge 19 = .ok (.iconst 0, 1) := by decide +kernel
theorem dX8_judge_20 : decode cX8_judge 20 = .ok (.bipush 20, 2) := by decide +kernel
theorem dX8_judge_22 : decode cX8_judge 22 = .ok (.invokestatic 136, 3) := by decide +kernel
theorem dX8_judge_25 : decode cX8_judge 25 = .ok (.ifCond .eq 14, 3) := by decide +kernel
theorem dX8_judge_28 : decode cX8_judge 28 = .ok (.iload 4, 2) := by decide +kernel
theorem dX8_judge_30 : decode cX8_judge 30 = .ok (.iconst 1, 1) := by decide +kernel
theorem dX8_judge_31 : decode cX8_judge 31 = .ok (.bipush 10, 2) := by decide +kernel
theorem dX8_judge_33 : decode cX8_judge 33 = .ok (.invokestatic 136, 3) := by decide +kernel
theorem dX8_judge_36 : decode cX8_judge 36 = .ok (.ifCond .ne 5, 3) := by decide +kernel
theorem dX8_judge_39 : decode cX8_judge 39 = .ok (.iconst (-1), 1) := by decide +kernel
theorem dX8_judge_40 : decode cX8_judge 40 = .ok (.ireturn, 1) := by decide +kernel
theorem dX8_judge_41 : decode cX8_judge 41 = .ok (.aload_n 0, 1) := by decide +kernel
theorem dX8_judge_42 : decode cX8_judge 42 = .ok (.getfield 86, 3) := by decide +kernel
theorem dX8_judge_45 : decode cX8_judge 45 = .ok (.iload_n 1, 1) := by decide +kernel
theorem dX8_judge_46 : decode cX8_judge 46 = .ok (.iload_n 2, 1) := by decide +kernel
theorem dX8_judge_47 : decode cX8_judge 47 = .ok (.iastore, 1) := by decide +kernel
theorem dX8_judge_48 : decode cX8_judge 48 = .ok (.aload_n 0, 1) := by decide +kernel
theorem dX8_judge_49 : decode cX8_judge 49 = .ok (.getfield 93, 3) := by decide +kernel
theorem dX8_judge_52 : decode cX8_judge 52 = .ok (.iload_n 1, 1) := by decide +kernel
theorem dX8_judge_53 : decode cX8_judge 53 = .ok (.iload_n 3, 1) := by decide +kernel
theorem dX8_judge_54 : decode cX8_judge 54 = .ok (.iastore, 1) := by decide +kernel
theorem dX8_judge_55 : decode cX8_judge 55 = .ok (.aload_n 0, 1) := by decide +kernel
theorem dX8_judge_56 : decode cX8_judge 56 = .ok (.getfield 96, 3) := by decide +kernel
theorem dX8_judge_59 : decode cX8_judge 59 = .ok (.iload_n 1, 1) := by decide +kernel
theorem dX8_judge_60 : decode cX8_judge 60 = .ok (.iload 4, 2) := by decide +kernel
theorem dX8_judge_62 : decode cX8_judge 62 = .ok (.iastore, 1) := by decide +kernel
theorem dX8_judge_63 : decode cX8_judge 63 = .ok (.iconst 1, 1) := by decide +kernel
theorem dX8_judge_64 : decode cX8_judge 64 = .ok (.ireturn, 1) := by decide +kernel
theorem dX8_kin_0 : decode cX8_kin 0 = .ok (.iload_n 1, 1) := by decide +kernel
theorem dX8_kin_1 : decode cX8_kin 1 = .ok (.invokestatic 147, 3) := by decide +kernel
theorem dX8_kin_4 : decode cX8_kin 4 = .ok (.ifCond .eq 22, 3) := by decide +kernel
theorem dX8_kin_7 : decode cX8_kin 7 = .ok (.iload_n 2, 1) := by decide +kernel
theorem dX8_kin_8 : decode cX8_kin 8 = .ok (.iconst 0, 1) := by decide +kernel
theorem dX8_kin_9 : decode cX8_kin 9 = .ok (.bipush 39, 2) := by decide +kernel
theorem dX8_kin_11 : decode cX8_kin 11 = .ok (.invokestatic 136, 3) := by decide +kernel
theorem dX8_kin_14 : decode cX8_kin 14 = .ok (.ifCond .eq 12, 3) := by decide +kernel
theorem dX8_kin_17 : decode cX8_kin 17 = .ok (.iload_n 3, 1) := by decide +kernel
theorem dX8_kin_18 : decode cX8_kin 18 = .ok (.iconst 0, 1) := by decide +kernel
theorem dX8_kin_19 : decode cX8_kin 19 = .ok (.iconst 1, 1) := by decide +kernel
theorem dX8_kin_20 : decode cX8_kin 20 = .ok (.invokestatic 136, 3) := by decide +kernel
theorem dX8_kin_23 : decode cX8_kin 23 = .ok (.ifCond .ne 5, 3) := by decide +kernel
theorem dX8_kin_26 : decode cX8_kin 26 = .ok (.iconst (-1), 1) := by decide +kernel
theorem dX8_kin_27 : decode cX8_kin 27 = .ok (.ireturn, 1) := by decide +kernel
theorem dX8_kin_28 : decode cX8_kin 28 = .ok (.aload_n 0, 1) := by decide +kernel
theorem dX8_kin_29 : decode cX8_kin 29 = .ok (.getfield 89, 3) := by decide +kernel
theorem dX8_kin_32 : decode cX8_kin 32 = .ok (.iload_n 1, 1) := by decide +kernel
theorem dX8_kin_33 : decode cX8_kin 33 = .ok (.laload, 1) := by decide +kernel
theorem dX8_kin_34 : decode cX8_kin 34 = .ok (.iload_n 2, 1) := by decide +kernel
theorem dX8_kin_35 : decode cX8_kin 35 = .ok (.lshr, 1) := by decide +kernel
theorem dX8_kin_36 : decode cX8_kin 36 = .ok (.lconst 1, 1) := by decide +kernel
theorem dX8_kin_37 : decode cX8_kin 37 = .ok (.land, 1) := by decide +kernel
theorem dX8_kin_38 : decode cX8_kin 38 = .ok (.l2i, 1) := by decide +kernel
theorem dX8_kin_39 : decode cX8_kin 39 = .ok (.istore 4, 2) := by decide +kernel
theorem dX8_kin_41 : decode cX8_kin 41 = .ok (.aload_n 0, 1) := by decide +kernel
theorem dX8_kin_42 : decode cX8_kin 42 = .ok (.getfield 89, 3) := by decide +kernel
theorem dX8_kin_45 : decode cX8_kin 45 = .ok (.iload_n 1, 1) := by decide +kernel
theorem dX8_kin_46 : decode cX8_kin 46 = .ok (.aload_n 0, 1) := by decide +kernel
theorem dX8_kin_47 : decode cX8_kin 47 = .ok (.getfield 89, 3) := by decide +kernel
theorem dX8_kin_50 : decode cX8_kin 50 = .ok (.iload_n 1, 1) := by decide +kernel
theorem dX8_kin_51 : decode cX8_kin 51 = .ok (.laload, 1) := by decide +kernel
theorem dX8_kin_52 : decode cX8_kin 52 = .ok (.lconst 1, 1) := by decide +kernel
theorem dX8_kin_53 : decode cX8_kin 53 = .ok (.iload_n 2, 1) := by decide +kernel
theorem dX8_kin_54 : decode cX8_kin 54 = .ok (.lshl, 1) := by decide +kernel
theorem dX8_kin_55 : decode cX8_kin 55 = .ok (.ldc2_w 151, 3) := by decide +kernel
theorem dX8_kin_58 : decode cX8_kin 58 = .ok (.lxor, 1) := by decide +kernel
theorem dX8_kin_59 : decode cX8_kin 59 = .ok (.land, 1) := by decide +kernel
theorem dX8_kin_60 : decode cX8_kin 60 = .ok (.iload_n 3, 1) := by decide +kernel
theorem dX8_kin_61 : decode cX8_kin 61 = .ok (.i2l, 1) := by decide +kernel
theorem dX8_kin_62 : decode cX8_kin 62 = .ok (.iload_n 2, 1) := by decide +kernel
theorem dX8_kin_63 : decode cX8_kin 63 = .ok (.lshl, 1) := by decide +kernel
theorem dX8_kin_64 : decode cX8_kin 64 = .ok (.lor, 1) := by decide +kernel
end
section
theorem dX8_kin_65 : decode cX8_kin 65 = .ok (.lastore, 1) := by decide +kernel
theorem dX8_kin_66 : decode cX8_kin 66 = .ok (.iload 4, 2) := by decide +kernel
theorem dX8_kin_68 : decode cX8_kin 68 = .ok (.ireturn, 1) := by decide +kernel
theorem dX8_giveBack_0 : decode cX8_giveBack 0 = .ok (.iconst 0, 1) := by decide +kernel
theorem dX8_giveBack_1 : decode cX8_giveBack 1 = .ok (.istore_n 2, 1) := by decide +kernel
theorem dX8_giveBack_2 : decode cX8_giveBack 2 = .ok (.iconst 0, 1) := by decide +kernel
theorem dX8_giveBack_3 : decode cX8_giveBack 3 = .ok (.istore_n 3, 1) := by decide +kernel
theorem dX8_giveBack_4 : decode cX8_giveBack 4 = .ok (.iload_n 3, 1) := by decide +kernel
theorem dX8_giveBack_5 : decode cX8_giveBack 5 = .ok (.aload_n 0, 1) := by decide +kernel
theorem dX8_giveBack_6 : decode cX8_giveBack 6 = .ok (.getfield 153, 3) := by decide +kernel
theorem dX8_giveBack_9 : decode cX8_giveBack 9 = .ok (.if_icmp .ge 46, 3) := by decide +kernel
theorem dX8_giveBack_12 : decode cX8_giveBack 12 = .ok (.aload_n 0, 1) := by decide +kernel
theorem dX8_giveBack_13 : decode cX8_giveBack 13 = .ok (.getfield 103, 3) := by decide +kernel
theorem dX8_giveBack_16 : decode cX8_giveBack 16 = .ok (.iload_n 3, 1) := by decide +kernel
theorem dX8_giveBack_17 : decode cX8_giveBack 17 = .ok (.iaload, 1) := by decide +kernel
theorem dX8_giveBack_18 : decode cX8_giveBack 18 = .ok (.iload_n 1, 1) := by decide +kernel
theorem dX8_giveBack_19 : decode cX8_giveBack 19 = .ok (.if_icmp .eq 30, 3) := by decide +kernel
theorem dX8_giveBack_22 : decode cX8_giveBack 22 = .ok (.aload_n 0, 1) := by decide +kernel
theorem dX8_giveBack_23 : decode cX8_giveBack 23 = .ok (.getfield 103, 3) := by decide +kernel
theorem dX8_giveBack_26 : decode cX8_giveBack 26 = .ok (.iload_n 2, 1) := by decide +kernel
theorem dX8_giveBack_27 : decode cX8_giveBack 27 = .ok (.aload_n 0, 1) := by decide +kernel
theorem dX8_giveBack_28 : decode cX8_giveBack 28 = .ok (.getfield 103, 3) := by decide +kernel
theorem dX8_giveBack_31 : decode cX8_giveBack 31 = .ok (.iload_n 3, 1) := by decide +kernel
theorem dX8_giveBack_32 : decode cX8_giveBack 32 = .ok (.iaload, 1) := by decide +kernel
theorem dX8_giveBack_33 : decode cX8_giveBack 33 = .ok (.iastore, 1) := by decide +kernel
theorem dX8_giveBack_34 : decode cX8_giveBack 34 = .ok (.aload_n 0, 1) := by decide +kernel
theorem dX8_giveBack_35 : decode cX8_giveBack 35 = .ok (.getfield 106, 3) := by decide +kernel
theorem dX8_giveBack_38 : decode cX8_giveBack 38 = .ok (.iload_n 2, 1) := by decide +kernel
theorem dX8_giveBack_39 : decode cX8_giveBack 39 = .ok (.aload_n 0, 1) := by decide +kernel
theorem dX8_giveBack_40 : decode cX8_giveBack 40 = .ok (.getfield 106, 3) := by decide +kernel
theorem dX8_giveBack_43 : decode cX8_giveBack 43 = .ok (.iload_n 3, 1) := by decide +kernel
theorem dX8_giveBack_44 : decode cX8_giveBack 44 = .ok (.iaload, 1) := by decide +kernel
theorem dX8_giveBack_45 : decode cX8_giveBack 45 = .ok (.iastore, 1) := by decide +kernel
theorem dX8_giveBack_46 : decode cX8_giveBack 46 = .ok (.iinc 2 1, 3) := by decide +kernel
theorem dX8_giveBack_49 : decode cX8_giveBack 49 = .ok (.iinc 3 1, 3) := by decide +kernel
theorem dX8_giveBack_52 : decode cX8_giveBack 52 = .ok (.goto (-48), 3) := by decide +kernel
theorem dX8_giveBack_55 : decode cX8_giveBack 55 = .ok (.aload_n 0, 1) := by decide +kernel
theorem dX8_giveBack_56 : decode cX8_giveBack 56 = .ok (.iload_n 2, 1) := by decide +kernel
theorem dX8_giveBack_57 : decode cX8_giveBack 57 = .ok (.putfield 153, 3) := by decide +kernel
theorem dX8_giveBack_60 : decode cX8_giveBack 60 = .ok (.return_, 1) := by decide +kernel
theorem dX8_rest_0 : decode cX8_rest 0 = .ok (.iload_n 1, 1) := by decide +kernel
theorem dX8_rest_1 : decode cX8_rest 1 = .ok (.invokestatic 147, 3) := by decide +kernel
theorem dX8_rest_4 : decode cX8_rest 4 = .ok (.ifCond .eq 12, 3) := by decide +kernel
theorem dX8_rest_7 : decode cX8_rest 7 = .ok (.iload_n 2, 1) := by decide +kernel
theorem dX8_rest_8 : decode cX8_rest 8 = .ok (.iconst 0, 1) := by decide +kernel
theorem dX8_rest_9 : decode cX8_rest 9 = .ok (.iconst 1, 1) := by decide +kernel
theorem dX8_rest_10 : decode cX8_rest 10 = .ok (.invokestatic 136, 3) := by decide +kernel
theorem dX8_rest_13 : decode cX8_rest 13 = .ok (.ifCond .ne 5, 3) := by decide +kernel
theorem dX8_rest_16 : decode cX8_rest 16 = .ok (.iconst (-1), 1) := by decide +kernel
theorem dX8_rest_17 : decode cX8_rest 17 = .ok (.ireturn, 1) := by decide +kernel
theorem dX8_rest_18 : decode cX8_rest 18 = .ok (.aload_n 0, 1) := by decide +kernel
theorem dX8_rest_19 : decode cX8_rest 19 = .ok (.getfield 99, 3) := by decide +kernel
theorem dX8_rest_22 : decode cX8_rest 22 = .ok (.iload_n 1, 1) := by decide +kernel
theorem dX8_rest_23 : decode cX8_rest 23 = .ok (.baload, 1) := by decide +kernel
theorem dX8_rest_24 : decode cX8_rest 24 = .ok (.ifCond .eq 7, 3) := by decide +kernel
theorem dX8_rest_27 : decode cX8_rest 27 = .ok (.iconst 1, 1) := by decide +kernel
theorem dX8_rest_28 : decode cX8_rest 28 = .ok (.goto 4, 3) := by decide +kernel
theorem dX8_rest_31 : decode cX8_rest 31 = .ok (.iconst 0, 1) := by decide +kernel
theorem dX8_rest_32 : decode cX8_rest 32 = .ok (.istore_n 3, 1) := by decide +kernel
theorem dX8_rest_33 : decode cX8_rest 33 = .ok (.aload_n 0, 1) := by decide +kernel
theorem dX8_rest_34 : decode cX8_rest 34 = .ok (.getfield 99, 3) := by decide +kernel
theorem dX8_rest_37 : decode cX8_rest 37 = .ok (.iload_n 1, 1) := by decide +kernel
theorem dX8_rest_38 : decode cX8_rest 38 = .ok (.iload_n 2, 1) := by decide +kernel
theorem dX8_rest_39 : decode cX8_rest 39 = .ok (.iconst 1, 1) := by decide +kernel
theorem dX8_rest_40 : decode cX8_rest 40 = .ok (.if_icmp .ne 7, 3) := by decide +kernel
theorem dX8_rest_43 : decode cX8_rest 43 = .ok (.iconst 1, 1) := by decide +kernel
theorem dX8_rest_44 : decode cX8_rest 44 = .ok (.goto 4, 3) := by decide +kernel
theorem dX8_rest_47 : decode cX8_rest 47 = .ok (.iconst 0, 1) := by decide +kernel
theorem dX8_rest_48 : decode cX8_rest 48 = .ok (.bastore, 1) := by decide +kernel
theorem dX8_rest_49 : decode cX8_rest 49 = .ok (.iload_n 2, 1) := by decide +kernel
theorem dX8_rest_50 : decode cX8_rest 50 = .ok (.iconst 1, 1) := by decide +kernel
theorem dX8_rest_51 : decode cX8_rest 51 = .ok (.if_icmp .ne 8, 3) := by decide +kernel
theorem dX8_rest_54 : decode cX8_rest 54 = .ok (.aload_n 0, 1) := by decide +kernel
theorem dX8_rest_55 : decode cX8_rest 55 = .ok (.iload_n 1, 1) := by decide +kernel
theorem dX8_rest_56 : decode cX8_rest 56 = .ok (.invokevirtual 156, 3) := by decide +kernel
theorem dX8_rest_59 : decode cX8_rest 59 = .ok (.iload_n 3, 1) := by decide +kernel
theorem dX8_rest_60 : decode cX8_rest 60 = .ok (.ireturn, 1) := by decide +kernel
theorem dX8_isAsking_0 : decode cX8_isAsking 0 = .ok (.aload_n 0, 1) := by decide +kernel
theorem dX8_isAsking_1 : decode cX8_isAsking 1 = .ok (.getfield 50, 3) := by decide +kernel
theorem dX8_isAsking_4 : decode cX8_isAsking 4 = .ok (.iload_n 1, 1) := by decide +kernel
theorem dX8_isAsking_5 : decode cX8_isAsking 5 = .ok (.iaload, 1) := by decide +kernel
theorem dX8_isAsking_6 : decode cX8_isAsking 6 = .ok (.ifCond .eq 13, 3) := by decide +kernel
theorem dX8_isAsking_9 : decode cX8_isAsking 9 = .ok (.aload_n 0, 1) := by decide +kernel
theorem dX8_isAsking_10 : decode cX8_isAsking 10 = .ok (.getfield 50, 3) := by decide +kernel
theorem dX8_isAsking_13 : decode cX8_isAsking 13 = .ok (.iload_n 1, 1) := by decide +kernel
theorem dX8_isAsking_14 : decode cX8_isAsking 14 = .ok (.iaload, 1) := by decide +kernel
theorem dX8_isAsking_15 : decode cX8_isAsking 15 = .ok (.iconst 3, 1) := by decide +kernel
theorem dX8_isAsking_16 : decode cX8_isAsking 16 = .ok (.if_icmp .ne 7, 3) := by decide +kernel
theorem dX8_isAsking_19 : decode cX8_isAsking 19 = .ok (.iconst 1, 1) := by decide +kernel
theorem dX8_isAsking_20 : decode cX8_isAsking 20 = .ok (.goto 4, 3) := by decide +kernel
theorem dX8_isAsking_23 : decode cX8_isAsking 23 = .ok (.iconst 0, 1) := by decide +kernel
theorem dX8_isAsking_24 : decode cX8_isAsking 24 = .ok (.ireturn, 1) := by decide +kernel
theorem dX8_timeOf_0 : decode cX8_timeOf 0 = .ok (.aload_n 0, 1) := by decide +kernel
theorem dX8_timeOf_1 : decode cX8_timeOf 1 = .ok (.getfield 50, 3) := by decide +kernel
theorem dX8_timeOf_4 : decode cX8_timeOf 4 = .ok (.iload_n 1, 1) := by decide +kernel
theorem dX8_timeOf_5 : decode cX8_timeOf 5 = .ok (.iaload, 1) := by decide +kernel
theorem dX8_timeOf_6 : decode cX8_timeOf 6 = .ok (.iconst 3, 1) := by decide +kernel
theorem dX8_timeOf_7 : decode cX8_timeOf 7 = .ok (.if_icmp .eq 23, 3) := by decide +kernel
theorem dX8_timeOf_10 : decode cX8_timeOf 10 = .ok (.aload_n 0, 1) := by decide +kernel
theorem dX8_timeOf_11 : decode cX8_timeOf 11 = .ok (.getfield 50, 3) := by decide +kernel
theorem dX8_timeOf_14 : decode cX8_timeOf 14 = .ok (.iload_n 1, 1) := by decide +kernel
theorem dX8_timeOf_15 : decode cX8_timeOf 15 = .ok (.iaload, 1) := by decide +kernel
theorem dX8_timeOf_16 : decode cX8_timeOf 16 = .ok (.iconst 4, 1) := by decide +kernel
theorem dX8_timeOf_17 : decode cX8_timeOf 17 = .ok (.if_icmp .eq 13, 3) := by decide +kernel
theorem dX8_timeOf_20 : decode cX8_timeOf 20 = .ok (.aload_n 0, 1) := by decide +kernel
theorem dX8_timeOf_21 : decode cX8_timeOf 21 = .ok (.getfield 50, 3) := by decide +kernel
theorem dX8_timeOf_24 : decode cX8_timeOf 24 = .ok (.iload_n 1, 1) := by decide +kernel
theorem dX8_timeOf_25 : decode cX8_timeOf 25 = .ok (.iaload, 1) := by decide +kernel
theorem dX8_timeOf_26 : decode cX8_timeOf 26 = .ok (.iconst 5, 1) := by decide +kernel
theorem dX8_timeOf_27 : decode cX8_timeOf 27 = .ok (.if_icmp .ne 7, 3) := by decide +kernel
theorem dX8_timeOf_30 : decode cX8_timeOf 30 = .ok (.iconst 1, 1) := by decide +kernel
theorem dX8_timeOf_31 : decode cX8_timeOf 31 = .ok (.goto 4, 3) := by decide +kernel
theorem dX8_timeOf_34 : decode cX8_timeOf 34 = .ok (.iconst 0, 1) := by decide +kernel
theorem dX8_timeOf_35 : decode cX8_timeOf 35 = .ok (.ireturn, 1) := by decide +kernel
theorem dX8_votesOf_0 : decode cX8_votesOf 0 = .ok (.iconst 0, 1) := by decide +kernel
theorem dX8_votesOf_1 : decode cX8_votesOf 1 = .ok (.istore_n 2, 1) := by decide +kernel
theorem dX8_votesOf_2 : decode cX8_votesOf 2 = .ok (.iconst 0, 1) := by decide +kernel
theorem dX8_votesOf_3 : decode cX8_votesOf 3 = .ok (.istore_n 3, 1) := by decide +kernel
theorem dX8_votesOf_4 : decode cX8_votesOf 4 = .ok (.iload_n 3, 1) := by decide +kernel
theorem dX8_votesOf_5 : decode cX8_votesOf 5 = .ok (.aload_n 0, 1) := by decide +kernel
theorem dX8_votesOf_6 : decode cX8_votesOf 6 = .ok (.getfield 160, 3) := by decide +kernel
theorem dX8_votesOf_9 : decode cX8_votesOf 9 = .ok (.if_icmp .ge 41, 3) := by decide +kernel
theorem dX8_votesOf_12 : decode cX8_votesOf 12 = .ok (.iload_n 2, 1) := by decide +kernel
theorem dX8_votesOf_13 : decode cX8_votesOf 13 = .ok (.aload_n 0, 1) := by decide +kernel
theorem dX8_votesOf_14 : decode cX8_votesOf 14 = .ok (.getfield 112, 3) := by decide +kernel
theorem dX8_votesOf_17 : decode cX8_votesOf 17 = .ok (.iload_n 3, 1) := by decide +kernel
theorem dX8_votesOf_18 : decode cX8_votesOf 18 = .ok (.iaload, 1) := by decide +kernel
theorem dX8_votesOf_19 : decode cX8_votesOf 19 = .ok (.iload_n 1, 1) := by decide +kernel
theorem dX8_votesOf_20 : decode cX8_votesOf 20 = .ok (.if_icmp .ne 21, 3) := by decide +kernel
theorem dX8_votesOf_23 : decode cX8_votesOf 23 = .ok (.aload_n 0, 1) := by decide +kernel
theorem dX8_votesOf_24 : decode cX8_votesOf 24 = .ok (.getfield 115, 3) := by decide +kernel
theorem dX8_votesOf_27 : decode cX8_votesOf 27 = .ok (.iload_n 3, 1) := by decide +kernel
theorem dX8_votesOf_28 : decode cX8_votesOf 28 = .ok (.iaload, 1) := by decide +kernel
theorem dX8_votesOf_29 : decode cX8_votesOf 29 = .ok (.aload_n 0, 1) := by decide +kernel
theorem dX8_votesOf_30 : decode cX8_votesOf 30 = .ok (.iload_n 1, 1) := by decide +kernel
theorem dX8_votesOf_31 : decode cX8_votesOf 31 = .ok (.invokevirtual 163, 3) := by decide +kernel
theorem dX8_votesOf_34 : decode cX8_votesOf 34 = .ok (.if_icmp .ne 7, 3) := by decide +kernel
theorem dX8_votesOf_37 : decode cX8_votesOf 37 = .ok (.iconst 1, 1) := by decide +kernel
theorem dX8_votesOf_38 : decode cX8_votesOf 38 = .ok (.goto 4, 3) := by decide +kernel
theorem dX8_votesOf_41 : decode cX8_votesOf 41 = .ok (.iconst 0, 1) := by decide +kernel
theorem dX8_votesOf_42 : decode cX8_votesOf 42 = .ok (.iadd, 1) := by decide +kernel
theorem dX8_votesOf_43 : decode cX8_votesOf 43 = .ok (.istore_n 2, 1) := by decide +kernel
theorem dX8_votesOf_44 : decode cX8_votesOf 44 = .ok (.iinc 3 1, 3) := by decide +kernel
theorem dX8_votesOf_47 : decode cX8_votesOf 47 = .ok (.goto (-43), 3) := by decide +kernel
theorem dX8_votesOf_50 : decode cX8_votesOf 50 = .ok (.iload_n 2, 1) := by decide +kernel
theorem dX8_votesOf_51 : decode cX8_votesOf 51 = .ok (.ireturn, 1) := by decide +kernel
theorem dX8_giftsOf_0 : decode cX8_giftsOf 0 = .ok (.iconst 0, 1) := by decide +kernel
theorem dX8_giftsOf_1 : decode cX8_giftsOf 1 = .ok (.istore_n 3, 1) := by decide +kernel
theorem dX8_giftsOf_2 : decode cX8_giftsOf 2 = .ok (.iconst 0, 1) := by decide +kernel
theorem dX8_giftsOf_3 : decode cX8_giftsOf 3 = .ok (.istore 4, 2) := by decide +kernel
theorem dX8_giftsOf_5 : decode cX8_giftsOf 5 = .ok (.iload 4, 2) := by decide +kernel
theorem dX8_giftsOf_7 : decode cX8_giftsOf 7 = .ok (.aload_n 0, 1) := by decide +kernel
theorem dX8_giftsOf_8 : decode cX8_giftsOf 8 = .ok (.getfield 153, 3) := by decide +kernel
theorem dX8_giftsOf_11 : decode cX8_giftsOf 11 = .ok (.if_icmp .ge 47, 3) := by decide +kernel
theorem dX8_giftsOf_14 : decode cX8_giftsOf 14 = .ok (.iload_n 3, 1) := by decide +kernel
theorem dX8_giftsOf_15 : decode cX8_giftsOf 15 = .ok (.iload_n 1, 1) := by decide +kernel
theorem dX8_giftsOf_16 : decode cX8_giftsOf 16 = .ok (.ifCond .lt 14, 3) := by decide +kernel
theorem dX8_giftsOf_19 : decode cX8_giftsOf 19 = .ok (.aload_n 0, 1) := by decide +kernel
theorem dX8_giftsOf_20 : decode cX8_giftsOf 20 = .ok (.getfield 103, 3) := by decide +kernel
theorem dX8_giftsOf_23 : decode cX8_giftsOf 23 = .ok (.iload 4, 2) := by decide +kernel
theorem dX8_giftsOf_25 : decode cX8_giftsOf 25 = .ok (.iaload, 1) := by decide +kernel
theorem dX8_giftsOf_26 : decode cX8_giftsOf 26 = .ok (.iload_n 1, 1) := by decide +kernel
theorem dX8_giftsOf_27 : decode cX8_giftsOf 27 = .ok (.if_icmp .ne 22, 3) := by decide +kernel
theorem dX8_giftsOf_30 : decode cX8_giftsOf 30 = .ok (.iload_n 2, 1) := by decide +kernel
theorem dX8_giftsOf_31 : decode cX8_giftsOf 31 = .ok (.ifCond .lt 14, 3) := by decide +kernel
theorem dX8_giftsOf_34 : decode cX8_giftsOf 34 = .ok (.aload_n 0, 1) := by decide +kernel
theorem dX8_giftsOf_35 : decode cX8_giftsOf 35 = .ok (.getfield 106, 3) := by decide +kernel
theorem dX8_giftsOf_38 : decode cX8_giftsOf 38 = .ok (.iload 4, 2) := by decide +kernel
theorem dX8_giftsOf_40 : decode cX8_giftsOf 40 = .ok (.iaload, 1) := by decide +kernel
theorem dX8_giftsOf_41 : decode cX8_giftsOf 41 = .ok (.iload_n 2, 1) := by decide +kernel
theorem dX8_giftsOf_42 : decode cX8_giftsOf 42 = .ok (.if_icmp .ne 7, 3) := by decide +kernel
theorem dX8_giftsOf_45 : decode cX8_giftsOf 45 = .ok (.iconst 1, 1) := by decide +kernel
theorem dX8_giftsOf_46 : decode cX8_giftsOf 46 = .ok (.goto 4, 3) := by decide +kernel
theorem dX8_giftsOf_49 : decode cX8_giftsOf 49 = .ok (.iconst 0, 1) := by decide +kernel
theorem dX8_giftsOf_50 : decode cX8_giftsOf 50 = .ok (.iadd, 1) := by decide +kernel
theorem dX8_giftsOf_51 : decode cX8_giftsOf 51 = .ok (.istore_n 3, 1) := by decide +kernel
theorem dX8_giftsOf_52 : decode cX8_giftsOf 52 = .ok (.iinc 4 1, 3) := by decide +kernel
theorem dX8_giftsOf_55 : decode cX8_giftsOf 55 = .ok (.goto (-50), 3) := by decide +kernel
theorem dX8_giftsOf_58 : decode cX8_giftsOf 58 = .ok (.iload_n 3, 1) := by decide +kernel
theorem dX8_giftsOf_59 : decode cX8_giftsOf 59 = .ok (.ireturn, 1) := by decide +kernel
theorem dX8_mayHave_0 : decode cX8_mayHave 0 = .ok (.aload_n 0, 1) := by decide +kernel
theorem dX8_mayHave_1 : decode cX8_mayHave 1 = .ok (.iload_n 2, 1) := by decide +kernel
theorem dX8_mayHave_2 : decode cX8_mayHave 2 = .ok (.invokevirtual 167, 3) := by decide +kernel
theorem dX8_mayHave_5 : decode cX8_mayHave 5 = .ok (.ifCond .eq 55, 3) := by decide +kernel
theorem dX8_mayHave_8 : decode cX8_mayHave 8 = .ok (.aload_n 0, 1) := by decide +kernel
theorem dX8_mayHave_9 : decode cX8_mayHave 9 = .ok (.getfield 99, 3) := by decide +kernel
theorem dX8_mayHave_12 : decode cX8_mayHave 12 = .ok (.iload_n 1, 1) := by decide +kernel
theorem dX8_mayHave_13 : decode cX8_mayHave 13 = .ok (.baload, 1) := by decide +kernel
theorem dX8_mayHave_14 : decode cX8_mayHave 14 = .ok (.ifCond .ne 46, 3) := by decide +kernel
theorem dX8_mayHave_17 : decode cX8_mayHave 17 = .ok (.aload_n 0, 1) := by decide +kernel
theorem dX8_mayHave_18 : decode cX8_mayHave 18 = .ok (.getfield 86, 3) := by decide +kernel
theorem dX8_mayHave_21 : decode cX8_mayHave 21 = .ok (.iload_n 1, 1) := by decide +kernel
theorem dX8_mayHave_22 : decode cX8_mayHave 22 = .ok (.iaload, 1) := by decide +kernel
theorem dX8_mayHave_23 : decode cX8_mayHave 23 = .ok (.aload_n 0, 1) := by decide +kernel
theorem dX8_mayHave_24 : decode cX8_mayHave 24 = .ok (.getfield 47, 3) := by decide +kernel
theorem dX8_mayHave_27 : decode cX8_mayHave 27 = .ok (.iload_n 2, 1) := by decide +kernel
theorem dX8_mayHave_28 : decode cX8_mayHave 28 = .ok (.iaload, 1) := by decide +kernel
theorem dX8_mayHave_29 : decode cX8_mayHave 29 = .ok (.ishr, 1) := by decide +kernel
theorem dX8_mayHave_30 : decode cX8_mayHave 30 = .ok (.iconst 1, 1) := by decide +kernel
theorem dX8_mayHave_31 : decode cX8_mayHave 31 = .ok (.iand, 1) := by decide +kernel
theorem dX8_mayHave_32 : decode cX8_mayHave 32 = .ok (.ifCond .eq 28, 3) := by decide +kernel
theorem dX8_mayHave_35 : decode cX8_mayHave 35 = .ok (.aload_n 0, 1) := by decide +kernel
theorem dX8_mayHave_36 : decode cX8_mayHave 36 = .ok (.getfield 89, 3) := by decide +kernel
theorem dX8_mayHave_39 : decode cX8_mayHave 39 = .ok (.iload_n 1, 1) := by decide +kernel
theorem dX8_mayHave_40 : decode cX8_mayHave 40 = .ok (.laload, 1) := by decide +kernel
theorem dX8_mayHave_41 : decode cX8_mayHave 41 = .ok (.aload_n 0, 1) := by decide +kernel
theorem dX8_mayHave_42 : decode cX8_mayHave 42 = .ok (.getfield 32, 3) := by decide +kernel
theorem dX8_mayHave_45 : decode cX8_mayHave 45 = .ok (.aload_n 0, 1) := by decide +kernel
theorem dX8_mayHave_46 : decode cX8_mayHave 46 = .ok (.getfield 44, 3) := by decide +kernel
theorem dX8_mayHave_49 : decode cX8_mayHave 49 = .ok (.iload_n 2, 1) := by decide +kernel
theorem dX8_mayHave_50 : decode cX8_mayHave 50 = .ok (.iaload, 1) := by decide +kernel
theorem dX8_mayHave_51 : decode cX8_mayHave 51 = .ok (.iaload, 1) := by decide +kernel
theorem dX8_mayHave_52 : decode cX8_mayHave 52 = .ok (.lshr, 1) := by decide +kernel
theorem dX8_mayHave_53 : decode cX8_mayHave 53 = .ok (.lconst 1, 1) := by decide +kernel
theorem dX8_mayHave_54 : decode cX8_mayHave 54 = .ok (.land, 1) := by decide +kernel
theorem dX8_mayHave_55 : decode cX8_mayHave 55 = .ok (.lconst 1, 1) := by decide +kernel
theorem dX8_mayHave_56 : decode cX8_mayHave 56 = .ok (.lcmp, 1) := by decide +kernel
theorem dX8_mayHave_57 : decode cX8_mayHave 57 = .ok (.ifCond .ne 5, 3) := by decide +kernel
theorem dX8_mayHave_60 : decode cX8_mayHave 60 = .ok (.iconst 0, 1) := by decide +kernel
theorem dX8_mayHave_61 : decode cX8_mayHave 61 = .ok (.ireturn, 1) := by decide +kernel
theorem dX8_mayHave_62 : decode cX8_mayHave 62 = .ok (.iconst 0, 1) := by decide +kernel
theorem dX8_mayHave_63 : decode cX8_mayHave 63 = .ok (.istore_n 3, 1) := by decide +kernel
theorem dX8_mayHave_64 : decode cX8_mayHave 64 = .ok (.iload_n 3, 1) := by decide +kernel
theorem dX8_mayHave_65 : decode cX8_mayHave 65 = .ok (.aload_n 0, 1) := by decide +kernel
theorem dX8_mayHave_66 : decode cX8_mayHave 66 = .ok (.getfield 160, 3) := by decide +kernel
theorem dX8_mayHave_69 : decode cX8_mayHave 69 = .ok (.if_icmp .ge 31, 3) := by decide +kernel
theorem dX8_mayHave_72 : decode cX8_mayHave 72 = .ok (.aload_n 0, 1) := by decide +kernel
theorem dX8_mayHave_73 : decode cX8_mayHave 73 = .ok (.getfield 109, 3) := by decide +kernel
theorem dX8_mayHave_76 : decode cX8_mayHave 76 = .ok (.iload_n 3, 1) := by decide +kernel
theorem dX8_mayHave_77 : decode cX8_mayHave 77 = .ok (.iaload, 1) := by decide +kernel
theorem dX8_mayHave_78 : decode cX8_mayHave 78 = .ok (.iload_n 1, 1) := by decide +kernel
theorem dX8_mayHave_79 : decode cX8_mayHave 79 = .ok (.if_icmp .ne 15, 3) := by decide +kernel
theorem dX8_mayHave_82 : decode cX8_mayHave 82 = .ok (.aload_n 0, 1) := by decide +kernel
theorem dX8_mayHave_83 : decode cX8_mayHave 83 = .ok (.getfield 112, 3) := by decide +kernel
theorem dX8_mayHave_86 : decode cX8_mayHave 86 = .ok (.iload_n 3, 1) := by decide +kernel
theorem dX8_mayHave_87 : decode cX8_mayHave 87 = .ok (.iaload, 1) := by decide +kernel
theorem dX8_mayHave_88 : decode cX8_mayHave 88 = .ok (.iload_n 2, 1) := by decide +kernel
theorem dX8_mayHave_89 : decode cX8_mayHave 89 = .ok (.if_icmp .ne 5, 3) := by decide +kernel
theorem dX8_mayHave_92 : decode cX8_mayHave 92 = .ok (.iconst 0, 1) := by decide +kernel
theorem dX8_mayHave_93 : decode cX8_mayHave 93 = .ok (.ireturn, 1) := by decide +kernel
theorem dX8_mayHave_94 : decode cX8_mayHave 94 = .ok (.iinc 3 1, 3) := by decide +kernel
theorem dX8_mayHave_97 : decode cX8_mayHave 97 = .ok (.goto (-33), 3) := by decide +kernel
theorem dX8_mayHave_100 : decode cX8_mayHave 100 = .ok (.aload_n 0, 1) := by decide +kernel
theorem dX8_mayHave_101 : decode cX8_mayHave 101 = .ok (.iload_n 1, 1) := by decide +kernel
theorem dX8_mayHave_102 : decode cX8_mayHave 102 = .ok (.iload_n 2, 1) := by decide +kernel
theorem dX8_mayHave_103 : decode cX8_mayHave 103 = .ok (.invokevirtual 170, 3) := by decide +kernel
theorem dX8_mayHave_106 : decode cX8_mayHave 106 = .ok (.ifCond .ne 43, 3) := by decide +kernel
theorem dX8_mayHave_109 : decode cX8_mayHave 109 = .ok (.aload_n 0, 1) := by decide +kernel
theorem dX8_mayHave_110 : decode cX8_mayHave 110 = .ok (.iload_n 1, 1) := by decide +kernel
theorem dX8_mayHave_111 : decode cX8_mayHave 111 = .ok (.iconst (-1), 1) := by decide +kernel
theorem dX8_mayHave_112 : decode cX8_mayHave 112 = .ok (.invokevirtual 170, 3) := by decide +kernel
theorem dX8_mayHave_115 : decode cX8_mayHave 115 = .ok (.aload_n 0, 1) := by decide +kernel
theorem dX8_mayHave_116 : decode cX8_mayHave 116 = .ok (.getfield 93, 3) := by decide +kernel
theorem dX8_mayHave_119 : decode cX8_mayHave 119 = .ok (.iload_n 1, 1) := by decide +kernel
theorem dX8_mayHave_120 : decode cX8_mayHave 120 = .ok (.iaload, 1) := by decide +kernel
theorem dX8_mayHave_121 : decode cX8_mayHave 121 = .ok (.if_icmp .ge 28, 3) := by decide +kernel
theorem dX8_mayHave_124 : decode cX8_mayHave 124 = .ok (.aload_n 0, 1) := by decide +kernel
theorem dX8_mayHave_125 : decode cX8_mayHave 125 = .ok (.iload_n 2, 1) := by decide +kernel
theorem dX8_mayHave_126 : decode cX8_mayHave 126 = .ok (.invokevirtual 174, 3) := by decide +kernel
theorem dX8_mayHave_129 : decode cX8_mayHave 129 = .ok (.aload_n 0, 1) := by decide +kernel
theorem dX8_mayHave_130 : decode cX8_mayHave 130 = .ok (.iconst (-1), 1) := by decide +kernel
theorem dX8_mayHave_131 : decode cX8_mayHave 131 = .ok (.iload_n 2, 1) := by decide +kernel
theorem dX8_mayHave_132 : decode cX8_mayHave 132 = .ok (.invokevirtual 170, 3) := by decide +kernel
theorem dX8_mayHave_135 : decode cX8_mayHave 135 = .ok (.iadd, 1) := by decide +kernel
theorem dX8_mayHave_136 : decode cX8_mayHave 136 = .ok (.aload_n 0, 1) := by decide +kernel
theorem dX8_mayHave_137 : decode cX8_mayHave 137 = .ok (.getfield 62, 3) := by decide +kernel
theorem dX8_mayHave_140 : decode cX8_mayHave 140 = .ok (.iload_n 2, 1) := by decide +kernel
theorem dX8_mayHave_141 : decode cX8_mayHave 141 = .ok (.iaload, 1) := by decide +kernel
theorem dX8_mayHave_142 : decode cX8_mayHave 142 = .ok (.if_icmp .ge 7, 3) := by decide +kernel
theorem dX8_mayHave_145 : decode cX8_mayHave 145 = .ok (.iconst 1, 1) := by decide +kernel
theorem dX8_mayHave_146 : decode cX8_mayHave 146 = .ok (.goto 4, 3) := by decide +kernel
theorem dX8_mayHave_149 : decode cX8_mayHave 149 = .ok (.iconst 0, 1) := by decide +kernel
theorem dX8_mayHave_150 : decode cX8_mayHave 150 = .ok (.ireturn, 1) := by decide +kernel
theorem dX8_nextOf_0 : decode cX8_nextOf 0 = .ok (.bipush (-4), 2) := by decide +kernel
theorem dX8_nextOf_2 : decode cX8_nextOf 2 = .ok (.istore_n 2, 1) := by decide +kernel
theorem dX8_nextOf_3 : decode cX8_nextOf 3 = .ok (.iconst 0, 1) := by decide +kernel
theorem dX8_nextOf_4 : decode cX8_nextOf 4 = .ok (.istore_n 3, 1) := by decide +kernel
theorem dX8_nextOf_5 : decode cX8_nextOf 5 = .ok (.iload_n 3, 1) := by decide +kernel
theorem dX8_nextOf_6 : decode cX8_nextOf 6 = .ok (.aload_n 0, 1) := by decide +kernel
theorem dX8_nextOf_7 : decode cX8_nextOf 7 = .ok (.getfield 133, 3) := by decide +kernel
theorem dX8_nextOf_10 : decode cX8_nextOf 10 = .ok (.if_icmp .ge 73, 3) := by decide +kernel
theorem dX8_nextOf_13 : decode cX8_nextOf 13 = .ok (.aload_n 0, 1) := by decide +kernel
theorem dX8_nextOf_14 : decode cX8_nextOf 14 = .ok (.iload_n 1, 1) := by decide +kernel
theorem dX8_nextOf_15 : decode cX8_nextOf 15 = .ok (.iload_n 3, 1) := by decide +kernel
theorem dX8_nextOf_16 : decode cX8_nextOf 16 = .ok (.invokevirtual 177, 3) := by decide +kernel
theorem dX8_nextOf_19 : decode cX8_nextOf 19 = .ok (.ifCond .eq 58, 3) := by decide +kernel
theorem dX8_nextOf_22 : decode cX8_nextOf 22 = .ok (.iload_n 2, 1) := by decide +kernel
theorem dX8_nextOf_23 : decode cX8_nextOf 23 = .ok (.ifCond .lt 52, 3) := by decide +kernel
theorem dX8_nextOf_26 : decode cX8_nextOf 26 = .ok (.aload_n 0, 1) := by decide +kernel
theorem dX8_nextOf_27 : decode cX8_nextOf 27 = .ok (.getfield 13, 3) := by decide +kernel
theorem dX8_nextOf_30 : decode cX8_nextOf 30 = .ok (.aload_n 0, 1) := by decide +kernel
theorem dX8_nextOf_31 : decode cX8_nextOf 31 = .ok (.getfield 47, 3) := by decide +kernel
theorem dX8_nextOf_34 : decode cX8_nextOf 34 = .ok (.iload_n 3, 1) := by decide +kernel
theorem dX8_nextOf_35 : decode cX8_nextOf 35 = .ok (.iaload, 1) := by decide +kernel
theorem dX8_nextOf_36 : decode cX8_nextOf 36 = .ok (.iaload, 1) := by decide +kernel
theorem dX8_nextOf_37 : decode cX8_nextOf 37 = .ok (.aload_n 0, 1) := by decide +kernel
theorem dX8_nextOf_38 : decode cX8_nextOf 38 = .ok (.getfield 38, 3) := by decide +kernel
theorem dX8_nextOf_41 : decode cX8_nextOf 41 = .ok (.aload_n 0, 1) := by decide +kernel
theorem dX8_nextOf_42 : decode cX8_nextOf 42 = .ok (.getfield 44, 3) := by decide +kernel
theorem dX8_nextOf_45 : decode cX8_nextOf 45 = .ok (.iload_n 3, 1) := by decide +kernel
theorem dX8_nextOf_46 : decode cX8_nextOf 46 = .ok (.iaload, 1) := by decide +kernel
theorem dX8_nextOf_47 : decode cX8_nextOf 47 = .ok (.iaload, 1) := by decide +kernel
theorem dX8_nextOf_48 : decode cX8_nextOf 48 = .ok (.imul, 1) := by decide +kernel
theorem dX8_nextOf_49 : decode cX8_nextOf 49 = .ok (.aload_n 0, 1) := by decide +kernel
theorem dX8_nextOf_50 : decode cX8_nextOf 50 = .ok (.getfield 13, 3) := by decide +kernel
theorem dX8_nextOf_53 : decode cX8_nextOf 53 = .ok (.aload_n 0, 1) := by decide +kernel
theorem dX8_nextOf_54 : decode cX8_nextOf 54 = .ok (.getfield 47, 3) := by decide +kernel
theorem dX8_nextOf_57 : decode cX8_nextOf 57 = .ok (.iload_n 2, 1) := by decide +kernel
theorem dX8_nextOf_58 : decode cX8_nextOf 58 = .ok (.iaload, 1) := by decide +kernel
theorem dX8_nextOf_59 : decode cX8_nextOf 59 = .ok (.iaload, 1) := by decide +kernel
theorem dX8_nextOf_60 : decode cX8_nextOf 60 = .ok (.aload_n 0, 1) := by decide +kernel
theorem dX8_nextOf_61 : decode cX8_nextOf 61 = .ok (.getfield 38, 3) := by decide +kernel
theorem dX8_nextOf_64 : decode cX8_nextOf 64 = .ok (.aload_n 0, 1) := by decide +kernel
theorem dX8_nextOf_65 : decode cX8_nextOf 65 = .ok (.getfield 44, 3) := by decide +kernel
theorem dX8_nextOf_68 : decode cX8_nextOf 68 = .ok (.iload_n 2, 1) := by decide +kernel
theorem dX8_nextOf_69 : decode cX8_nextOf 69 = .ok (.iaload, 1) := by decide +kernel
theorem dX8_nextOf_70 : decode cX8_nextOf 70 = .ok (.iaload, 1) := by decide +kernel
theorem dX8_nextOf_71 : decode cX8_nextOf 71 = .ok (.imul, 1) := by decide +kernel
theorem dX8_nextOf_72 : decode cX8_nextOf 72 = .ok (.if_icmp .le 5, 3) := by decide +kernel
theorem dX8_nextOf_75 : decode cX8_nextOf 75 = .ok (.iload_n 3, 1) := by decide +kernel
theorem dX8_nextOf_76 : decode cX8_nextOf 76 = .ok (.istore_n 2, 1) := by decide +kernel
theorem dX8_nextOf_77 : decode cX8_nextOf 77 = .ok (.iinc 3 1, 3) := by decide +kernel
theorem dX8_nextOf_80 : decode cX8_nextOf 80 = .ok (.goto (-75), 3) := by decide +kernel
theorem dX8_nextOf_83 : decode cX8_nextOf 83 = .ok (.iload_n 2, 1) := by decide +kernel
theorem dX8_nextOf_84 : decode cX8_nextOf 84 = .ok (.ireturn, 1) := by decide +kernel
theorem dX8_next_0 : decode cX8_next 0 = .ok (.iload_n 1, 1) := by decide +kernel
theorem dX8_next_1 : decode cX8_next 1 = .ok (.invokestatic 147, 3) := by decide +kernel
theorem dX8_next_4 : decode cX8_next 4 = .ok (.ifCond .eq 11, 3) := by decide +kernel
theorem dX8_next_7 : decode cX8_next 7 = .ok (.aload_n 0, 1) := by decide +kernel
theorem dX8_next_8 : decode cX8_next 8 = .ok (.iload_n 1, 1) := by decide +kernel
theorem dX8_next_9 : decode cX8_next 9 = .ok (.invokevirtual 181, 3) := by decide +kernel
theorem dX8_next_12 : decode cX8_next 12 = .ok (.goto 4, 3) := by decide +kernel
theorem dX8_next_15 : decode cX8_next 15 = .ok (.iconst (-1), 1) := by decide +kernel
theorem dX8_next_16 : decode cX8_next 16 = .ok (.ireturn, 1) := by decide +kernel
theorem dX8_give_0 : decode cX8_give 0 = .ok (.iload_n 1, 1) := by decide +kernel
theorem dX8_give_1 : decode cX8_give 1 = .ok (.invokestatic 147, 3) := by decide +kernel
theorem dX8_give_4 : decode cX8_give 4 = .ok (.ifCond .ne 5, 3) := by decide +kernel
theorem dX8_give_7 : decode cX8_give 7 = .ok (.iconst (-1), 1) := by decide +kernel
theorem dX8_give_8 : decode cX8_give 8 = .ok (.ireturn, 1) := by decide +kernel
theorem dX8_give_9 : decode cX8_give 9 = .ok (.aload_n 0, 1) := by decide +kernel
theorem dX8_give_10 : decode cX8_give 10 = .ok (.iload_n 1, 1) := by decide +kernel
theorem dX8_give_11 : decode cX8_give 11 = .ok (.invokevirtual 181, 3) := by decide +kernel
theorem dX8_give_14 : decode cX8_give 14 = .ok (.istore_n 2, 1) := by decide +kernel
theorem dX8_give_15 : decode cX8_give 15 = .ok (.iload_n 2, 1) := by decide +kernel
theorem dX8_give_16 : decode cX8_give 16 = .ok (.ifCond .lt 33, 3) := by decide +kernel
theorem dX8_give_19 : decode cX8_give 19 = .ok (.aload_n 0, 1) := by decide +kernel
theorem dX8_give_20 : decode cX8_give 20 = .ok (.getfield 103, 3) := by decide +kernel
theorem dX8_give_23 : decode cX8_give 23 = .ok (.aload_n 0, 1) := by decide +kernel
theorem dX8_give_24 : decode cX8_give 24 = .ok (.getfield 153, 3) := by decide +kernel
theorem dX8_give_27 : decode cX8_give 27 = .ok (.iload_n 1, 1) := by decide +kernel
theorem dX8_give_28 : decode cX8_give 28 = .ok (.iastore, 1) := by decide +kernel
theorem dX8_give_29 : decode cX8_give 29 = .ok (.aload_n 0, 1) := by decide +kernel
theorem dX8_give_30 : decode cX8_give 30 = .ok (.getfield 106, 3) := by decide +kernel
theorem dX8_give_33 : decode cX8_give 33 = .ok (.aload_n 0, 1) := by decide +kernel
theorem dX8_give_34 : decode cX8_give 34 = .ok (.getfield 153, 3) := by decide +kernel
theorem dX8_give_37 : decode cX8_give 37 = .ok (.iload_n 2, 1) := by decide +kernel
theorem dX8_give_38 : decode cX8_give 38 = .ok (.iastore, 1) := by decide +kernel
theorem dX8_give_39 : decode cX8_give 39 = .ok (.aload_n 0, 1) := by decide +kernel
theorem dX8_give_40 : decode cX8_give 40 = .ok (.dup, 1) := by decide +kernel
theorem dX8_give_41 : decode cX8_give 41 = .ok (.getfield 153, 3) := by decide +kernel
theorem dX8_give_44 : decode cX8_give 44 = .ok (.iconst 1, 1) := by decide +kernel
theorem dX8_give_45 : decode cX8_give 45 = .ok (.iadd, 1) := by decide +kernel
theorem dX8_give_46 : decode cX8_give 46 = .ok (.putfield 153, 3) := by decide +kernel
theorem dX8_give_49 : decode cX8_give 49 = .ok (.iload_n 2, 1) := by decide +kernel
theorem dX8_give_50 : decode cX8_give 50 = .ok (.ireturn, 1) := by decide +kernel
theorem dX8_undo_0 : decode cX8_undo 0 = .ok (.aload_n 0, 1) := by decide +kernel
theorem dX8_undo_1 : decode cX8_undo 1 = .ok (.getfield 153, 3) := by decide +kernel
theorem dX8_undo_4 : decode cX8_undo 4 = .ok (.ifCond .ne 6, 3) := by decide +kernel
theorem dX8_undo_7 : decode cX8_undo 7 = .ok (.bipush (-4), 2) := by decide +kernel
theorem dX8_undo_9 : decode cX8_undo 9 = .ok (.ireturn, 1) := by decide +kernel
theorem dX8_undo_10 : decode cX8_undo 10 = .ok (.aload_n 0, 1) := by decide +kernel
theorem dX8_undo_11 : decode cX8_undo 11 = .ok (.dup, 1) := by decide +kernel
theorem dX8_undo_12 : decode cX8_undo 12 = .ok (.getfield 153, 3) := by decide +kernel
theorem dX8_undo_15 : decode cX8_undo 15 = .ok (.iconst 1, 1) := by decide +kernel
theorem dX8_undo_16 : decode cX8_undo 16 = .ok (.isub, 1) := by decide +kernel
theorem dX8_undo_17 : decode cX8_undo 17 = .ok (.putfield 153, 3) := by decide +kernel
theorem dX8_undo_20 : decode cX8_undo 20 = .ok (.aload_n 0, 1) := by decide +kernel
theorem dX8_undo_21 : decode cX8_undo 21 = .ok (.getfield 106, 3) := by decide +kernel
theorem dX8_undo_24 : decode cX8_undo 24 = .ok (.aload_n 0, 1) := by decide +kernel
theorem dX8_undo_25 : decode cX8_undo 25 = .ok (.getfield 153, 3) := by decide +kernel
theorem dX8_undo_28 : decode cX8_undo 28 = .ok (.iaload, 1) := by decide +kernel
theorem dX8_undo_29 : decode cX8_undo 29 = .ok (.ireturn, 1) := by decide +kernel
theorem dX8_may_0 : decode cX8_may 0 = .ok (.iload_n 1, 1) := by decide +kernel
theorem dX8_may_1 : decode cX8_may 1 = .ok (.invokestatic 147, 3) := by decide +kernel
theorem dX8_may_4 : decode cX8_may 4 = .ok (.ifCond .eq 28, 3) := by decide +kernel
theorem dX8_may_7 : decode cX8_may 7 = .ok (.aload_n 0, 1) := by decide +kernel
theorem dX8_may_8 : decode cX8_may 8 = .ok (.iload_n 2, 1) := by decide +kernel
theorem dX8_may_9 : decode cX8_may 9 = .ok (.invokevirtual 184, 3) := by decide +kernel
theorem dX8_may_12 : decode cX8_may 12 = .ok (.ifCond .eq 20, 3) := by decide +kernel
theorem dX8_may_15 : decode cX8_may 15 = .ok (.aload_n 0, 1) := by decide +kernel
theorem dX8_may_16 : decode cX8_may 16 = .ok (.iload_n 1, 1) := by decide +kernel
theorem dX8_may_17 : decode cX8_may 17 = .ok (.iload_n 2, 1) := by decide +kernel
theorem dX8_may_18 : decode cX8_may 18 = .ok (.invokevirtual 177, 3) := by decide +kernel
theorem dX8_may_21 : decode cX8_may 21 = .ok (.ifCond .eq 7, 3) := by decide +kernel
theorem dX8_may_24 : decode cX8_may 24 = .ok (.iconst 1, 1) := by decide +kernel
theorem dX8_may_25 : decode cX8_may 25 = .ok (.goto 8, 3) := by decide +kernel
theorem dX8_may_28 : decode cX8_may 28 = .ok (.iconst 0, 1) := by decide +kernel
theorem dX8_may_29 : decode cX8_may 29 = .ok (.goto 4, 3) := by decide +kernel
theorem dX8_may_32 : decode cX8_may 32 = .ok (.iconst (-1), 1) := by decide +kernel
theorem dX8_may_33 : decode cX8_may 33 = .ok (.ireturn, 1) := by decide +kernel
theorem dX8_against_0 : decode cX8_against 0 = .ok (.aload_n 0, 1) := by decide +kernel
theorem dX8_against_1 : decode cX8_against 1 = .ok (.getfield 112, 3) := by decide +kernel
theorem dX8_against_4 : decode cX8_against 4 = .ok (.iload_n 1, 1) := by decide +kernel
theorem dX8_against_5 : decode cX8_against 5 = .ok (.iaload, 1) := by decide +kernel
theorem dX8_against_6 : decode cX8_against 6 = .ok (.istore_n 2, 1) := by decide +kernel
theorem dX8_against_7 : decode cX8_against 7 = .ok (.aload_n 0, 1) := by decide +kernel
theorem dX8_against_8 : decode cX8_against 8 = .ok (.getfield 71, 3) := by decide +kernel
theorem dX8_against_11 : decode cX8_against 11 = .ok (.iload_n 2, 1) := by decide +kernel
theorem dX8_against_12 : decode cX8_against 12 = .ok (.iaload, 1) := by decide +kernel
theorem dX8_against_13 : decode cX8_against 13 = .ok (.ifCond .lt 12, 3) := by decide +kernel
theorem dX8_against_16 : decode cX8_against 16 = .ok (.aload_n 0, 1) := by decide +kernel
theorem dX8_against_17 : decode cX8_against 17 = .ok (.getfield 71, 3) := by decide +kernel
theorem dX8_against_20 : decode cX8_against 20 = .ok (.iload_n 2, 1) := by decide +kernel
theorem dX8_against_21 : decode cX8_against 21 = .ok (.iaload, 1) := by decide +kernel
theorem dX8_against_22 : decode cX8_against 22 = .ok (.goto 18, 3) := by decide +kernel
theorem dX8_against_25 : decode cX8_against 25 = .ok (.aload_n 0, 1) := by decide +kernel
theorem dX8_against_26 : decode cX8_against 26 = .ok (.getfield 74, 3) := by decide +kernel
theorem dX8_against_29 : decode cX8_against 29 = .ok (.iconst 2, 1) := by decide +kernel
theorem dX8_against_30 : decode cX8_against 30 = .ok (.iload_n 2, 1) := by decide +kernel
theorem dX8_against_31 : decode cX8_against 31 = .ok (.imul, 1) := by decide +kernel
theorem dX8_against_32 : decode cX8_against 32 = .ok (.aload_n 0, 1) := by decide +kernel
theorem dX8_against_33 : decode cX8_against 33 = .ok (.getfield 115, 3) := by decide +kernel
theorem dX8_against_36 : decode cX8_against 36 = .ok (.iload_n 1, 1) := by decide +kernel
theorem dX8_against_37 : decode cX8_against 37 = .ok (.iaload, 1) := by decide +kernel
theorem dX8_against_38 : decode cX8_against 38 = .ok (.iadd, 1) := by decide +kernel
theorem dX8_against_39 : decode cX8_against 39 = .ok (.iaload, 1) := by decide +kernel
theorem dX8_against_40 : decode cX8_against 40 = .ok (.ireturn, 1) := by decide +kernel
theorem dX8_doubt_0 : decode cX8_doubt 0 = .ok (.iconst 0, 1) := by decide +kernel
theorem dX8_doubt_1 : decode cX8_doubt 1 = .ok (.istore_n 3, 1) := by decide +kernel
theorem dX8_doubt_2 : decode cX8_doubt 2 = .ok (.iconst 0, 1) := by decide +kernel
theorem dX8_doubt_3 : decode cX8_doubt 3 = .ok (.istore 4, 2) := by decide +kernel
theorem dX8_doubt_5 : decode cX8_doubt 5 = .ok (.iload 4, 2) := by decide +kernel
theorem dX8_doubt_7 : decode cX8_doubt 7 = .ok (.aload_n 0, 1) := by decide +kernel
theorem dX8_doubt_8 : decode cX8_doubt 8 = .ok (.getfield 160, 3) := by decide +kernel
theorem dX8_doubt_11 : decode cX8_doubt 11 = .ok (.if_icmp .ge 57, 3) := by decide +kernel
theorem dX8_doubt_14 : decode cX8_doubt 14 = .ok (.aload_n 0, 1) := by decide +kernel
theorem dX8_doubt_15 : decode cX8_doubt 15 = .ok (.iload 4, 2) := by decide +kernel
theorem dX8_doubt_17 : decode cX8_doubt 17 = .ok (.invokevirtual 187, 3) := by decide +kernel
theorem dX8_doubt_20 : decode cX8_doubt 20 = .ok (.istore 5, 2) := by decide +kernel
theorem dX8_doubt_22 : decode cX8_doubt 22 = .ok (.iload_n 3, 1) := by decide +kernel
theorem dX8_doubt_23 : decode cX8_doubt 23 = .ok (.aload_n 0, 1) := by decide +kernel
theorem dX8_doubt_24 : decode cX8_doubt 24 = .ok (.getfield 109, 3) := by decide +kernel
theorem dX8_doubt_27 : decode cX8_doubt 27 = .ok (.iload 4, 2) := by decide +kernel
theorem dX8_doubt_29 : decode cX8_doubt 29 = .ok (.iaload, 1) := by decide +kernel
theorem dX8_doubt_30 : decode cX8_doubt 30 = .ok (.iload_n 1, 1) := by decide +kernel
theorem dX8_doubt_31 : decode cX8_doubt 31 = .ok (.if_icmp .ne 28, 3) := by decide +kernel
theorem dX8_doubt_34 : decode cX8_doubt 34 = .ok (.iload 5, 2) := by decide +kernel
theorem dX8_doubt_36 : decode cX8_doubt 36 = .ok (.ifCond .lt 23, 3) := by decide +kernel
theorem dX8_doubt_39 : decode cX8_doubt 39 = .ok (.iload_n 2, 1) := by decide +kernel
theorem dX8_doubt_40 : decode cX8_doubt 40 = .ok (.ifCond .eq 15, 3) := by decide +kernel
theorem dX8_doubt_43 : decode cX8_doubt 43 = .ok (.aload_n 0, 1) := by decide +kernel
theorem dX8_doubt_44 : decode cX8_doubt 44 = .ok (.getfield 118, 3) := by decide +kernel
theorem dX8_doubt_47 : decode cX8_doubt 47 = .ok (.iload 4, 2) := by decide +kernel
theorem dX8_doubt_49 : decode cX8_doubt 49 = .ok (.iaload, 1) := by decide +kernel
theorem dX8_doubt_50 : decode cX8_doubt 50 = .ok (.iload 5, 2) := by decide +kernel
theorem dX8_doubt_52 : decode cX8_doubt 52 = .ok (.if_icmp .eq 7, 3) := by decide +kernel
theorem dX8_doubt_55 : decode cX8_doubt 55 = .ok (.iconst 1, 1) := by decide +kernel
theorem dX8_doubt_56 : decode cX8_doubt 56 = .ok (.goto 4, 3) := by decide +kernel
theorem dX8_doubt_59 : decode cX8_doubt 59 = .ok (.iconst 0, 1) := by decide +kernel
theorem dX8_doubt_60 : decode cX8_doubt 60 = .ok (.iadd, 1) := by decide +kernel
theorem dX8_doubt_61 : decode cX8_doubt 61 = .ok (.istore_n 3, 1) := by decide +kernel
theorem dX8_doubt_62 : decode cX8_doubt 62 = .ok (.iinc 4 1, 3) := by decide +kernel
theorem dX8_doubt_65 : decode cX8_doubt 65 = .ok (.goto (-60), 3) := by decide +kernel
theorem dX8_doubt_68 : decode cX8_doubt 68 = .ok (.iload_n 3, 1) := by decide +kernel
theorem dX8_doubt_69 : decode cX8_doubt 69 = .ok (.ireturn, 1) := by decide +kernel
theorem dX8_lookAtJudges_0 : decode cX8_lookAtJudges 0 = .ok (.iconst 0, 1) := by decide +kernel
theorem dX8_lookAtJudges_1 : decode cX8_lookAtJudges 1 = .ok (.istore_n 1, 1) := by decide +kernel
theorem dX8_lookAtJudges_2 : decode cX8_lookAtJudges 2 = .ok (.iload_n 1, 1) := by decide +kernel
theorem dX8_lookAtJudges_3 : decode cX8_lookAtJudges 3 = .ok (.bipush 20, 2) := by decide +kernel
theorem dX8_lookAtJudges_5 : decode cX8_lookAtJudges 5 = .ok (.if_icmp .ge 51, 3) := by decide +kernel
theorem dX8_lookAtJudges_8 : decode cX8_lookAtJudges 8 = .ok (.aload_n 0, 1) := by decide +kernel
theorem dX8_lookAtJudges_9 : decode cX8_lookAtJudges 9 = .ok (.iload_n 1, 1) := by decide +kernel
theorem dX8_lookAtJudges_10 : decode cX8_lookAtJudges 10 = .ok (.iconst 0, 1) := by decide +kernel
theorem dX8_lookAtJudges_11 : decode cX8_lookAtJudges 11 = .ok (.invokevirtual 190, 3) := by decide +kernel
theorem dX8_lookAtJudges_14 : decode cX8_lookAtJudges 14 = .ok (.istore_n 2, 1) := by decide +kernel
theorem dX8_lookAtJudges_15 : decode cX8_lookAtJudges 15 = .ok (.iload_n 2, 1) := by decide +kernel
theorem dX8_lookAtJudges_16 : decode cX8_lookAtJudges 16 = .ok (.iconst 5, 1) := by decide +kernel
theorem dX8_lookAtJudges_17 : decode cX8_lookAtJudges 17 = .ok (.if_icmp .lt 33, 3) := by decide +kernel
theorem dX8_lookAtJudges_20 : decode cX8_lookAtJudges 20 = .ok (.aload_n 0, 1) := by decide +kernel
theorem dX8_lookAtJudges_21 : decode cX8_lookAtJudges 21 = .ok (.iload_n 1, 1) := by decide +kernel
theorem dX8_lookAtJudges_22 : decode cX8_lookAtJudges 22 = .ok (.iconst 1, 1) := by decide +kernel
theorem dX8_lookAtJudges_23 : decode cX8_lookAtJudges 23 = .ok (.invokevirtual 190, 3) := by decide +kernel
theorem dX8_lookAtJudges_26 : decode cX8_lookAtJudges 26 = .ok (.bipush 100, 2) := by decide +kernel
theorem dX8_lookAtJudges_28 : decode cX8_lookAtJudges 28 = .ok (.imul, 1) := by decide +kernel
theorem dX8_lookAtJudges_29 : decode cX8_lookAtJudges 29 = .ok (.aload_n 0, 1) := by decide +kernel
theorem dX8_lookAtJudges_30 : decode cX8_lookAtJudges 30 = .ok (.getfield 29, 3) := by decide +kernel
theorem dX8_lookAtJudges_33 : decode cX8_lookAtJudges 33 = .ok (.iload_n 2, 1) := by decide +kernel
theorem dX8_lookAtJudges_34 : decode cX8_lookAtJudges 34 = .ok (.imul, 1) := by decide +kernel
theorem dX8_lookAtJudges_35 : decode cX8_lookAtJudges 35 = .ok (.if_icmp .le 15, 3) := by decide +kernel
theorem dX8_lookAtJudges_38 : decode cX8_lookAtJudges 38 = .ok (.aload_n 0, 1) := by decide +kernel
theorem dX8_lookAtJudges_39 : decode cX8_lookAtJudges 39 = .ok (.getfield 99, 3) := by decide +kernel
theorem dX8_lookAtJudges_42 : decode cX8_lookAtJudges 42 = .ok (.iload_n 1, 1) := by decide +kernel
theorem dX8_lookAtJudges_43 : decode cX8_lookAtJudges 43 = .ok (.iconst 1, 1) := by decide +kernel
theorem dX8_lookAtJudges_44 : decode cX8_lookAtJudges 44 = .ok (.bastore, 1) := by decide +kernel
theorem dX8_lookAtJudges_45 : decode cX8_lookAtJudges 45 = .ok (.aload_n 0, 1) := by decide +kernel
theorem dX8_lookAtJudges_46 : decode cX8_lookAtJudges 46 = .ok (.iload_n 1, 1) := by decide +kernel
theorem dX8_lookAtJudges_47 : decode cX8_lookAtJudges 47 = .ok (.invokevirtual 156, 3) := by decide +kernel
theorem dX8_lookAtJudges_50 : decode cX8_lookAtJudges 50 = .ok (.iinc 1 1, 3) := by decide +kernel
theorem dX8_lookAtJudges_53 : decode cX8_lookAtJudges 53 = .ok (.goto (-51), 3) := by decide +kernel
theorem dX8_lookAtJudges_56 : decode cX8_lookAtJudges 56 = .ok (.return_, 1) := by decide +kernel
theorem dX8_vote_0 : decode cX8_vote 0 = .ok (.iload_n 1, 1) := by decide +kernel
theorem dX8_vote_1 : decode cX8_vote 1 = .ok (.invokestatic 147, 3) := by decide +kernel
theorem dX8_vote_4 : decode cX8_vote 4 = .ok (.ifCond .eq 20, 3) := by decide +kernel
theorem dX8_vote_7 : decode cX8_vote 7 = .ok (.aload_n 0, 1) := by decide +kernel
theorem dX8_vote_8 : decode cX8_vote 8 = .ok (.iload_n 2, 1) := by decide +kernel
theorem dX8_vote_9 : decode cX8_vote 9 = .ok (.invokevirtual 184, 3) := by decide +kernel
theorem dX8_vote_12 : decode cX8_vote 12 = .ok (.ifCond .eq 12, 3) := by decide +kernel
theorem dX8_vote_15 : decode cX8_vote 15 = .ok (.iload_n 3, 1) := by decide +kernel
theorem dX8_vote_16 : decode cX8_vote 16 = .ok (.iconst 0, 1) := by decide +kernel
theorem dX8_vote_17 : decode cX8_vote 17 = .ok (.iconst 1, 1) := by decide +kernel
theorem dX8_vote_18 : decode cX8_vote 18 = .ok (.invokestatic 136, 3) := by decide +kernel
theorem dX8_vote_21 : decode cX8_vote 21 = .ok (.ifCond .ne 5, 3) := by decide +kernel
theorem dX8_vote_24 : decode cX8_vote 24 = .ok (.iconst (-1), 1) := by decide +kernel
theorem dX8_vote_25 : decode cX8_vote 25 = .ok (.ireturn, 1) := by decide +kernel
theorem dX8_vote_26 : decode cX8_vote 26 = .ok (.aload_n 0, 1) := by decide +kernel
theorem dX8_vote_27 : decode cX8_vote 27 = .ok (.iload_n 1, 1) := by decide +kernel
theorem dX8_vote_28 : decode cX8_vote 28 = .ok (.iload_n 2, 1) := by decide +kernel
theorem dX8_vote_29 : decode cX8_vote 29 = .ok (.invokevirtual 170, 3) := by decide +kernel
theorem dX8_vote_32 : decode cX8_vote 32 = .ok (.ifCond .ne 6, 3) := by decide +kernel
theorem dX8_vote_35 : decode cX8_vote 35 = .ok (.bipush (-4), 2) := by decide +kernel
theorem dX8_vote_37 : decode cX8_vote 37 = .ok (.ireturn, 1) := by decide +kernel
theorem dX8_vote_38 : decode cX8_vote 38 = .ok (.iconst 0, 1) := by decide +kernel
theorem dX8_vote_39 : decode cX8_vote 39 = .ok (.istore 4, 2) := by decide +kernel
theorem dX8_vote_41 : decode cX8_vote 41 = .ok (.iconst 0, 1) := by decide +kernel
theorem dX8_vote_42 : decode cX8_vote 42 = .ok (.istore 5, 2) := by decide +kernel
theorem dX8_vote_44 : decode cX8_vote 44 = .ok (.iload 5, 2) := by decide +kernel
theorem dX8_vote_46 : decode cX8_vote 46 = .ok (.aload_n 0, 1) := by decide +kernel
theorem dX8_vote_47 : decode cX8_vote 47 = .ok (.getfield 153, 3) := by decide +kernel
theorem dX8_vote_50 : decode cX8_vote 50 = .ok (.if_icmp .ge 62, 3) := by decide +kernel
theorem dX8_vote_53 : decode cX8_vote 53 = .ok (.aload_n 0, 1) := by decide +kernel
theorem dX8_vote_54 : decode cX8_vote 54 = .ok (.getfield 103, 3) := by decide +kernel
theorem dX8_vote_57 : decode cX8_vote 57 = .ok (.iload 5, 2) := by decide +kernel
theorem dX8_vote_59 : decode cX8_vote 59 = .ok (.iaload, 1) := by decide +kernel
theorem dX8_vote_60 : decode cX8_vote 60 = .ok (.iload_n 1, 1) := by decide +kernel
theorem dX8_vote_61 : decode cX8_vote 61 = .ok (.if_icmp .ne 14, 3) := by decide +kernel
theorem dX8_vote_64 : decode cX8_vote 64 = .ok (.aload_n 0, 1) := by decide +kernel
theorem dX8_vote_65 : decode cX8_vote 65 = .ok (.getfield 106, 3) := by decide +kernel
theorem dX8_vote_68 : decode cX8_vote 68 = .ok (.iload 5, 2) := by decide +kernel
theorem dX8_vote_70 : decode cX8_vote 70 = .ok (.iaload, 1) := by decide +kernel
theorem dX8_vote_71 : decode cX8_vote 71 = .ok (.iload_n 2, 1) := by decide +kernel
theorem dX8_vote_72 : decode cX8_vote 72 = .ok (.if_icmp .eq 34, 3) := by decide +kernel
theorem dX8_vote_75 : decode cX8_vote 75 = .ok (.aload_n 0, 1) := by decide +kernel
theorem dX8_vote_76 : decode cX8_vote 76 = .ok (.getfield 103, 3) := by decide +kernel
theorem dX8_vote_79 : decode cX8_vote 79 = .ok (.iload 4, 2) := by decide +kernel
theorem dX8_vote_81 : decode cX8_vote 81 = .ok (.aload_n 0, 1) := by decide +kernel
theorem dX8_vote_82 : decode cX8_vote 82 = .ok (.getfield 103, 3) := by decide +kernel
theorem dX8_vote_85 : decode cX8_vote 85 = .ok (.iload 5, 2) := by decide +kernel
theorem dX8_vote_87 : decode cX8_vote 87 = .ok (.iaload, 1) := by decide +kernel
theorem dX8_vote_88 : decode cX8_vote 88 = .ok (.iastore, 1) := by decide +kernel
theorem dX8_vote_89 : decode cX8_vote 89 = .ok (.aload_n 0, 1) := by decide +kernel
theorem dX8_vote_90 : decode cX8_vote 90 = .ok (.getfield 106, 3) := by decide +kernel
theorem dX8_vote_93 : decode cX8_vote 93 = .ok (.iload 4, 2) := by decide +kernel
theorem dX8_vote_95 : decode cX8_vote 95 = .ok (.aload_n 0, 1) := by decide +kernel
theorem dX8_vote_96 : decode cX8_vote 96 = .ok (.getfield 106, 3) := by decide +kernel
theorem dX8_vote_99 : decode cX8_vote 99 = .ok (.iload 5, 2) := by decide +kernel
theorem dX8_vote_101 : decode cX8_vote 101 = .ok (.iaload, 1) := by decide +kernel
theorem dX8_vote_102 : decode cX8_vote 102 = .ok (.iastore, 1) := by decide +kernel
theorem dX8_vote_103 : decode cX8_vote 103 = .ok (.iinc 4 1, 3) := by decide +kernel
theorem dX8_vote_106 : decode cX8_vote 106 = .ok (.iinc 5 1, 3) := by decide +kernel
theorem dX8_vote_109 : decode cX8_vote 109 = .ok (.goto (-65), 3) := by decide +kernel
theorem dX8_vote_112 : decode cX8_vote 112 = .ok (.aload_n 0, 1) := by decide +kernel
theorem dX8_vote_113 : decode cX8_vote 113 = .ok (.iload 4, 2) := by decide +kernel
theorem dX8_vote_115 : decode cX8_vote 115 = .ok (.putfield 153, 3) := by decide +kernel
theorem dX8_vote_118 : decode cX8_vote 118 = .ok (.aload_n 0, 1) := by decide +kernel
theorem dX8_vote_119 : decode cX8_vote 119 = .ok (.getfield 109, 3) := by decide +kernel
theorem dX8_vote_122 : decode cX8_vote 122 = .ok (.aload_n 0, 1) := by decide +kernel
theorem dX8_vote_123 : decode cX8_vote 123 = .ok (.getfield 160, 3) := by decide +kernel
theorem dX8_vote_126 : decode cX8_vote 126 = .ok (.iload_n 1, 1) := by decide +kernel
theorem dX8_vote_127 : decode cX8_vote 127 = .ok (.iastore, 1) := by decide +kernel
theorem dX8_vote_128 : decode cX8_vote 128 = .ok (.aload_n 0, 1) := by decide +kernel
theorem dX8_vote_129 : decode cX8_vote 129 = .ok (.getfield 112, 3) := by decide +kernel
theorem dX8_vote_132 : decode cX8_vote 132 = .ok (.aload_n 0, 1) := by decide +kernel
theorem dX8_vote_133 : decode cX8_vote 133 = .ok (.getfield 160, 3) := by decide +kernel
theorem dX8_vote_136 : decode cX8_vote 136 = .ok (.iload_n 2, 1) := by decide +kernel
theorem dX8_vote_137 : decode cX8_vote 137 = .ok (.iastore, 1) := by decide +kernel
theorem dX8_vote_138 : decode cX8_vote 138 = .ok (.aload_n 0, 1) := by decide +kernel
theorem dX8_vote_139 : decode cX8_vote 139 = .ok (.getfield 115, 3) := by decide +kernel
theorem dX8_vote_142 : decode cX8_vote 142 = .ok (.aload_n 0, 1) := by decide +kernel
theorem dX8_vote_143 : decode cX8_vote 143 = .ok (.getfield 160, 3) := by decide +kernel
theorem dX8_vote_146 : decode cX8_vote 146 = .ok (.aload_n 0, 1) := by decide +kernel
theorem dX8_vote_147 : decode cX8_vote 147 = .ok (.iload_n 2, 1) := by decide +kernel
theorem dX8_vote_148 : decode cX8_vote 148 = .ok (.invokevirtual 163, 3) := by decide +kernel
theorem dX8_vote_151 : decode cX8_vote 151 = .ok (.iastore, 1) := by decide +kernel
theorem dX8_vote_152 : decode cX8_vote 152 = .ok (.aload_n 0, 1) := by decide +kernel
theorem dX8_vote_153 : decode cX8_vote 153 = .ok (.getfield 118, 3) := by decide +kernel
theorem dX8_vote_156 : decode cX8_vote 156 = .ok (.aload_n 0, 1) := by decide +kernel
theorem dX8_vote_157 : decode cX8_vote 157 = .ok (.getfield 160, 3) := by decide +kernel
theorem dX8_vote_160 : decode cX8_vote 160 = .ok (.iload_n 3, 1) := by decide +kernel
theorem dX8_vote_161 : decode cX8_vote 161 = .ok (.iastore, 1) := by decide +kernel
theorem dX8_vote_162 : decode cX8_vote 162 = .ok (.aload_n 0, 1) := by decide +kernel
theorem dX8_vote_163 : decode cX8_vote 163 = .ok (.getfield 121, 3) := by decide +kernel
theorem dX8_vote_166 : decode cX8_vote 166 = .ok (.aload_n 0, 1) := by decide +kernel
theorem dX8_vote_167 : decode cX8_vote 167 = .ok (.getfield 160, 3) := by decide +kernel
theorem dX8_vote_170 : decode cX8_vote 170 = .ok (.aload_n 0, 1) := by decide +kernel
theorem dX8_vote_171 : decode cX8_vote 171 = .ok (.getfield 96, 3) := by decide +kernel
theorem dX8_vote_174 : decode cX8_vote 174 = .ok (.iload_n 1, 1) := by decide +kernel
theorem dX8_vote_175 : decode cX8_vote 175 = .ok (.iaload, 1) := by decide +kernel
theorem dX8_vote_176 : decode cX8_vote 176 = .ok (.iastore, 1) := by decide +kernel
theorem dX8_vote_177 : decode cX8_vote 177 = .ok (.aload_n 0, 1) := by decide +kernel
theorem dX8_vote_178 : decode cX8_vote 178 = .ok (.dup, 1) := by decide +kernel
theorem dX8_vote_179 : decode cX8_vote 179 = .ok (.getfield 160, 3) := by decide +kernel
theorem dX8_vote_182 : decode cX8_vote 182 = .ok (.iconst 1, 1) := by decide +kernel
theorem dX8_vote_183 : decode cX8_vote 183 = .ok (.iadd, 1) := by decide +kernel
theorem dX8_vote_184 : decode cX8_vote 184 = .ok (.putfield 160, 3) := by decide +kernel
theorem dX8_vote_187 : decode cX8_vote 187 = .ok (.aload_n 0, 1) := by decide +kernel
theorem dX8_vote_188 : decode cX8_vote 188 = .ok (.iload_n 2, 1) := by decide +kernel
theorem dX8_vote_189 : decode cX8_vote 189 = .ok (.invokevirtual 174, 3) := by decide +kernel
theorem dX8_vote_192 : decode cX8_vote 192 = .ok (.aload_n 0, 1) := by decide +kernel
theorem dX8_vote_193 : decode cX8_vote 193 = .ok (.getfield 62, 3) := by decide +kernel
theorem dX8_vote_196 : decode cX8_vote 196 = .ok (.iload_n 2, 1) := by decide +kernel
theorem dX8_vote_197 : decode cX8_vote 197 = .ok (.iaload, 1) := by decide +kernel
theorem dX8_vote_198 : decode cX8_vote 198 = .ok (.if_icmp .ne 8, 3) := by decide +kernel
theorem dX8_vote_201 : decode cX8_vote 201 = .ok (.aload_n 0, 1) := by decide +kernel
theorem dX8_vote_202 : decode cX8_vote 202 = .ok (.iload_n 2, 1) := by decide +kernel
theorem dX8_vote_203 : decode cX8_vote 203 = .ok (.invokevirtual 194, 3) := by decide +kernel
theorem dX8_vote_206 : decode cX8_vote 206 = .ok (.aload_n 0, 1) := by decide +kernel
theorem dX8_vote_207 : decode cX8_vote 207 = .ok (.getfield 50, 3) := by decide +kernel
theorem dX8_vote_210 : decode cX8_vote 210 = .ok (.iload_n 2, 1) := by decide +kernel
theorem dX8_vote_211 : decode cX8_vote 211 = .ok (.iaload, 1) := by decide +kernel
theorem dX8_vote_212 : decode cX8_vote 212 = .ok (.ireturn, 1) := by decide +kernel
theorem dX8_settle_0 : decode cX8_settle 0 = .ok (.iconst 0, 1) := by decide +kernel
theorem dX8_settle_1 : decode cX8_settle 1 = .ok (.istore_n 2, 1) := by decide +kernel
theorem dX8_settle_2 : decode cX8_settle 2 = .ok (.iconst 0, 1) := by decide +kernel
theorem dX8_settle_3 : decode cX8_settle 3 = .ok (.istore_n 3, 1) := by decide +kernel
theorem dX8_settle_4 : decode cX8_settle 4 = .ok (.iconst 0, 1) := by decide +kernel
theorem dX8_settle_5 : decode cX8_settle 5 = .ok (.istore 4, 2) := by decide +kernel
theorem dX8_settle_7 : decode cX8_settle 7 = .ok (.iload 4, 2) := by decide +kernel
theorem dX8_settle_9 : decode cX8_settle 9 = .ok (.aload_n 0, 1) := by decide +kernel
theorem dX8_settle_10 : decode cX8_settle 10 = .ok (.getfield 160, 3) := by decide +kernel
theorem dX8_settle_13 : decode cX8_settle 13 = .ok (.if_icmp .ge 84, 3) := by decide +kernel
theorem dX8_settle_16 : decode cX8_settle 16 = .ok (.aload_n 0, 1) := by decide +kernel
theorem dX8_settle_17 : decode cX8_settle 17 = .ok (.getfield 112, 3) := by decide +kernel
theorem dX8_settle_20 : decode cX8_settle 20 = .ok (.iload 4, 2) := by decide +kernel
theorem dX8_settle_22 : decode cX8_settle 22 = .ok (.iaload, 1) := by decide +kernel
theorem dX8_settle_23 : decode cX8_settle 23 = .ok (.iload_n 1, 1) := by decide +kernel
theorem dX8_settle_24 : decode cX8_settle 24 = .ok (.if_icmp .ne 67, 3) := by decide +kernel
theorem dX8_settle_27 : decode cX8_settle 27 = .ok (.aload_n 0, 1) := by decide +kernel
theorem dX8_settle_28 : decode cX8_settle 28 = .ok (.getfield 115, 3) := by decide +kernel
theorem dX8_settle_31 : decode cX8_settle 31 = .ok (.iload 4, 2) := by decide +kernel
theorem dX8_settle_33 : decode cX8_settle 33 = .ok (.iaload, 1) := by decide +kernel
theorem dX8_settle_34 : decode cX8_settle 34 = .ok (.aload_n 0, 1) := by decide +kernel
theorem dX8_settle_35 : decode cX8_settle 35 = .ok (.iload_n 1, 1) := by decide +kernel
theorem dX8_settle_36 : decode cX8_settle 36 = .ok (.invokevirtual 163, 3) := by decide +kernel
theorem dX8_settle_39 : decode cX8_settle 39 = .ok (.if_icmp .ne 52, 3) := by decide +kernel
theorem dX8_settle_42 : decode cX8_settle 42 = .ok (.iload_n 2, 1) := by decide +kernel
theorem dX8_settle_43 : decode cX8_settle 43 = .ok (.aload_n 0, 1) := by decide +kernel
theorem dX8_settle_44 : decode cX8_settle 44 = .ok (.getfield 118, 3) := by decide +kernel
theorem dX8_settle_47 : decode cX8_settle 47 = .ok (.iload 4, 2) := by decide +kernel
theorem dX8_settle_49 : decode cX8_settle 49 = .ok (.iaload, 1) := by decide +kernel
theorem dX8_settle_50 : decode cX8_settle 50 = .ok (.iconst 1, 1) := by decide +kernel
theorem dX8_settle_51 : decode cX8_settle 51 = .ok (.if_icmp .ne 13, 3) := by decide +kernel
theorem dX8_settle_54 : decode cX8_settle 54 = .ok (.aload_n 0, 1) := by decide +kernel
theorem dX8_settle_55 : decode cX8_settle 55 = .ok (.getfield 121, 3) := by decide +kernel
theorem dX8_settle_58 : decode cX8_settle 58 = .ok (.iload 4, 2) := by decide +kernel
theorem dX8_settle_60 : decode cX8_settle 60 = .ok (.iaload, 1) := by decide +kernel
theorem dX8_settle_61 : decode cX8_settle 61 = .ok (.goto 4, 3) := by decide +kernel
theorem dX8_settle_64 : decode cX8_settle 64 = .ok (.iconst 0, 1) := by decide +kernel
theorem dX8_settle_65 : decode cX8_settle 65 = .ok (.iadd, 1) := by decide +kernel
theorem dX8_settle_66 : decode cX8_settle 66 = .ok (.istore_n 2, 1) := by decide +kernel
theorem dX8_settle_67 : decode cX8_settle 67 = .ok (.iload_n 3, 1) := by decide +kernel
theorem dX8_settle_68 : decode cX8_settle 68 = .ok (.aload_n 0, 1) := by decide +kernel
theorem dX8_settle_69 : decode cX8_settle 69 = .ok (.getfield 118, 3) := by decide +kernel
theorem dX8_settle_72 : decode cX8_settle 72 = .ok (.iload 4, 2) := by decide +kernel
theorem dX8_settle_74 : decode cX8_settle 74 = .ok (.iaload, 1) := by decide +kernel
theorem dX8_settle_75 : decode cX8_settle 75 = .ok (.ifCond .ne 13, 3) := by decide +kernel
theorem dX8_settle_78 : decode cX8_settle 78 = .ok (.aload_n 0, 1) := by decide +kernel
theorem dX8_settle_79 : decode cX8_settle 79 = .ok (.getfield 121, 3) := by decide +kernel
theorem dX8_settle_82 : decode cX8_settle 82 = .ok (.iload 4, 2) := by decide +kernel
theorem dX8_settle_84 : decode cX8_settle 84 = .ok (.iaload, 1) := by decide +kernel
theorem dX8_settle_85 : decode cX8_settle 85 = .ok (.goto 4, 3) := by decide +kernel
theorem dX8_settle_88 : decode cX8_settle 88 = .ok (.iconst 0, 1) := by decide +kernel
theorem dX8_settle_89 : decode cX8_settle 89 = .ok (.iadd, 1) := by decide +kernel
theorem dX8_settle_90 : decode cX8_settle 90 = .ok (.istore_n 3, 1) := by decide +kernel
theorem dX8_settle_91 : decode cX8_settle 91 = .ok (.iinc 4 1, 3) := by decide +kernel
theorem dX8_settle_94 : decode cX8_settle 94 = .ok (.goto (-87), 3) := by decide +kernel
theorem dX8_settle_97 : decode cX8_settle 97 = .ok (.iconst 3, 1) := by decide +kernel
theorem dX8_settle_98 : decode cX8_settle 98 = .ok (.iload_n 2, 1) := by decide +kernel
theorem dX8_settle_99 : decode cX8_settle 99 = .ok (.imul, 1) := by decide +kernel
theorem dX8_settle_100 : decode cX8_settle 100 = .ok (.iconst 2, 1) := by decide +kernel
theorem dX8_settle_101 : decode cX8_settle 101 = .ok (.iload_n 2, 1) := by decide +kernel
theorem dX8_settle_102 : decode cX8_settle 102 = .ok (.imul, 1) := by decide +kernel
theorem dX8_settle_103 : decode cX8_settle 103 = .ok (.iconst 2, 1) := by decide +kernel
theorem dX8_settle_104 : decode cX8_settle 104 = .ok (.iload_n 3, 1) := by decide +kernel
theorem dX8_settle_105 : decode cX8_settle 105 = .ok (.imul, 1) := by decide +kernel
theorem dX8_settle_106 : decode cX8_settle 106 = .ok (.iadd, 1) := by decide +kernel
theorem dX8_settle_107 : decode cX8_settle 107 = .ok (.if_icmp .ge 16, 3) := by decide +kernel
theorem dX8_settle_110 : decode cX8_settle 110 = .ok (.iconst 3, 1) := by decide +kernel
theorem dX8_settle_111 : decode cX8_settle 111 = .ok (.iload_n 3, 1) := by decide +kernel
theorem dX8_settle_112 : decode cX8_settle 112 = .ok (.imul, 1) := by decide +kernel
theorem dX8_settle_113 : decode cX8_settle 113 = .ok (.iconst 2, 1) := by decide +kernel
theorem dX8_settle_114 : decode cX8_settle 114 = .ok (.iload_n 2, 1) := by decide +kernel
theorem dX8_settle_115 : decode cX8_settle 115 = .ok (.imul, 1) := by decide +kernel
theorem dX8_settle_116 : decode cX8_settle 116 = .ok (.iconst 2, 1) := by decide +kernel
theorem dX8_settle_117 : decode cX8_settle 117 = .ok (.iload_n 3, 1) := by decide +kernel
theorem dX8_settle_118 : decode cX8_settle 118 = .ok (.imul, 1) := by decide +kernel
theorem dX8_settle_119 : decode cX8_settle 119 = .ok (.iadd, 1) := by decide +kernel
theorem dX8_settle_120 : decode cX8_settle 120 = .ok (.if_icmp .lt 7, 3) := by decide +kernel
theorem dX8_settle_123 : decode cX8_settle 123 = .ok (.iconst 1, 1) := by decide +kernel
theorem dX8_settle_124 : decode cX8_settle 124 = .ok (.goto 4, 3) := by decide +kernel
theorem dX8_settle_127 : decode cX8_settle 127 = .ok (.iconst 0, 1) := by decide +kernel
theorem dX8_settle_128 : decode cX8_settle 128 = .ok (.istore 4, 2) := by decide +kernel
theorem dX8_settle_130 : decode cX8_settle 130 = .ok (.iload 4, 2) := by decide +kernel
theorem dX8_settle_132 : decode cX8_settle 132 = .ok (.ifCond .ne 45, 3) := by decide +kernel
theorem dX8_settle_135 : decode cX8_settle 135 = .ok (.aload_n 0, 1) := by decide +kernel
theorem dX8_settle_136 : decode cX8_settle 136 = .ok (.getfield 65, 3) := by decide +kernel
theorem dX8_settle_139 : decode cX8_settle 139 = .ok (.iload_n 1, 1) := by decide +kernel
theorem dX8_settle_140 : decode cX8_settle 140 = .ok (.iaload, 1) := by decide +kernel
theorem dX8_settle_141 : decode cX8_settle 141 = .ok (.iconst 2, 1) := by decide +kernel
theorem dX8_settle_142 : decode cX8_settle 142 = .ok (.if_icmp .ge 35, 3) := by decide +kernel
theorem dX8_settle_145 : decode cX8_settle 145 = .ok (.aload_n 0, 1) := by decide +kernel
theorem dX8_settle_146 : decode cX8_settle 146 = .ok (.getfield 62, 3) := by decide +kernel
theorem dX8_settle_149 : decode cX8_settle 149 = .ok (.iload_n 1, 1) := by decide +kernel
theorem dX8_settle_150 : decode cX8_settle 150 = .ok (.iaload, 1) := by decide +kernel
theorem dX8_settle_151 : decode cX8_settle 151 = .ok (.bipush 7, 2) := by decide +kernel
theorem dX8_settle_153 : decode cX8_settle 153 = .ok (.if_icmp .gt 24, 3) := by decide +kernel
theorem dX8_settle_156 : decode cX8_settle 156 = .ok (.aload_n 0, 1) := by decide +kernel
theorem dX8_settle_157 : decode cX8_settle 157 = .ok (.getfield 65, 3) := by decide +kernel
theorem dX8_settle_160 : decode cX8_settle 160 = .ok (.iload_n 1, 1) := by decide +kernel
theorem dX8_settle_161 : decode cX8_settle 161 = .ok (.dup2, 1) := by decide +kernel
theorem dX8_settle_162 : decode cX8_settle 162 = .ok (.iaload, 1) := by decide +kernel
theorem dX8_settle_163 : decode cX8_settle 163 = .ok (.iconst 1, 1) := by decide +kernel
theorem dX8_settle_164 : decode cX8_settle 164 = .ok (.iadd, 1) := by decide +kernel
theorem dX8_settle_165 : decode cX8_settle 165 = .ok (.iastore, 1) := by decide +kernel
theorem dX8_settle_166 : decode cX8_settle 166 = .ok (.aload_n 0, 1) := by decide +kernel
theorem dX8_settle_167 : decode cX8_settle 167 = .ok (.getfield 62, 3) := by decide +kernel
theorem dX8_settle_170 : decode cX8_settle 170 = .ok (.iload_n 1, 1) := by decide +kernel
theorem dX8_settle_171 : decode cX8_settle 171 = .ok (.dup2, 1) := by decide +kernel
theorem dX8_settle_172 : decode cX8_settle 172 = .ok (.iaload, 1) := by decide +kernel
theorem dX8_settle_173 : decode cX8_settle 173 = .ok (.iconst 2, 1) := by decide +kernel
theorem dX8_settle_174 : decode cX8_settle 174 = .ok (.iadd, 1) := by decide +kernel
theorem dX8_settle_175 : decode cX8_settle 175 = .ok (.iastore, 1) := by decide +kernel
theorem dX8_settle_176 : decode cX8_settle 176 = .ok (.return_, 1) := by decide +kernel
theorem dX8_settle_177 : decode cX8_settle 177 = .ok (.aload_n 0, 1) := by decide +kernel
theorem dX8_settle_178 : decode cX8_settle 178 = .ok (.getfield 74, 3) := by decide +kernel
theorem dX8_settle_181 : decode cX8_settle 181 = .ok (.iconst 2, 1) := by decide +kernel
theorem dX8_settle_182 : decode cX8_settle 182 = .ok (.iload_n 1, 1) := by decide +kernel
theorem dX8_settle_183 : decode cX8_settle 183 = .ok (.imul, 1) := by decide +kernel
theorem dX8_settle_184 : decode cX8_settle 184 = .ok (.aload_n 0, 1) := by decide +kernel
theorem dX8_settle_185 : decode cX8_settle 185 = .ok (.iload_n 1, 1) := by decide +kernel
theorem dX8_settle_186 : decode cX8_settle 186 = .ok (.invokevirtual 163, 3) := by decide +kernel
theorem dX8_settle_189 : decode cX8_settle 189 = .ok (.iadd, 1) := by decide +kernel
theorem dX8_settle_190 : decode cX8_settle 190 = .ok (.iload_n 2, 1) := by decide +kernel
theorem dX8_settle_191 : decode cX8_settle 191 = .ok (.iload_n 3, 1) := by decide +kernel
theorem dX8_settle_192 : decode cX8_settle 192 = .ok (.if_icmp .le 7, 3) := by decide +kernel
theorem dX8_settle_195 : decode cX8_settle 195 = .ok (.iconst 1, 1) := by decide +kernel
theorem dX8_settle_196 : decode cX8_settle 196 = .ok (.goto 4, 3) := by decide +kernel
theorem dX8_settle_199 : decode cX8_settle 199 = .ok (.iconst 0, 1) := by decide +kernel
theorem dX8_settle_200 : decode cX8_settle 200 = .ok (.iastore, 1) := by decide +kernel
theorem dX8_settle_201 : decode cX8_settle 201 = .ok (.aload_n 0, 1) := by decide +kernel
theorem dX8_settle_202 : decode cX8_settle 202 = .ok (.getfield 77, 3) := by decide +kernel
theorem dX8_settle_205 : decode cX8_settle 205 = .ok (.iload_n 1, 1) := by decide +kernel
theorem dX8_settle_206 : decode cX8_settle 206 = .ok (.aload_n 0, 1) := by decide +kernel
theorem dX8_settle_207 : decode cX8_settle 207 = .ok (.getfield 62, 3) := by decide +kernel
theorem dX8_settle_210 : decode cX8_settle 210 = .ok (.iload_n 1, 1) := by decide +kernel
theorem dX8_settle_211 : decode cX8_settle 211 = .ok (.iaload, 1) := by decide +kernel
theorem dX8_settle_212 : decode cX8_settle 212 = .ok (.iastore, 1) := by decide +kernel
theorem dX8_settle_213 : decode cX8_settle 213 = .ok (.aload_n 0, 1) := by decide +kernel
theorem dX8_settle_214 : decode cX8_settle 214 = .ok (.getfield 80, 3) := by decide +kernel
theorem dX8_settle_217 : decode cX8_settle 217 = .ok (.iload_n 1, 1) := by decide +kernel
theorem dX8_settle_218 : decode cX8_settle 218 = .ok (.iload_n 2, 1) := by decide +kernel
theorem dX8_settle_219 : decode cX8_settle 219 = .ok (.iastore, 1) := by decide +kernel
theorem dX8_settle_220 : decode cX8_settle 220 = .ok (.aload_n 0, 1) := by decide +kernel
theorem dX8_settle_221 : decode cX8_settle 221 = .ok (.getfield 83, 3) := by decide +kernel
theorem dX8_settle_224 : decode cX8_settle 224 = .ok (.iload_n 1, 1) := by decide +kernel
theorem dX8_settle_225 : decode cX8_settle 225 = .ok (.iload_n 3, 1) := by decide +kernel
theorem dX8_settle_226 : decode cX8_settle 226 = .ok (.iastore, 1) := by decide +kernel
theorem dX8_settle_227 : decode cX8_settle 227 = .ok (.aload_n 0, 1) := by decide +kernel
theorem dX8_settle_228 : decode cX8_settle 228 = .ok (.getfield 68, 3) := by decide +kernel
theorem dX8_settle_231 : decode cX8_settle 231 = .ok (.iload_n 1, 1) := by decide +kernel
theorem dX8_settle_232 : decode cX8_settle 232 = .ok (.dup2, 1) := by decide +kernel
theorem dX8_settle_233 : decode cX8_settle 233 = .ok (.iaload, 1) := by decide +kernel
theorem dX8_settle_234 : decode cX8_settle 234 = .ok (.iconst 1, 1) := by decide +kernel
theorem dX8_settle_235 : decode cX8_settle 235 = .ok (.iadd, 1) := by decide +kernel
theorem dX8_settle_236 : decode cX8_settle 236 = .ok (.iastore, 1) := by decide +kernel
theorem dX8_settle_237 : decode cX8_settle 237 = .ok (.aload_n 0, 1) := by decide +kernel
theorem dX8_settle_238 : decode cX8_settle 238 = .ok (.dup, 1) := by decide +kernel
theorem dX8_settle_239 : decode cX8_settle 239 = .ok (.getfield 197, 3) := by decide +kernel
theorem dX8_settle_242 : decode cX8_settle 242 = .ok (.iconst 1, 1) := by decide +kernel
theorem dX8_settle_243 : decode cX8_settle 243 = .ok (.iadd, 1) := by decide +kernel
theorem dX8_settle_244 : decode cX8_settle 244 = .ok (.putfield 197, 3) := by decide +kernel
theorem dX8_settle_247 : decode cX8_settle 247 = .ok (.aload_n 0, 1) := by decide +kernel
theorem dX8_settle_248 : decode cX8_settle 248 = .ok (.getfield 50, 3) := by decide +kernel
theorem dX8_settle_251 : decode cX8_settle 251 = .ok (.iload_n 1, 1) := by decide +kernel
theorem dX8_settle_252 : decode cX8_settle 252 = .ok (.iaload, 1) := by decide +kernel
theorem dX8_settle_253 : decode cX8_settle 253 = .ok (.iconst 3, 1) := by decide +kernel
theorem dX8_settle_254 : decode cX8_settle 254 = .ok (.if_icmp .ne 7, 3) := by decide +kernel
theorem dX8_settle_257 : decode cX8_settle 257 = .ok (.iconst 1, 1) := by decide +kernel
theorem dX8_settle_258 : decode cX8_settle 258 = .ok (.goto 4, 3) := by decide +kernel
theorem dX8_settle_261 : decode cX8_settle 261 = .ok (.iconst 0, 1) := by decide +kernel
theorem dX8_settle_262 : decode cX8_settle 262 = .ok (.istore 5, 2) := by decide +kernel
theorem dX8_settle_264 : decode cX8_settle 264 = .ok (.aload_n 0, 1) := by decide +kernel
theorem dX8_settle_265 : decode cX8_settle 265 = .ok (.getfield 50, 3) := by decide +kernel
theorem dX8_settle_268 : decode cX8_settle 268 = .ok (.iload_n 1, 1) := by decide +kernel
theorem dX8_settle_269 : decode cX8_settle 269 = .ok (.iload_n 2, 1) := by decide +kernel
theorem dX8_settle_270 : decode cX8_settle 270 = .ok (.iload_n 3, 1) := by decide +kernel
theorem dX8_settle_271 : decode cX8_settle 271 = .ok (.if_icmp .le 16, 3) := by decide +kernel
theorem dX8_settle_274 : decode cX8_settle 274 = .ok (.iload 5, 2) := by decide +kernel
theorem dX8_settle_276 : decode cX8_settle 276 = .ok (.ifCond .eq 7, 3) := by decide +kernel
theorem dX8_settle_279 : decode cX8_settle 279 = .ok (.iconst 5, 1) := by decide +kernel
theorem dX8_settle_280 : decode cX8_settle 280 = .ok (.goto 17, 3) := by decide +kernel
theorem dX8_settle_283 : decode cX8_settle 283 = .ok (.iconst 2, 1) := by decide +kernel
theorem dX8_settle_284 : decode cX8_settle 284 = .ok (.goto 13, 3) := by decide +kernel
theorem dX8_settle_287 : decode cX8_settle 287 = .ok (.iload 5, 2) := by decide +kernel
theorem dX8_settle_289 : decode cX8_settle 289 = .ok (.ifCond .eq 7, 3) := by decide +kernel
theorem dX8_settle_292 : decode cX8_settle 292 = .ok (.iconst 4, 1) := by decide +kernel
theorem dX8_settle_293 : decode cX8_settle 293 = .ok (.goto 4, 3) := by decide +kernel
theorem dX8_settle_296 : decode cX8_settle 296 = .ok (.iconst 1, 1) := by decide +kernel
theorem dX8_settle_297 : decode cX8_settle 297 = .ok (.iastore, 1) := by decide +kernel
theorem dX8_settle_298 : decode cX8_settle 298 = .ok (.aload_n 0, 1) := by decide +kernel
theorem dX8_settle_299 : decode cX8_settle 299 = .ok (.invokevirtual 200, 3) := by decide +kernel
theorem dX8_settle_302 : decode cX8_settle 302 = .ok (.return_, 1) := by decide +kernel
theorem dX8_told_0 : decode cX8_told 0 = .ok (.iload_n 1, 1) := by decide +kernel
theorem dX8_told_1 : decode cX8_told 1 = .ok (.invokestatic 147, 3) := by decide +kernel
theorem dX8_told_4 : decode cX8_told 4 = .ok (.ifCond .ne 5, 3) := by decide +kernel
theorem dX8_told_7 : decode cX8_told 7 = .ok (.iconst (-1), 1) := by decide +kernel
theorem dX8_told_8 : decode cX8_told 8 = .ok (.ireturn, 1) := by decide +kernel
theorem dX8_told_9 : decode cX8_told 9 = .ok (.iconst 0, 1) := by decide +kernel
theorem dX8_told_10 : decode cX8_told 10 = .ok (.istore_n 3, 1) := by decide +kernel
theorem dX8_told_11 : decode cX8_told 11 = .ok (.iload_n 2, 1) := by decide +kernel
theorem dX8_told_12 : decode cX8_told 12 = .ok (.tableswitch 144 0 7 #[48, 55, 62, 69, 76, 91, 130, 137], 48) := by decide +kernel
theorem dX8_told_60 : decode cX8_told 60 = .ok (.aload_n 0, 1) := by decide +kernel
theorem dX8_told_61 : decode cX8_told 61 = .ok (.getfield 86, 3) := by decide +kernel
theorem dX8_told_64 : decode cX8_told 64 = .ok (.iload_n 1, 1) := by decide +kernel
theorem dX8_told_65 : decode cX8_told 65 = .ok (.iaload, 1) := by decide +kernel
theorem dX8_told_66 : decode cX8_told 66 = .ok (.ireturn, 1) := by decide +kernel
theorem dX8_told_67 : decode cX8_told 67 = .ok (.aload_n 0, 1) := by decide +kernel
theorem dX8_told_68 : decode cX8_told 68 = .ok (.getfield 93, 3) := by decide +kernel
theorem dX8_told_71 : decode cX8_told 71 = .ok (.iload_n 1, 1) := by decide +kernel
theorem dX8_told_72 : decode cX8_told 72 = .ok (.iaload, 1) := by decide +kernel
theorem dX8_told_73 : decode cX8_told 73 = .ok (.ireturn, 1) := by decide +kernel
theorem dX8_told_74 : decode cX8_told 74 = .ok (.aload_n 0, 1) := by decide +kernel
theorem dX8_told_75 : decode cX8_told 75 = .ok (.getfield 96, 3) := by decide +kernel
theorem dX8_told_78 : decode cX8_told 78 = .ok (.iload_n 1, 1) := by decide +kernel
theorem dX8_told_79 : decode cX8_told 79 = .ok (.iaload, 1) := by decide +kernel
theorem dX8_told_80 : decode cX8_told 80 = .ok (.ireturn, 1) := by decide +kernel
theorem dX8_told_81 : decode cX8_told 81 = .ok (.aload_n 0, 1) := by decide +kernel
theorem dX8_told_82 : decode cX8_told 82 = .ok (.iload_n 1, 1) := by decide +kernel
theorem dX8_told_83 : decode cX8_told 83 = .ok (.iconst (-1), 1) := by decide +kernel
theorem dX8_told_84 : decode cX8_told 84 = .ok (.invokevirtual 170, 3) := by decide +kernel
theorem dX8_told_87 : decode cX8_told 87 = .ok (.ireturn, 1) := by decide +kernel
theorem dX8_told_88 : decode cX8_told 88 = .ok (.aload_n 0, 1) := by decide +kernel
theorem dX8_told_89 : decode cX8_told 89 = .ok (.getfield 99, 3) := by decide +kernel
theorem dX8_told_92 : decode cX8_told 92 = .ok (.iload_n 1, 1) := by decide +kernel
theorem dX8_told_93 : decode cX8_told 93 = .ok (.baload, 1) := by decide +kernel
theorem dX8_told_94 : decode cX8_told 94 = .ok (.ifCond .eq 7, 3) := by decide +kernel
theorem dX8_told_97 : decode cX8_told 97 = .ok (.iconst 1, 1) := by decide +kernel
theorem dX8_told_98 : decode cX8_told 98 = .ok (.goto 4, 3) := by decide +kernel
theorem dX8_told_101 : decode cX8_told 101 = .ok (.iconst 0, 1) := by decide +kernel
theorem dX8_told_102 : decode cX8_told 102 = .ok (.ireturn, 1) := by decide +kernel
theorem dX8_told_103 : decode cX8_told 103 = .ok (.iconst 0, 1) := by decide +kernel
theorem dX8_told_104 : decode cX8_told 104 = .ok (.istore 4, 2) := by decide +kernel
theorem dX8_told_106 : decode cX8_told 106 = .ok (.iload 4, 2) := by decide +kernel
theorem dX8_told_108 : decode cX8_told 108 = .ok (.aload_n 0, 1) := by decide +kernel
theorem dX8_told_109 : decode cX8_told 109 = .ok (.getfield 160, 3) := by decide +kernel
theorem dX8_told_112 : decode cX8_told 112 = .ok (.if_icmp .ge 28, 3) := by decide +kernel
theorem dX8_told_115 : decode cX8_told 115 = .ok (.iload_n 3, 1) := by decide +kernel
theorem dX8_told_116 : decode cX8_told 116 = .ok (.aload_n 0, 1) := by decide +kernel
theorem dX8_told_117 : decode cX8_told 117 = .ok (.getfield 109, 3) := by decide +kernel
theorem dX8_told_120 : decode cX8_told 120 = .ok (.iload 4, 2) := by decide +kernel
theorem dX8_told_122 : decode cX8_told 122 = .ok (.iaload, 1) := by decide +kernel
theorem dX8_told_123 : decode cX8_told 123 = .ok (.iload_n 1, 1) := by decide +kernel
theorem dX8_told_124 : decode cX8_told 124 = .ok (.if_icmp .ne 7, 3) := by decide +kernel
theorem dX8_told_127 : decode cX8_told 127 = .ok (.iconst 1, 1) := by decide +kernel
theorem dX8_told_128 : decode cX8_told 128 = .ok (.goto 4, 3) := by decide +kernel
theorem dX8_told_131 : decode cX8_told 131 = .ok (.iconst 0, 1) := by decide +kernel
theorem dX8_told_132 : decode cX8_told 132 = .ok (.iadd, 1) := by decide +kernel
theorem dX8_told_133 : decode cX8_told 133 = .ok (.istore_n 3, 1) := by decide +kernel
theorem dX8_told_134 : decode cX8_told 134 = .ok (.iinc 4 1, 3) := by decide +kernel
theorem dX8_told_137 : decode cX8_told 137 = .ok (.goto (-31), 3) := by decide +kernel
theorem dX8_told_140 : decode cX8_told 140 = .ok (.iload_n 3, 1) := by decide +kernel
theorem dX8_told_141 : decode cX8_told 141 = .ok (.ireturn, 1) := by decide +kernel
theorem dX8_told_142 : decode cX8_told 142 = .ok (.aload_n 0, 1) := by decide +kernel
theorem dX8_told_143 : decode cX8_told 143 = .ok (.iload_n 1, 1) := by decide +kernel
theorem dX8_told_144 : decode cX8_told 144 = .ok (.iconst 0, 1) := by decide +kernel
theorem dX8_told_145 : decode cX8_told 145 = .ok (.invokevirtual 190, 3) := by decide +kernel
theorem dX8_told_148 : decode cX8_told 148 = .ok (.ireturn, 1) := by decide +kernel
theorem dX8_told_149 : decode cX8_told 149 = .ok (.aload_n 0, 1) := by decide +kernel
theorem dX8_told_150 : decode cX8_told 150 = .ok (.iload_n 1, 1) := by decide +kernel
theorem dX8_told_151 : decode cX8_told 151 = .ok (.iconst 1, 1) := by decide +kernel
theorem dX8_told_152 : decode cX8_told 152 = .ok (.invokevirtual 190, 3) := by decide +kernel
theorem dX8_told_155 : decode cX8_told 155 = .ok (.ireturn, 1) := by decide +kernel
theorem dX8_told_156 : decode cX8_told 156 = .ok (.iconst (-1), 1) := by decide +kernel
theorem dX8_told_157 : decode cX8_told 157 = .ok (.ireturn, 1) := by decide +kernel
theorem dX8_lateBy_0 : decode cX8_lateBy 0 = .ok (.aload_n 0, 1) := by decide +kernel
theorem dX8_lateBy_1 : decode cX8_lateBy 1 = .ok (.getfield 140, 3) := by decide +kernel
theorem dX8_lateBy_4 : decode cX8_lateBy 4 = .ok (.aload_n 0, 1) := by decide +kernel
theorem dX8_lateBy_5 : decode cX8_lateBy 5 = .ok (.getfield 59, 3) := by decide +kernel
theorem dX8_lateBy_8 : decode cX8_lateBy 8 = .ok (.iload_n 1, 1) := by decide +kernel
theorem dX8_lateBy_9 : decode cX8_lateBy 9 = .ok (.iaload, 1) := by decide +kernel
theorem dX8_lateBy_10 : decode cX8_lateBy 10 = .ok (.isub, 1) := by decide +kernel
theorem dX8_lateBy_11 : decode cX8_lateBy 11 = .ok (.aload_n 0, 1) := by decide +kernel
theorem dX8_lateBy_12 : decode cX8_lateBy 12 = .ok (.getfield 19, 3) := by decide +kernel
theorem dX8_lateBy_15 : decode cX8_lateBy 15 = .ok (.aload_n 0, 1) := by decide +kernel
theorem dX8_lateBy_16 : decode cX8_lateBy 16 = .ok (.getfield 56, 3) := by decide +kernel
theorem dX8_lateBy_19 : decode cX8_lateBy 19 = .ok (.iload_n 1, 1) := by decide +kernel
theorem dX8_lateBy_20 : decode cX8_lateBy 20 = .ok (.iaload, 1) := by decide +kernel
theorem dX8_lateBy_21 : decode cX8_lateBy 21 = .ok (.iaload, 1) := by decide +kernel
theorem dX8_lateBy_22 : decode cX8_lateBy 22 = .ok (.isub, 1) := by decide +kernel
theorem dX8_lateBy_23 : decode cX8_lateBy 23 = .ok (.istore_n 2, 1) := by decide +kernel
theorem dX8_lateBy_24 : decode cX8_lateBy 24 = .ok (.aload_n 0, 1) := by decide +kernel
theorem dX8_lateBy_25 : decode cX8_lateBy 25 = .ok (.iload_n 1, 1) := by decide +kernel
theorem dX8_lateBy_26 : decode cX8_lateBy 26 = .ok (.invokevirtual 167, 3) := by decide +kernel
theorem dX8_lateBy_29 : decode cX8_lateBy 29 = .ok (.ifCond .eq 11, 3) := by decide +kernel
theorem dX8_lateBy_32 : decode cX8_lateBy 32 = .ok (.iload_n 2, 1) := by decide +kernel
theorem dX8_lateBy_33 : decode cX8_lateBy 33 = .ok (.ifCond .le 7, 3) := by decide +kernel
theorem dX8_lateBy_36 : decode cX8_lateBy 36 = .ok (.iload_n 2, 1) := by decide +kernel
theorem dX8_lateBy_37 : decode cX8_lateBy 37 = .ok (.goto 4, 3) := by decide +kernel
theorem dX8_lateBy_40 : decode cX8_lateBy 40 = .ok (.iconst 0, 1) := by decide +kernel
theorem dX8_lateBy_41 : decode cX8_lateBy 41 = .ok (.ireturn, 1) := by decide +kernel
theorem dX8_about_0 : decode cX8_about 0 = .ok (.aload_n 0, 1) := by decide +kernel
theorem dX8_about_1 : decode cX8_about 1 = .ok (.iload_n 1, 1) := by decide +kernel
theorem dX8_about_2 : decode cX8_about 2 = .ok (.invokevirtual 184, 3) := by decide +kernel
theorem dX8_about_5 : decode cX8_about 5 = .ok (.ifCond .ne 5, 3) := by decide +kernel
theorem dX8_about_8 : decode cX8_about 8 = .ok (.iconst (-1), 1) := by decide +kernel
theorem dX8_about_9 : decode cX8_about 9 = .ok (.ireturn, 1) := by decide +kernel
theorem dX8_about_10 : decode cX8_about 10 = .ok (.iload_n 2, 1) := by decide +kernel
theorem dX8_about_11 : decode cX8_about 11 = .ok (.tableswitch 112 0 7 #[45, 52, 59, 66, 73, 92, 99, 105], 45) := by decide +kernel
theorem dX8_about_56 : decode cX8_about 56 = .ok (.aload_n 0, 1) := by decide +kernel
theorem dX8_about_57 : decode cX8_about 57 = .ok (.getfield 44, 3) := by decide +kernel
theorem dX8_about_60 : decode cX8_about 60 = .ok (.iload_n 1, 1) := by decide +kernel
theorem dX8_about_61 : decode cX8_about 61 = .ok (.iaload, 1) := by decide +kernel
theorem dX8_about_62 : decode cX8_about 62 = .ok (.ireturn, 1) := by decide +kernel
theorem dX8_about_63 : decode cX8_about 63 = .ok (.aload_n 0, 1) := by decide +kernel
theorem dX8_about_64 : decode cX8_about 64 = .ok (.getfield 47, 3) := by decide +kernel
theorem dX8_about_67 : decode cX8_about 67 = .ok (.iload_n 1, 1) := by decide +kernel
theorem dX8_about_68 : decode cX8_about 68 = .ok (.iaload, 1) := by decide +kernel
theorem dX8_about_69 : decode cX8_about 69 = .ok (.ireturn, 1) := by decide +kernel
theorem dX8_about_70 : decode cX8_about 70 = .ok (.aload_n 0, 1) := by decide +kernel
theorem dX8_about_71 : decode cX8_about 71 = .ok (.getfield 50, 3) := by decide +kernel
theorem dX8_about_74 : decode cX8_about 74 = .ok (.iload_n 1, 1) := by decide +kernel
theorem dX8_about_75 : decode cX8_about 75 = .ok (.iaload, 1) := by decide +kernel
theorem dX8_about_76 : decode cX8_about 76 = .ok (.ireturn, 1) := by decide +kernel
theorem dX8_about_77 : decode cX8_about 77 = .ok (.aload_n 0, 1) := by decide +kernel
theorem dX8_about_78 : decode cX8_about 78 = .ok (.getfield 53, 3) := by decide +kernel
theorem dX8_about_81 : decode cX8_about 81 = .ok (.iload_n 1, 1) := by decide +kernel
theorem dX8_about_82 : decode cX8_about 82 = .ok (.iaload, 1) := by decide +kernel
theorem dX8_about_83 : decode cX8_about 83 = .ok (.ireturn, 1) := by decide +kernel
theorem dX8_about_84 : decode cX8_about 84 = .ok (.aload_n 0, 1) := by decide +kernel
theorem dX8_about_85 : decode cX8_about 85 = .ok (.iload_n 1, 1) := by decide +kernel
theorem dX8_about_86 : decode cX8_about 86 = .ok (.invokevirtual 167, 3) := by decide +kernel
theorem dX8_about_89 : decode cX8_about 89 = .ok (.ifCond .eq 12, 3) := by decide +kernel
theorem dX8_about_92 : decode cX8_about 92 = .ok (.aload_n 0, 1) := by decide +kernel
theorem dX8_about_93 : decode cX8_about 93 = .ok (.getfield 62, 3) := by decide +kernel
theorem dX8_about_96 : decode cX8_about 96 = .ok (.iload_n 1, 1) := by decide +kernel
theorem dX8_about_97 : decode cX8_about 97 = .ok (.iaload, 1) := by decide +kernel
theorem dX8_about_98 : decode cX8_about 98 = .ok (.goto 4, 3) := by decide +kernel
theorem dX8_about_101 : decode cX8_about 101 = .ok (.iconst 0, 1) := by decide +kernel
theorem dX8_about_102 : decode cX8_about 102 = .ok (.ireturn, 1) := by decide +kernel
theorem dX8_about_103 : decode cX8_about 103 = .ok (.aload_n 0, 1) := by decide +kernel
theorem dX8_about_104 : decode cX8_about 104 = .ok (.iconst (-1), 1) := by decide +kernel
theorem dX8_about_105 : decode cX8_about 105 = .ok (.iload_n 1, 1) := by decide +kernel
theorem dX8_about_106 : decode cX8_about 106 = .ok (.invokevirtual 170, 3) := by decide +kernel
theorem dX8_about_109 : decode cX8_about 109 = .ok (.ireturn, 1) := by decide +kernel
theorem dX8_about_110 : decode cX8_about 110 = .ok (.aload_n 0, 1) := by decide +kernel
theorem dX8_about_111 : decode cX8_about 111 = .ok (.iload_n 1, 1) := by decide +kernel
theorem dX8_about_112 : decode cX8_about 112 = .ok (.invokevirtual 203, 3) := by decide +kernel
theorem dX8_about_115 : decode cX8_about 115 = .ok (.ireturn, 1) := by decide +kernel
theorem dX8_about_116 : decode cX8_about 116 = .ok (.aload_n 0, 1) := by decide +kernel
theorem dX8_about_117 : decode cX8_about 117 = .ok (.getfield 68, 3) := by decide +kernel
theorem dX8_about_120 : decode cX8_about 120 = .ok (.iload_n 1, 1) := by decide +kernel
theorem dX8_about_121 : decode cX8_about 121 = .ok (.iaload, 1) := by decide +kernel
theorem dX8_about_122 : decode cX8_about 122 = .ok (.ireturn, 1) := by decide +kernel
theorem dX8_about_123 : decode cX8_about 123 = .ok (.iconst (-1), 1) := by decide +kernel
theorem dX8_about_124 : decode cX8_about 124 = .ok (.ireturn, 1) := by decide +kernel
theorem dX8_judged_0 : decode cX8_judged 0 = .ok (.aload_n 0, 1) := by decide +kernel
theorem dX8_judged_1 : decode cX8_judged 1 = .ok (.iload_n 1, 1) := by decide +kernel
theorem dX8_judged_2 : decode cX8_judged 2 = .ok (.invokevirtual 184, 3) := by decide +kernel
theorem dX8_judged_5 : decode cX8_judged 5 = .ok (.ifCond .eq 12, 3) := by decide +kernel
theorem dX8_judged_8 : decode cX8_judged 8 = .ok (.iload_n 2, 1) := by decide +kernel
theorem dX8_judged_9 : decode cX8_judged 9 = .ok (.iconst 0, 1) := by decide +kernel
theorem dX8_judged_10 : decode cX8_judged 10 = .ok (.iconst 2, 1) := by decide +kernel
theorem dX8_judged_11 : decode cX8_judged 11 = .ok (.invokestatic 136, 3) := by decide +kernel
theorem dX8_judged_14 : decode cX8_judged 14 = .ok (.ifCond .ne 5, 3) := by decide +kernel
theorem dX8_judged_17 : decode cX8_judged 17 = .ok (.iconst (-1), 1) := by decide +kernel
theorem dX8_judged_18 : decode cX8_judged 18 = .ok (.ireturn, 1) := by decide +kernel
theorem dX8_judged_19 : decode cX8_judged 19 = .ok (.aload_n 0, 1) := by decide +kernel
theorem dX8_judged_20 : decode cX8_judged 20 = .ok (.getfield 68, 3) := by decide +kernel
theorem dX8_judged_23 : decode cX8_judged 23 = .ok (.iload_n 1, 1) := by decide +kernel
theorem dX8_judged_24 : decode cX8_judged 24 = .ok (.iaload, 1) := by decide +kernel
theorem dX8_judged_25 : decode cX8_judged 25 = .ok (.ifCond .ne 6, 3) := by decide +kernel
theorem dX8_judged_28 : decode cX8_judged 28 = .ok (.bipush (-4), 2) := by decide +kernel
theorem dX8_judged_30 : decode cX8_judged 30 = .ok (.ireturn, 1) := by decide +kernel
theorem dX8_judged_31 : decode cX8_judged 31 = .ok (.iload_n 2, 1) := by decide +kernel
theorem dX8_judged_32 : decode cX8_judged 32 = .ok (.ifCond .ne 12, 3) := by decide +kernel
theorem dX8_judged_35 : decode cX8_judged 35 = .ok (.aload_n 0, 1) := by decide +kernel
theorem dX8_judged_36 : decode cX8_judged 36 = .ok (.getfield 77, 3) := by decide +kernel
theorem dX8_judged_39 : decode cX8_judged 39 = .ok (.iload_n 1, 1) := by decide +kernel
theorem dX8_judged_40 : decode cX8_judged 40 = .ok (.iaload, 1) := by decide +kernel
theorem dX8_judged_41 : decode cX8_judged 41 = .ok (.goto 23, 3) := by decide +kernel
theorem dX8_judged_44 : decode cX8_judged 44 = .ok (.iload_n 2, 1) := by decide +kernel
theorem dX8_judged_45 : decode cX8_judged 45 = .ok (.iconst 1, 1) := by decide +kernel
theorem dX8_judged_46 : decode cX8_judged 46 = .ok (.if_icmp .ne 12, 3) := by decide +kernel
theorem dX8_judged_49 : decode cX8_judged 49 = .ok (.aload_n 0, 1) := by decide +kernel
theorem dX8_judged_50 : decode cX8_judged 50 = .ok (.getfield 80, 3) := by decide +kernel
theorem dX8_judged_53 : decode cX8_judged 53 = .ok (.iload_n 1, 1) := by decide +kernel
theorem dX8_judged_54 : decode cX8_judged 54 = .ok (.iaload, 1) := by decide +kernel
theorem dX8_judged_55 : decode cX8_judged 55 = .ok (.goto 9, 3) := by decide +kernel
theorem dX8_judged_58 : decode cX8_judged 58 = .ok (.aload_n 0, 1) := by decide +kernel
theorem dX8_judged_59 : decode cX8_judged 59 = .ok (.getfield 83, 3) := by decide +kernel
theorem dX8_judged_62 : decode cX8_judged 62 = .ok (.iload_n 1, 1) := by decide +kernel
end
section
theorem dX8_judged_63 : decode cX8_judged 63 = .ok (.iaload, 1) := by decide +kernel
theorem dX8_judged_64 : decode cX8_judged 64 = .ok (.ireturn, 1) := by decide +kernel
theorem dX8_appeal_0 : decode cX8_appeal 0 = .ok (.aload_n 0, 1) := by decide +kernel
theorem dX8_appeal_1 : decode cX8_appeal 1 = .ok (.iload_n 1, 1) := by decide +kernel
theorem dX8_appeal_2 : decode cX8_appeal 2 = .ok (.invokevirtual 184, 3) := by decide +kernel
theorem dX8_appeal_5 : decode cX8_appeal 5 = .ok (.ifCond .ne 5, 3) := by decide +kernel
theorem dX8_appeal_8 : decode cX8_appeal 8 = .ok (.iconst (-1), 1) := by decide +kernel
theorem dX8_appeal_9 : decode cX8_appeal 9 = .ok (.ireturn, 1) := by decide +kernel
theorem dX8_appeal_10 : decode cX8_appeal 10 = .ok (.aload_n 0, 1) := by decide +kernel
theorem dX8_appeal_11 : decode cX8_appeal 11 = .ok (.getfield 50, 3) := by decide +kernel
theorem dX8_appeal_14 : decode cX8_appeal 14 = .ok (.iload_n 1, 1) := by decide +kernel
theorem dX8_appeal_15 : decode cX8_appeal 15 = .ok (.iaload, 1) := by decide +kernel
theorem dX8_appeal_16 : decode cX8_appeal 16 = .ok (.iconst 2, 1) := by decide +kernel
theorem dX8_appeal_17 : decode cX8_appeal 17 = .ok (.if_icmp .eq 6, 3) := by decide +kernel
theorem dX8_appeal_20 : decode cX8_appeal 20 = .ok (.bipush (-4), 2) := by decide +kernel
theorem dX8_appeal_22 : decode cX8_appeal 22 = .ok (.ireturn, 1) := by decide +kernel
theorem dX8_appeal_23 : decode cX8_appeal 23 = .ok (.aload_n 0, 1) := by decide +kernel
theorem dX8_appeal_24 : decode cX8_appeal 24 = .ok (.getfield 50, 3) := by decide +kernel
theorem dX8_appeal_27 : decode cX8_appeal 27 = .ok (.iload_n 1, 1) := by decide +kernel
theorem dX8_appeal_28 : decode cX8_appeal 28 = .ok (.iconst 3, 1) := by decide +kernel
theorem dX8_appeal_29 : decode cX8_appeal 29 = .ok (.iastore, 1) := by decide +kernel
theorem dX8_appeal_30 : decode cX8_appeal 30 = .ok (.aload_n 0, 1) := by decide +kernel
theorem dX8_appeal_31 : decode cX8_appeal 31 = .ok (.getfield 62, 3) := by decide +kernel
theorem dX8_appeal_34 : decode cX8_appeal 34 = .ok (.iload_n 1, 1) := by decide +kernel
theorem dX8_appeal_35 : decode cX8_appeal 35 = .ok (.aload_n 0, 1) := by decide +kernel
theorem dX8_appeal_36 : decode cX8_appeal 36 = .ok (.getfield 62, 3) := by decide +kernel
theorem dX8_appeal_39 : decode cX8_appeal 39 = .ok (.iload_n 1, 1) := by decide +kernel
theorem dX8_appeal_40 : decode cX8_appeal 40 = .ok (.iaload, 1) := by decide +kernel
theorem dX8_appeal_41 : decode cX8_appeal 41 = .ok (.iconst 2, 1) := by decide +kernel
theorem dX8_appeal_42 : decode cX8_appeal 42 = .ok (.iadd, 1) := by decide +kernel
theorem dX8_appeal_43 : decode cX8_appeal 43 = .ok (.bipush 9, 2) := by decide +kernel
theorem dX8_appeal_45 : decode cX8_appeal 45 = .ok (.if_icmp .ge 14, 3) := by decide +kernel
theorem dX8_appeal_48 : decode cX8_appeal 48 = .ok (.aload_n 0, 1) := by decide +kernel
theorem dX8_appeal_49 : decode cX8_appeal 49 = .ok (.getfield 62, 3) := by decide +kernel
theorem dX8_appeal_52 : decode cX8_appeal 52 = .ok (.iload_n 1, 1) := by decide +kernel
theorem dX8_appeal_53 : decode cX8_appeal 53 = .ok (.iaload, 1) := by decide +kernel
theorem dX8_appeal_54 : decode cX8_appeal 54 = .ok (.iconst 2, 1) := by decide +kernel
theorem dX8_appeal_55 : decode cX8_appeal 55 = .ok (.iadd, 1) := by decide +kernel
theorem dX8_appeal_56 : decode cX8_appeal 56 = .ok (.goto 5, 3) := by decide +kernel
theorem dX8_appeal_59 : decode cX8_appeal 59 = .ok (.bipush 9, 2) := by decide +kernel
theorem dX8_appeal_61 : decode cX8_appeal 61 = .ok (.iastore, 1) := by decide +kernel
theorem dX8_appeal_62 : decode cX8_appeal 62 = .ok (.aload_n 0, 1) := by decide +kernel
theorem dX8_appeal_63 : decode cX8_appeal 63 = .ok (.getfield 65, 3) := by decide +kernel
theorem dX8_appeal_66 : decode cX8_appeal 66 = .ok (.iload_n 1, 1) := by decide +kernel
theorem dX8_appeal_67 : decode cX8_appeal 67 = .ok (.iconst 0, 1) := by decide +kernel
theorem dX8_appeal_68 : decode cX8_appeal 68 = .ok (.iastore, 1) := by decide +kernel
theorem dX8_appeal_69 : decode cX8_appeal 69 = .ok (.aload_n 0, 1) := by decide +kernel
theorem dX8_appeal_70 : decode cX8_appeal 70 = .ok (.getfield 59, 3) := by decide +kernel
theorem dX8_appeal_73 : decode cX8_appeal 73 = .ok (.iload_n 1, 1) := by decide +kernel
theorem dX8_appeal_74 : decode cX8_appeal 74 = .ok (.aload_n 0, 1) := by decide +kernel
theorem dX8_appeal_75 : decode cX8_appeal 75 = .ok (.getfield 140, 3) := by decide +kernel
theorem dX8_appeal_78 : decode cX8_appeal 78 = .ok (.iastore, 1) := by decide +kernel
theorem dX8_appeal_79 : decode cX8_appeal 79 = .ok (.iconst 1, 1) := by decide +kernel
theorem dX8_appeal_80 : decode cX8_appeal 80 = .ok (.ireturn, 1) := by decide +kernel
theorem dX8_known_0 : decode cX8_known 0 = .ok (.aload_n 0, 1) := by decide +kernel
theorem dX8_known_1 : decode cX8_known 1 = .ok (.iload_n 1, 1) := by decide +kernel
theorem dX8_known_2 : decode cX8_known 2 = .ok (.invokevirtual 184, 3) := by decide +kernel
theorem dX8_known_5 : decode cX8_known 5 = .ok (.ifCond .eq 12, 3) := by decide +kernel
theorem dX8_known_8 : decode cX8_known 8 = .ok (.iload_n 2, 1) := by decide +kernel
theorem dX8_known_9 : decode cX8_known 9 = .ok (.iconst (-1), 1) := by decide +kernel
theorem dX8_known_10 : decode cX8_known 10 = .ok (.iconst 1, 1) := by decide +kernel
theorem dX8_known_11 : decode cX8_known 11 = .ok (.invokestatic 136, 3) := by decide +kernel
theorem dX8_known_14 : decode cX8_known 14 = .ok (.ifCond .ne 6, 3) := by decide +kernel
theorem dX8_known_17 : decode cX8_known 17 = .ok (.bipush (-5), 2) := by decide +kernel
theorem dX8_known_19 : decode cX8_known 19 = .ok (.ireturn, 1) := by decide +kernel
theorem dX8_known_20 : decode cX8_known 20 = .ok (.aload_n 0, 1) := by decide +kernel
theorem dX8_known_21 : decode cX8_known 21 = .ok (.getfield 71, 3) := by decide +kernel
theorem dX8_known_24 : decode cX8_known 24 = .ok (.iload_n 1, 1) := by decide +kernel
theorem dX8_known_25 : decode cX8_known 25 = .ok (.iaload, 1) := by decide +kernel
theorem dX8_known_26 : decode cX8_known 26 = .ok (.istore_n 3, 1) := by decide +kernel
theorem dX8_known_27 : decode cX8_known 27 = .ok (.aload_n 0, 1) := by decide +kernel
theorem dX8_known_28 : decode cX8_known 28 = .ok (.getfield 71, 3) := by decide +kernel
theorem dX8_known_31 : decode cX8_known 31 = .ok (.iload_n 1, 1) := by decide +kernel
theorem dX8_known_32 : decode cX8_known 32 = .ok (.iload_n 2, 1) := by decide +kernel
theorem dX8_known_33 : decode cX8_known 33 = .ok (.iastore, 1) := by decide +kernel
theorem dX8_known_34 : decode cX8_known 34 = .ok (.aload_n 0, 1) := by decide +kernel
theorem dX8_known_35 : decode cX8_known 35 = .ok (.invokevirtual 200, 3) := by decide +kernel
theorem dX8_known_38 : decode cX8_known 38 = .ok (.iload_n 3, 1) := by decide +kernel
theorem dX8_known_39 : decode cX8_known 39 = .ok (.ireturn, 1) := by decide +kernel
theorem dX8_late_0 : decode cX8_late 0 = .ok (.bipush (-4), 2) := by decide +kernel
theorem dX8_late_2 : decode cX8_late 2 = .ok (.istore_n 1, 1) := by decide +kernel
theorem dX8_late_3 : decode cX8_late 3 = .ok (.iconst 0, 1) := by decide +kernel
theorem dX8_late_4 : decode cX8_late 4 = .ok (.istore_n 2, 1) := by decide +kernel
theorem dX8_late_5 : decode cX8_late 5 = .ok (.iload_n 2, 1) := by decide +kernel
theorem dX8_late_6 : decode cX8_late 6 = .ok (.aload_n 0, 1) := by decide +kernel
theorem dX8_late_7 : decode cX8_late 7 = .ok (.getfield 133, 3) := by decide +kernel
theorem dX8_late_10 : decode cX8_late 10 = .ok (.if_icmp .ge 36, 3) := by decide +kernel
theorem dX8_late_13 : decode cX8_late 13 = .ok (.aload_n 0, 1) := by decide +kernel
theorem dX8_late_14 : decode cX8_late 14 = .ok (.iload_n 2, 1) := by decide +kernel
theorem dX8_late_15 : decode cX8_late 15 = .ok (.invokevirtual 203, 3) := by decide +kernel
theorem dX8_late_18 : decode cX8_late 18 = .ok (.ifCond .le 22, 3) := by decide +kernel
theorem dX8_late_21 : decode cX8_late 21 = .ok (.iload_n 1, 1) := by decide +kernel
theorem dX8_late_22 : decode cX8_late 22 = .ok (.ifCond .lt 16, 3) := by decide +kernel
theorem dX8_late_25 : decode cX8_late 25 = .ok (.aload_n 0, 1) := by decide +kernel
theorem dX8_late_26 : decode cX8_late 26 = .ok (.iload_n 2, 1) := by decide +kernel
theorem dX8_late_27 : decode cX8_late 27 = .ok (.invokevirtual 203, 3) := by decide +kernel
theorem dX8_late_30 : decode cX8_late 30 = .ok (.aload_n 0, 1) := by decide +kernel
theorem dX8_late_31 : decode cX8_late 31 = .ok (.iload_n 1, 1) := by decide +kernel
theorem dX8_late_32 : decode cX8_late 32 = .ok (.invokevirtual 203, 3) := by decide +kernel
theorem dX8_late_35 : decode cX8_late 35 = .ok (.if_icmp .le 5, 3) := by decide +kernel
theorem dX8_late_38 : decode cX8_late 38 = .ok (.iload_n 2, 1) := by decide +kernel
theorem dX8_late_39 : decode cX8_late 39 = .ok (.istore_n 1, 1) := by decide +kernel
theorem dX8_late_40 : decode cX8_late 40 = .ok (.iinc 2 1, 3) := by decide +kernel
theorem dX8_late_43 : decode cX8_late 43 = .ok (.goto (-38), 3) := by decide +kernel
theorem dX8_late_46 : decode cX8_late 46 = .ok (.iload_n 1, 1) := by decide +kernel
theorem dX8_late_47 : decode cX8_late 47 = .ok (.ireturn, 1) := by decide +kernel
theorem dX8_likeOnes_0 : decode cX8_likeOnes 0 = .ok (.iconst 0, 1) := by decide +kernel
theorem dX8_likeOnes_1 : decode cX8_likeOnes 1 = .ok (.istore 4, 2) := by decide +kernel
theorem dX8_likeOnes_3 : decode cX8_likeOnes 3 = .ok (.iconst 0, 1) := by decide +kernel
theorem dX8_likeOnes_4 : decode cX8_likeOnes 4 = .ok (.istore 5, 2) := by decide +kernel
theorem dX8_likeOnes_6 : decode cX8_likeOnes 6 = .ok (.iload 5, 2) := by decide +kernel
theorem dX8_likeOnes_8 : decode cX8_likeOnes 8 = .ok (.aload_n 0, 1) := by decide +kernel
theorem dX8_likeOnes_9 : decode cX8_likeOnes 9 = .ok (.getfield 133, 3) := by decide +kernel
theorem dX8_likeOnes_12 : decode cX8_likeOnes 12 = .ok (.if_icmp .ge 203, 3) := by decide +kernel
theorem dX8_likeOnes_15 : decode cX8_likeOnes 15 = .ok (.aload_n 0, 1) := by decide +kernel
theorem dX8_likeOnes_16 : decode cX8_likeOnes 16 = .ok (.getfield 50, 3) := by decide +kernel
theorem dX8_likeOnes_19 : decode cX8_likeOnes 19 = .ok (.iload 5, 2) := by decide +kernel
theorem dX8_likeOnes_21 : decode cX8_likeOnes 21 = .ok (.iaload, 1) := by decide +kernel
theorem dX8_likeOnes_22 : decode cX8_likeOnes 22 = .ok (.iconst 2, 1) := by decide +kernel
theorem dX8_likeOnes_23 : decode cX8_likeOnes 23 = .ok (.if_icmp .eq 14, 3) := by decide +kernel
theorem dX8_likeOnes_26 : decode cX8_likeOnes 26 = .ok (.aload_n 0, 1) := by decide +kernel
theorem dX8_likeOnes_27 : decode cX8_likeOnes 27 = .ok (.getfield 50, 3) := by decide +kernel
theorem dX8_likeOnes_30 : decode cX8_likeOnes 30 = .ok (.iload 5, 2) := by decide +kernel
theorem dX8_likeOnes_32 : decode cX8_likeOnes 32 = .ok (.iaload, 1) := by decide +kernel
theorem dX8_likeOnes_33 : decode cX8_likeOnes 33 = .ok (.iconst 5, 1) := by decide +kernel
theorem dX8_likeOnes_34 : decode cX8_likeOnes 34 = .ok (.if_icmp .ne 7, 3) := by decide +kernel
theorem dX8_likeOnes_37 : decode cX8_likeOnes 37 = .ok (.iconst 1, 1) := by decide +kernel
theorem dX8_likeOnes_38 : decode cX8_likeOnes 38 = .ok (.goto 4, 3) := by decide +kernel
theorem dX8_likeOnes_41 : decode cX8_likeOnes 41 = .ok (.iconst 0, 1) := by decide +kernel
theorem dX8_likeOnes_42 : decode cX8_likeOnes 42 = .ok (.istore 6, 2) := by decide +kernel
theorem dX8_likeOnes_44 : decode cX8_likeOnes 44 = .ok (.aload_n 0, 1) := by decide +kernel
theorem dX8_likeOnes_45 : decode cX8_likeOnes 45 = .ok (.getfield 50, 3) := by decide +kernel
theorem dX8_likeOnes_48 : decode cX8_likeOnes 48 = .ok (.iload 5, 2) := by decide +kernel
theorem dX8_likeOnes_50 : decode cX8_likeOnes 50 = .ok (.iaload, 1) := by decide +kernel
theorem dX8_likeOnes_51 : decode cX8_likeOnes 51 = .ok (.iconst 1, 1) := by decide +kernel
theorem dX8_likeOnes_52 : decode cX8_likeOnes 52 = .ok (.if_icmp .eq 14, 3) := by decide +kernel
theorem dX8_likeOnes_55 : decode cX8_likeOnes 55 = .ok (.aload_n 0, 1) := by decide +kernel
theorem dX8_likeOnes_56 : decode cX8_likeOnes 56 = .ok (.getfield 50, 3) := by decide +kernel
theorem dX8_likeOnes_59 : decode cX8_likeOnes 59 = .ok (.iload 5, 2) := by decide +kernel
theorem dX8_likeOnes_61 : decode cX8_likeOnes 61 = .ok (.iaload, 1) := by decide +kernel
theorem dX8_likeOnes_62 : decode cX8_likeOnes 62 = .ok (.iconst 4, 1) := by decide +kernel
theorem dX8_likeOnes_63 : decode cX8_likeOnes 63 = .ok (.if_icmp .ne 7, 3) := by decide +kernel
theorem dX8_likeOnes_66 : decode cX8_likeOnes 66 = .ok (.iconst 1, 1) := by decide +kernel
theorem dX8_likeOnes_67 : decode cX8_likeOnes 67 = .ok (.goto 4, 3) := by decide +kernel
theorem dX8_likeOnes_70 : decode cX8_likeOnes 70 = .ok (.iconst 0, 1) := by decide +kernel
theorem dX8_likeOnes_71 : decode cX8_likeOnes 71 = .ok (.istore 7, 2) := by decide +kernel
theorem dX8_likeOnes_73 : decode cX8_likeOnes 73 = .ok (.aload_n 0, 1) := by decide +kernel
theorem dX8_likeOnes_74 : decode cX8_likeOnes 74 = .ok (.getfield 41, 3) := by decide +kernel
theorem dX8_likeOnes_77 : decode cX8_likeOnes 77 = .ok (.aload_n 0, 1) := by decide +kernel
theorem dX8_likeOnes_78 : decode cX8_likeOnes 78 = .ok (.getfield 44, 3) := by decide +kernel
theorem dX8_likeOnes_81 : decode cX8_likeOnes 81 = .ok (.iload_n 1, 1) := by decide +kernel
theorem dX8_likeOnes_82 : decode cX8_likeOnes 82 = .ok (.iaload, 1) := by decide +kernel
theorem dX8_likeOnes_83 : decode cX8_likeOnes 83 = .ok (.iaload, 1) := by decide +kernel
theorem dX8_likeOnes_84 : decode cX8_likeOnes 84 = .ok (.aload_n 0, 1) := by decide +kernel
theorem dX8_likeOnes_85 : decode cX8_likeOnes 85 = .ok (.getfield 41, 3) := by decide +kernel
theorem dX8_likeOnes_88 : decode cX8_likeOnes 88 = .ok (.aload_n 0, 1) := by decide +kernel
theorem dX8_likeOnes_89 : decode cX8_likeOnes 89 = .ok (.getfield 44, 3) := by decide +kernel
theorem dX8_likeOnes_92 : decode cX8_likeOnes 92 = .ok (.iload 5, 2) := by decide +kernel
theorem dX8_likeOnes_94 : decode cX8_likeOnes 94 = .ok (.iaload, 1) := by decide +kernel
theorem dX8_likeOnes_95 : decode cX8_likeOnes 95 = .ok (.iaload, 1) := by decide +kernel
theorem dX8_likeOnes_96 : decode cX8_likeOnes 96 = .ok (.ixor, 1) := by decide +kernel
theorem dX8_likeOnes_97 : decode cX8_likeOnes 97 = .ok (.istore 8, 2) := by decide +kernel
theorem dX8_likeOnes_99 : decode cX8_likeOnes 99 = .ok (.iconst 0, 1) := by decide +kernel
theorem dX8_likeOnes_100 : decode cX8_likeOnes 100 = .ok (.istore 9, 2) := by decide +kernel
theorem dX8_likeOnes_102 : decode cX8_likeOnes 102 = .ok (.iconst 0, 1) := by decide +kernel
theorem dX8_likeOnes_103 : decode cX8_likeOnes 103 = .ok (.istore 10, 2) := by decide +kernel
theorem dX8_likeOnes_105 : decode cX8_likeOnes 105 = .ok (.iload 10, 2) := by decide +kernel
theorem dX8_likeOnes_107 : decode cX8_likeOnes 107 = .ok (.bipush 8, 2) := by decide +kernel
theorem dX8_likeOnes_109 : decode cX8_likeOnes 109 = .ok (.if_icmp .ge 21, 3) := by decide +kernel
theorem dX8_likeOnes_112 : decode cX8_likeOnes 112 = .ok (.iload 9, 2) := by decide +kernel
theorem dX8_likeOnes_114 : decode cX8_likeOnes 114 = .ok (.iload 8, 2) := by decide +kernel
theorem dX8_likeOnes_116 : decode cX8_likeOnes 116 = .ok (.iload 10, 2) := by decide +kernel
theorem dX8_likeOnes_118 : decode cX8_likeOnes 118 = .ok (.ishr, 1) := by decide +kernel
theorem dX8_likeOnes_119 : decode cX8_likeOnes 119 = .ok (.iconst 1, 1) := by decide +kernel
theorem dX8_likeOnes_120 : decode cX8_likeOnes 120 = .ok (.iand, 1) := by decide +kernel
theorem dX8_likeOnes_121 : decode cX8_likeOnes 121 = .ok (.iadd, 1) := by decide +kernel
theorem dX8_likeOnes_122 : decode cX8_likeOnes 122 = .ok (.istore 9, 2) := by decide +kernel
theorem dX8_likeOnes_124 : decode cX8_likeOnes 124 = .ok (.iinc 10 1, 3) := by decide +kernel
theorem dX8_likeOnes_127 : decode cX8_likeOnes 127 = .ok (.goto (-22), 3) := by decide +kernel
theorem dX8_likeOnes_130 : decode cX8_likeOnes 130 = .ok (.iload_n 3, 1) := by decide +kernel
theorem dX8_likeOnes_131 : decode cX8_likeOnes 131 = .ok (.ifCond .ge 21, 3) := by decide +kernel
theorem dX8_likeOnes_134 : decode cX8_likeOnes 134 = .ok (.iload 6, 2) := by decide +kernel
theorem dX8_likeOnes_136 : decode cX8_likeOnes 136 = .ok (.ifCond .ne 8, 3) := by decide +kernel
theorem dX8_likeOnes_139 : decode cX8_likeOnes 139 = .ok (.iload 7, 2) := by decide +kernel
theorem dX8_likeOnes_141 : decode cX8_likeOnes 141 = .ok (.ifCond .eq 7, 3) := by decide +kernel
theorem dX8_likeOnes_144 : decode cX8_likeOnes 144 = .ok (.iconst 1, 1) := by decide +kernel
theorem dX8_likeOnes_145 : decode cX8_likeOnes 145 = .ok (.goto 19, 3) := by decide +kernel
theorem dX8_likeOnes_148 : decode cX8_likeOnes 148 = .ok (.iconst 0, 1) := by decide +kernel
theorem dX8_likeOnes_149 : decode cX8_likeOnes 149 = .ok (.goto 15, 3) := by decide +kernel
theorem dX8_likeOnes_152 : decode cX8_likeOnes 152 = .ok (.iload_n 3, 1) := by decide +kernel
theorem dX8_likeOnes_153 : decode cX8_likeOnes 153 = .ok (.iconst 1, 1) := by decide +kernel
theorem dX8_likeOnes_154 : decode cX8_likeOnes 154 = .ok (.if_icmp .ne 8, 3) := by decide +kernel
theorem dX8_likeOnes_157 : decode cX8_likeOnes 157 = .ok (.iload 6, 2) := by decide +kernel
theorem dX8_likeOnes_159 : decode cX8_likeOnes 159 = .ok (.goto 5, 3) := by decide +kernel
theorem dX8_likeOnes_162 : decode cX8_likeOnes 162 = .ok (.iload 7, 2) := by decide +kernel
theorem dX8_likeOnes_164 : decode cX8_likeOnes 164 = .ok (.istore 10, 2) := by decide +kernel
theorem dX8_likeOnes_166 : decode cX8_likeOnes 166 = .ok (.iload 4, 2) := by decide +kernel
theorem dX8_likeOnes_168 : decode cX8_likeOnes 168 = .ok (.iload 5, 2) := by decide +kernel
theorem dX8_likeOnes_170 : decode cX8_likeOnes 170 = .ok (.iload_n 1, 1) := by decide +kernel
theorem dX8_likeOnes_171 : decode cX8_likeOnes 171 = .ok (.if_icmp .eq 34, 3) := by decide +kernel
theorem dX8_likeOnes_174 : decode cX8_likeOnes 174 = .ok (.aload_n 0, 1) := by decide +kernel
theorem dX8_likeOnes_175 : decode cX8_likeOnes 175 = .ok (.getfield 47, 3) := by decide +kernel
theorem dX8_likeOnes_178 : decode cX8_likeOnes 178 = .ok (.iload 5, 2) := by decide +kernel
theorem dX8_likeOnes_180 : decode cX8_likeOnes 180 = .ok (.iaload, 1) := by decide +kernel
theorem dX8_likeOnes_181 : decode cX8_likeOnes 181 = .ok (.aload_n 0, 1) := by decide +kernel
theorem dX8_likeOnes_182 : decode cX8_likeOnes 182 = .ok (.getfield 47, 3) := by decide +kernel
theorem dX8_likeOnes_185 : decode cX8_likeOnes 185 = .ok (.iload_n 1, 1) := by decide +kernel
theorem dX8_likeOnes_186 : decode cX8_likeOnes 186 = .ok (.iaload, 1) := by decide +kernel
theorem dX8_likeOnes_187 : decode cX8_likeOnes 187 = .ok (.if_icmp .ne 18, 3) := by decide +kernel
theorem dX8_likeOnes_190 : decode cX8_likeOnes 190 = .ok (.iload 10, 2) := by decide +kernel
theorem dX8_likeOnes_192 : decode cX8_likeOnes 192 = .ok (.ifCond .eq 13, 3) := by decide +kernel
theorem dX8_likeOnes_195 : decode cX8_likeOnes 195 = .ok (.iload 9, 2) := by decide +kernel
theorem dX8_likeOnes_197 : decode cX8_likeOnes 197 = .ok (.iload_n 2, 1) := by decide +kernel
theorem dX8_likeOnes_198 : decode cX8_likeOnes 198 = .ok (.if_icmp .gt 7, 3) := by decide +kernel
theorem dX8_likeOnes_201 : decode cX8_likeOnes 201 = .ok (.iconst 1, 1) := by decide +kernel
theorem dX8_likeOnes_202 : decode cX8_likeOnes 202 = .ok (.goto 4, 3) := by decide +kernel
theorem dX8_likeOnes_205 : decode cX8_likeOnes 205 = .ok (.iconst 0, 1) := by decide +kernel
theorem dX8_likeOnes_206 : decode cX8_likeOnes 206 = .ok (.iadd, 1) := by decide +kernel
theorem dX8_likeOnes_207 : decode cX8_likeOnes 207 = .ok (.istore 4, 2) := by decide +kernel
theorem dX8_likeOnes_209 : decode cX8_likeOnes 209 = .ok (.iinc 5 1, 3) := by decide +kernel
theorem dX8_likeOnes_212 : decode cX8_likeOnes 212 = .ok (.goto (-206), 3) := by decide +kernel
theorem dX8_likeOnes_215 : decode cX8_likeOnes 215 = .ok (.iload 4, 2) := by decide +kernel
theorem dX8_likeOnes_217 : decode cX8_likeOnes 217 = .ok (.ireturn, 1) := by decide +kernel
theorem dX8_like_0 : decode cX8_like 0 = .ok (.aload_n 0, 1) := by decide +kernel
theorem dX8_like_1 : decode cX8_like 1 = .ok (.iload_n 1, 1) := by decide +kernel
theorem dX8_like_2 : decode cX8_like 2 = .ok (.invokevirtual 184, 3) := by decide +kernel
theorem dX8_like_5 : decode cX8_like 5 = .ok (.ifCond .eq 23, 3) := by decide +kernel
theorem dX8_like_8 : decode cX8_like 8 = .ok (.iload_n 2, 1) := by decide +kernel
theorem dX8_like_9 : decode cX8_like 9 = .ok (.iconst 0, 1) := by decide +kernel
theorem dX8_like_10 : decode cX8_like 10 = .ok (.bipush 8, 2) := by decide +kernel
theorem dX8_like_12 : decode cX8_like 12 = .ok (.invokestatic 136, 3) := by decide +kernel
theorem dX8_like_15 : decode cX8_like 15 = .ok (.ifCond .eq 13, 3) := by decide +kernel
theorem dX8_like_18 : decode cX8_like 18 = .ok (.aload_n 0, 1) := by decide +kernel
theorem dX8_like_19 : decode cX8_like 19 = .ok (.iload_n 1, 1) := by decide +kernel
theorem dX8_like_20 : decode cX8_like 20 = .ok (.iload_n 2, 1) := by decide +kernel
theorem dX8_like_21 : decode cX8_like 21 = .ok (.iconst (-1), 1) := by decide +kernel
theorem dX8_like_22 : decode cX8_like 22 = .ok (.invokevirtual 206, 3) := by decide +kernel
theorem dX8_like_25 : decode cX8_like 25 = .ok (.goto 4, 3) := by decide +kernel
theorem dX8_like_28 : decode cX8_like 28 = .ok (.iconst (-1), 1) := by decide +kernel
theorem dX8_like_29 : decode cX8_like 29 = .ok (.ireturn, 1) := by decide +kernel
theorem dX8_unlike_0 : decode cX8_unlike 0 = .ok (.aload_n 0, 1) := by decide +kernel
theorem dX8_unlike_1 : decode cX8_unlike 1 = .ok (.iload_n 1, 1) := by decide +kernel
theorem dX8_unlike_2 : decode cX8_unlike 2 = .ok (.invokevirtual 184, 3) := by decide +kernel
theorem dX8_unlike_5 : decode cX8_unlike 5 = .ok (.ifCond .eq 13, 3) := by decide +kernel
theorem dX8_unlike_8 : decode cX8_unlike 8 = .ok (.iload_n 2, 1) := by decide +kernel
theorem dX8_unlike_9 : decode cX8_unlike 9 = .ok (.iconst 0, 1) := by decide +kernel
theorem dX8_unlike_10 : decode cX8_unlike 10 = .ok (.bipush 8, 2) := by decide +kernel
theorem dX8_unlike_12 : decode cX8_unlike 12 = .ok (.invokestatic 136, 3) := by decide +kernel
theorem dX8_unlike_15 : decode cX8_unlike 15 = .ok (.ifCond .ne 5, 3) := by decide +kernel
theorem dX8_unlike_18 : decode cX8_unlike 18 = .ok (.iconst (-1), 1) := by decide +kernel
theorem dX8_unlike_19 : decode cX8_unlike 19 = .ok (.ireturn, 1) := by decide +kernel
theorem dX8_unlike_20 : decode cX8_unlike 20 = .ok (.aload_n 0, 1) := by decide +kernel
theorem dX8_unlike_21 : decode cX8_unlike 21 = .ok (.iload_n 1, 1) := by decide +kernel
theorem dX8_unlike_22 : decode cX8_unlike 22 = .ok (.iload_n 2, 1) := by decide +kernel
theorem dX8_unlike_23 : decode cX8_unlike 23 = .ok (.iconst 1, 1) := by decide +kernel
theorem dX8_unlike_24 : decode cX8_unlike 24 = .ok (.invokevirtual 206, 3) := by decide +kernel
theorem dX8_unlike_27 : decode cX8_unlike 27 = .ok (.istore_n 3, 1) := by decide +kernel
theorem dX8_unlike_28 : decode cX8_unlike 28 = .ok (.aload_n 0, 1) := by decide +kernel
theorem dX8_unlike_29 : decode cX8_unlike 29 = .ok (.iload_n 1, 1) := by decide +kernel
theorem dX8_unlike_30 : decode cX8_unlike 30 = .ok (.iload_n 2, 1) := by decide +kernel
theorem dX8_unlike_31 : decode cX8_unlike 31 = .ok (.iconst 0, 1) := by decide +kernel
theorem dX8_unlike_32 : decode cX8_unlike 32 = .ok (.invokevirtual 206, 3) := by decide +kernel
theorem dX8_unlike_35 : decode cX8_unlike 35 = .ok (.istore 4, 2) := by decide +kernel
theorem dX8_unlike_37 : decode cX8_unlike 37 = .ok (.iload_n 3, 1) := by decide +kernel
theorem dX8_unlike_38 : decode cX8_unlike 38 = .ok (.iload 4, 2) := by decide +kernel
theorem dX8_unlike_40 : decode cX8_unlike 40 = .ok (.if_icmp .ne 7, 3) := by decide +kernel
theorem dX8_unlike_43 : decode cX8_unlike 43 = .ok (.iconst 0, 1) := by decide +kernel
theorem dX8_unlike_44 : decode cX8_unlike 44 = .ok (.goto 15, 3) := by decide +kernel
theorem dX8_unlike_47 : decode cX8_unlike 47 = .ok (.iload_n 3, 1) := by decide +kernel
theorem dX8_unlike_48 : decode cX8_unlike 48 = .ok (.iload 4, 2) := by decide +kernel
theorem dX8_unlike_50 : decode cX8_unlike 50 = .ok (.if_icmp .ge 7, 3) := by decide +kernel
theorem dX8_unlike_53 : decode cX8_unlike 53 = .ok (.iload_n 3, 1) := by decide +kernel
theorem dX8_unlike_54 : decode cX8_unlike 54 = .ok (.goto 5, 3) := by decide +kernel
theorem dX8_unlike_57 : decode cX8_unlike 57 = .ok (.iload 4, 2) := by decide +kernel
theorem dX8_unlike_59 : decode cX8_unlike 59 = .ok (.ireturn, 1) := by decide +kernel
theorem dX8_stands_0 : decode cX8_stands 0 = .ok (.aload_n 0, 1) := by decide +kernel
theorem dX8_stands_1 : decode cX8_stands 1 = .ok (.getfield 50, 3) := by decide +kernel
theorem dX8_stands_4 : decode cX8_stands 4 = .ok (.iload_n 1, 1) := by decide +kernel
theorem dX8_stands_5 : decode cX8_stands 5 = .ok (.iaload, 1) := by decide +kernel
theorem dX8_stands_6 : decode cX8_stands 6 = .ok (.iconst 2, 1) := by decide +kernel
theorem dX8_stands_7 : decode cX8_stands 7 = .ok (.if_icmp .eq 23, 3) := by decide +kernel
theorem dX8_stands_10 : decode cX8_stands 10 = .ok (.aload_n 0, 1) := by decide +kernel
theorem dX8_stands_11 : decode cX8_stands 11 = .ok (.getfield 50, 3) := by decide +kernel
theorem dX8_stands_14 : decode cX8_stands 14 = .ok (.iload_n 1, 1) := by decide +kernel
theorem dX8_stands_15 : decode cX8_stands 15 = .ok (.iaload, 1) := by decide +kernel
theorem dX8_stands_16 : decode cX8_stands 16 = .ok (.iconst 5, 1) := by decide +kernel
theorem dX8_stands_17 : decode cX8_stands 17 = .ok (.if_icmp .eq 13, 3) := by decide +kernel
theorem dX8_stands_20 : decode cX8_stands 20 = .ok (.aload_n 0, 1) := by decide +kernel
theorem dX8_stands_21 : decode cX8_stands 21 = .ok (.getfield 50, 3) := by decide +kernel
theorem dX8_stands_24 : decode cX8_stands 24 = .ok (.iload_n 1, 1) := by decide +kernel
theorem dX8_stands_25 : decode cX8_stands 25 = .ok (.iaload, 1) := by decide +kernel
theorem dX8_stands_26 : decode cX8_stands 26 = .ok (.iconst 3, 1) := by decide +kernel
theorem dX8_stands_27 : decode cX8_stands 27 = .ok (.if_icmp .ne 7, 3) := by decide +kernel
theorem dX8_stands_30 : decode cX8_stands 30 = .ok (.iconst 1, 1) := by decide +kernel
theorem dX8_stands_31 : decode cX8_stands 31 = .ok (.goto 4, 3) := by decide +kernel
theorem dX8_stands_34 : decode cX8_stands 34 = .ok (.iconst 0, 1) := by decide +kernel
theorem dX8_stands_35 : decode cX8_stands 35 = .ok (.ireturn, 1) := by decide +kernel
theorem dX8_findStrikes_0 : decode cX8_findStrikes 0 = .ok (.aload_n 0, 1) := by decide +kernel
theorem dX8_findStrikes_1 : decode cX8_findStrikes 1 = .ok (.iconst 0, 1) := by decide +kernel
theorem dX8_findStrikes_2 : decode cX8_findStrikes 2 = .ok (.putfield 210, 3) := by decide +kernel
theorem dX8_findStrikes_5 : decode cX8_findStrikes 5 = .ok (.iconst 0, 1) := by decide +kernel
theorem dX8_findStrikes_6 : decode cX8_findStrikes 6 = .ok (.istore_n 2, 1) := by decide +kernel
theorem dX8_findStrikes_7 : decode cX8_findStrikes 7 = .ok (.iload_n 2, 1) := by decide +kernel
theorem dX8_findStrikes_8 : decode cX8_findStrikes 8 = .ok (.aload_n 0, 1) := by decide +kernel
theorem dX8_findStrikes_9 : decode cX8_findStrikes 9 = .ok (.getfield 144, 3) := by decide +kernel
theorem dX8_findStrikes_12 : decode cX8_findStrikes 12 = .ok (.if_icmp .ge 176, 3) := by decide +kernel
theorem dX8_findStrikes_15 : decode cX8_findStrikes 15 = .ok (.iconst 0, 1) := by decide +kernel
theorem dX8_findStrikes_16 : decode cX8_findStrikes 16 = .ok (.istore_n 3, 1) := by decide +kernel
theorem dX8_findStrikes_17 : decode cX8_findStrikes 17 = .ok (.iload_n 3, 1) := by decide +kernel
theorem dX8_findStrikes_18 : decode cX8_findStrikes 18 = .ok (.aload_n 0, 1) := by decide +kernel
theorem dX8_findStrikes_19 : decode cX8_findStrikes 19 = .ok (.getfield 133, 3) := by decide +kernel
theorem dX8_findStrikes_22 : decode cX8_findStrikes 22 = .ok (.if_icmp .ge 160, 3) := by decide +kernel
theorem dX8_findStrikes_25 : decode cX8_findStrikes 25 = .ok (.aload_n 0, 1) := by decide +kernel
theorem dX8_findStrikes_26 : decode cX8_findStrikes 26 = .ok (.getfield 32, 3) := by decide +kernel
theorem dX8_findStrikes_29 : decode cX8_findStrikes 29 = .ok (.iload_n 2, 1) := by decide +kernel
theorem dX8_findStrikes_30 : decode cX8_findStrikes 30 = .ok (.iaload, 1) := by decide +kernel
theorem dX8_findStrikes_31 : decode cX8_findStrikes 31 = .ok (.iload_n 1, 1) := by decide +kernel
theorem dX8_findStrikes_32 : decode cX8_findStrikes 32 = .ok (.if_icmp .ne 150, 3) := by decide +kernel
theorem dX8_findStrikes_35 : decode cX8_findStrikes 35 = .ok (.aload_n 0, 1) := by decide +kernel
theorem dX8_findStrikes_36 : decode cX8_findStrikes 36 = .ok (.getfield 44, 3) := by decide +kernel
theorem dX8_findStrikes_39 : decode cX8_findStrikes 39 = .ok (.iload_n 3, 1) := by decide +kernel
theorem dX8_findStrikes_40 : decode cX8_findStrikes 40 = .ok (.iaload, 1) := by decide +kernel
theorem dX8_findStrikes_41 : decode cX8_findStrikes 41 = .ok (.iload_n 2, 1) := by decide +kernel
theorem dX8_findStrikes_42 : decode cX8_findStrikes 42 = .ok (.if_icmp .ne 134, 3) := by decide +kernel
theorem dX8_findStrikes_45 : decode cX8_findStrikes 45 = .ok (.aload_n 0, 1) := by decide +kernel
theorem dX8_findStrikes_46 : decode cX8_findStrikes 46 = .ok (.iload_n 3, 1) := by decide +kernel
theorem dX8_findStrikes_47 : decode cX8_findStrikes 47 = .ok (.invokevirtual 213, 3) := by decide +kernel
theorem dX8_findStrikes_50 : decode cX8_findStrikes 50 = .ok (.ifCond .eq 126, 3) := by decide +kernel
theorem dX8_findStrikes_53 : decode cX8_findStrikes 53 = .ok (.aload_n 0, 1) := by decide +kernel
theorem dX8_findStrikes_54 : decode cX8_findStrikes 54 = .ok (.getfield 16, 3) := by decide +kernel
theorem dX8_findStrikes_57 : decode cX8_findStrikes 57 = .ok (.aload_n 0, 1) := by decide +kernel
theorem dX8_findStrikes_58 : decode cX8_findStrikes 58 = .ok (.getfield 47, 3) := by decide +kernel
theorem dX8_findStrikes_61 : decode cX8_findStrikes 61 = .ok (.iload_n 3, 1) := by decide +kernel
theorem dX8_findStrikes_62 : decode cX8_findStrikes 62 = .ok (.iaload, 1) := by decide +kernel
theorem dX8_findStrikes_63 : decode cX8_findStrikes 63 = .ok (.iaload, 1) := by decide +kernel
theorem dX8_findStrikes_64 : decode cX8_findStrikes 64 = .ok (.iconst 2, 1) := by decide +kernel
theorem dX8_findStrikes_65 : decode cX8_findStrikes 65 = .ok (.if_icmp .ne 111, 3) := by decide +kernel
theorem dX8_findStrikes_68 : decode cX8_findStrikes 68 = .ok (.iconst 0, 1) := by decide +kernel
theorem dX8_findStrikes_69 : decode cX8_findStrikes 69 = .ok (.istore 4, 2) := by decide +kernel
theorem dX8_findStrikes_71 : decode cX8_findStrikes 71 = .ok (.iconst 0, 1) := by decide +kernel
theorem dX8_findStrikes_72 : decode cX8_findStrikes 72 = .ok (.istore 5, 2) := by decide +kernel
theorem dX8_findStrikes_74 : decode cX8_findStrikes 74 = .ok (.iload 5, 2) := by decide +kernel
theorem dX8_findStrikes_76 : decode cX8_findStrikes 76 = .ok (.aload_n 0, 1) := by decide +kernel
theorem dX8_findStrikes_77 : decode cX8_findStrikes 77 = .ok (.getfield 210, 3) := by decide +kernel
theorem dX8_findStrikes_80 : decode cX8_findStrikes 80 = .ok (.if_icmp .ge 40, 3) := by decide +kernel
theorem dX8_findStrikes_83 : decode cX8_findStrikes 83 = .ok (.iload 4, 2) := by decide +kernel
theorem dX8_findStrikes_85 : decode cX8_findStrikes 85 = .ok (.aload_n 0, 1) := by decide +kernel
theorem dX8_findStrikes_86 : decode cX8_findStrikes 86 = .ok (.getfield 35, 3) := by decide +kernel
theorem dX8_findStrikes_89 : decode cX8_findStrikes 89 = .ok (.iload_n 2, 1) := by decide +kernel
theorem dX8_findStrikes_90 : decode cX8_findStrikes 90 = .ok (.iaload, 1) := by decide +kernel
theorem dX8_findStrikes_91 : decode cX8_findStrikes 91 = .ok (.aload_n 0, 1) := by decide +kernel
theorem dX8_findStrikes_92 : decode cX8_findStrikes 92 = .ok (.getfield 127, 3) := by decide +kernel
theorem dX8_findStrikes_95 : decode cX8_findStrikes 95 = .ok (.iload 5, 2) := by decide +kernel
theorem dX8_findStrikes_97 : decode cX8_findStrikes 97 = .ok (.iaload, 1) := by decide +kernel
theorem dX8_findStrikes_98 : decode cX8_findStrikes 98 = .ok (.aload_n 0, 1) := by decide +kernel
theorem dX8_findStrikes_99 : decode cX8_findStrikes 99 = .ok (.getfield 22, 3) := by decide +kernel
theorem dX8_findStrikes_102 : decode cX8_findStrikes 102 = .ok (.iadd, 1) := by decide +kernel
theorem dX8_findStrikes_103 : decode cX8_findStrikes 103 = .ok (.if_icmp .ge 7, 3) := by decide +kernel
theorem dX8_findStrikes_106 : decode cX8_findStrikes 106 = .ok (.iconst 1, 1) := by decide +kernel
theorem dX8_findStrikes_107 : decode cX8_findStrikes 107 = .ok (.goto 4, 3) := by decide +kernel
theorem dX8_findStrikes_110 : decode cX8_findStrikes 110 = .ok (.iconst 0, 1) := by decide +kernel
theorem dX8_findStrikes_111 : decode cX8_findStrikes 111 = .ok (.iadd, 1) := by decide +kernel
theorem dX8_findStrikes_112 : decode cX8_findStrikes 112 = .ok (.istore 4, 2) := by decide +kernel
theorem dX8_findStrikes_114 : decode cX8_findStrikes 114 = .ok (.iinc 5 1, 3) := by decide +kernel
theorem dX8_findStrikes_117 : decode cX8_findStrikes 117 = .ok (.goto (-43), 3) := by decide +kernel
theorem dX8_findStrikes_120 : decode cX8_findStrikes 120 = .ok (.aload_n 0, 1) := by decide +kernel
theorem dX8_findStrikes_121 : decode cX8_findStrikes 121 = .ok (.getfield 124, 3) := by decide +kernel
theorem dX8_findStrikes_124 : decode cX8_findStrikes 124 = .ok (.aload_n 0, 1) := by decide +kernel
theorem dX8_findStrikes_125 : decode cX8_findStrikes 125 = .ok (.getfield 210, 3) := by decide +kernel
theorem dX8_findStrikes_128 : decode cX8_findStrikes 128 = .ok (.iload_n 3, 1) := by decide +kernel
theorem dX8_findStrikes_129 : decode cX8_findStrikes 129 = .ok (.iastore, 1) := by decide +kernel
theorem dX8_findStrikes_130 : decode cX8_findStrikes 130 = .ok (.aload_n 0, 1) := by decide +kernel
theorem dX8_findStrikes_131 : decode cX8_findStrikes 131 = .ok (.getfield 127, 3) := by decide +kernel
theorem dX8_findStrikes_134 : decode cX8_findStrikes 134 = .ok (.aload_n 0, 1) := by decide +kernel
theorem dX8_findStrikes_135 : decode cX8_findStrikes 135 = .ok (.getfield 210, 3) := by decide +kernel
theorem dX8_findStrikes_138 : decode cX8_findStrikes 138 = .ok (.aload_n 0, 1) := by decide +kernel
theorem dX8_findStrikes_139 : decode cX8_findStrikes 139 = .ok (.getfield 35, 3) := by decide +kernel
theorem dX8_findStrikes_142 : decode cX8_findStrikes 142 = .ok (.iload_n 2, 1) := by decide +kernel
theorem dX8_findStrikes_143 : decode cX8_findStrikes 143 = .ok (.iaload, 1) := by decide +kernel
theorem dX8_findStrikes_144 : decode cX8_findStrikes 144 = .ok (.iastore, 1) := by decide +kernel
theorem dX8_findStrikes_145 : decode cX8_findStrikes 145 = .ok (.aload_n 0, 1) := by decide +kernel
theorem dX8_findStrikes_146 : decode cX8_findStrikes 146 = .ok (.getfield 130, 3) := by decide +kernel
theorem dX8_findStrikes_149 : decode cX8_findStrikes 149 = .ok (.aload_n 0, 1) := by decide +kernel
theorem dX8_findStrikes_150 : decode cX8_findStrikes 150 = .ok (.getfield 210, 3) := by decide +kernel
theorem dX8_findStrikes_153 : decode cX8_findStrikes 153 = .ok (.iload 4, 2) := by decide +kernel
theorem dX8_findStrikes_155 : decode cX8_findStrikes 155 = .ok (.iconst 3, 1) := by decide +kernel
theorem dX8_findStrikes_156 : decode cX8_findStrikes 156 = .ok (.if_icmp .ge 8, 3) := by decide +kernel
theorem dX8_findStrikes_159 : decode cX8_findStrikes 159 = .ok (.iload 4, 2) := by decide +kernel
theorem dX8_findStrikes_161 : decode cX8_findStrikes 161 = .ok (.goto 4, 3) := by decide +kernel
theorem dX8_findStrikes_164 : decode cX8_findStrikes 164 = .ok (.iconst 3, 1) := by decide +kernel
theorem dX8_findStrikes_165 : decode cX8_findStrikes 165 = .ok (.iastore, 1) := by decide +kernel
theorem dX8_findStrikes_166 : decode cX8_findStrikes 166 = .ok (.aload_n 0, 1) := by decide +kernel
theorem dX8_findStrikes_167 : decode cX8_findStrikes 167 = .ok (.dup, 1) := by decide +kernel
theorem dX8_findStrikes_168 : decode cX8_findStrikes 168 = .ok (.getfield 210, 3) := by decide +kernel
theorem dX8_findStrikes_171 : decode cX8_findStrikes 171 = .ok (.iconst 1, 1) := by decide +kernel
theorem dX8_findStrikes_172 : decode cX8_findStrikes 172 = .ok (.iadd, 1) := by decide +kernel
theorem dX8_findStrikes_173 : decode cX8_findStrikes 173 = .ok (.putfield 210, 3) := by decide +kernel
theorem dX8_findStrikes_176 : decode cX8_findStrikes 176 = .ok (.iinc 3 1, 3) := by decide +kernel
theorem dX8_findStrikes_179 : decode cX8_findStrikes 179 = .ok (.goto (-162), 3) := by decide +kernel
theorem dX8_findStrikes_182 : decode cX8_findStrikes 182 = .ok (.iinc 2 1, 3) := by decide +kernel
theorem dX8_findStrikes_185 : decode cX8_findStrikes 185 = .ok (.goto (-178), 3) := by decide +kernel
theorem dX8_findStrikes_188 : decode cX8_findStrikes 188 = .ok (.return_, 1) := by decide +kernel
theorem dX8_isHidden_0 : decode cX8_isHidden 0 = .ok (.iconst 0, 1) := by decide +kernel
theorem dX8_isHidden_1 : decode cX8_isHidden 1 = .ok (.istore_n 2, 1) := by decide +kernel
theorem dX8_isHidden_2 : decode cX8_isHidden 2 = .ok (.iconst 0, 1) := by decide +kernel
theorem dX8_isHidden_3 : decode cX8_isHidden 3 = .ok (.istore_n 3, 1) := by decide +kernel
theorem dX8_isHidden_4 : decode cX8_isHidden 4 = .ok (.iload_n 3, 1) := by decide +kernel
theorem dX8_isHidden_5 : decode cX8_isHidden 5 = .ok (.aload_n 0, 1) := by decide +kernel
theorem dX8_isHidden_6 : decode cX8_isHidden 6 = .ok (.getfield 133, 3) := by decide +kernel
theorem dX8_isHidden_9 : decode cX8_isHidden 9 = .ok (.if_icmp .ge 37, 3) := by decide +kernel
theorem dX8_isHidden_12 : decode cX8_isHidden 12 = .ok (.iload_n 2, 1) := by decide +kernel
theorem dX8_isHidden_13 : decode cX8_isHidden 13 = .ok (.ifCond .ne 21, 3) := by decide +kernel
theorem dX8_isHidden_16 : decode cX8_isHidden 16 = .ok (.aload_n 0, 1) := by decide +kernel
theorem dX8_isHidden_17 : decode cX8_isHidden 17 = .ok (.getfield 44, 3) := by decide +kernel
theorem dX8_isHidden_20 : decode cX8_isHidden 20 = .ok (.iload_n 3, 1) := by decide +kernel
theorem dX8_isHidden_21 : decode cX8_isHidden 21 = .ok (.iaload, 1) := by decide +kernel
theorem dX8_isHidden_22 : decode cX8_isHidden 22 = .ok (.iload_n 1, 1) := by decide +kernel
theorem dX8_isHidden_23 : decode cX8_isHidden 23 = .ok (.if_icmp .ne 15, 3) := by decide +kernel
theorem dX8_isHidden_26 : decode cX8_isHidden 26 = .ok (.aload_n 0, 1) := by decide +kernel
theorem dX8_isHidden_27 : decode cX8_isHidden 27 = .ok (.iload_n 3, 1) := by decide +kernel
theorem dX8_isHidden_28 : decode cX8_isHidden 28 = .ok (.invokevirtual 213, 3) := by decide +kernel
theorem dX8_isHidden_31 : decode cX8_isHidden 31 = .ok (.ifCond .eq 7, 3) := by decide +kernel
theorem dX8_isHidden_34 : decode cX8_isHidden 34 = .ok (.iconst 1, 1) := by decide +kernel
theorem dX8_isHidden_35 : decode cX8_isHidden 35 = .ok (.goto 4, 3) := by decide +kernel
theorem dX8_isHidden_38 : decode cX8_isHidden 38 = .ok (.iconst 0, 1) := by decide +kernel
theorem dX8_isHidden_39 : decode cX8_isHidden 39 = .ok (.istore_n 2, 1) := by decide +kernel
theorem dX8_isHidden_40 : decode cX8_isHidden 40 = .ok (.iinc 3 1, 3) := by decide +kernel
theorem dX8_isHidden_43 : decode cX8_isHidden 43 = .ok (.goto (-39), 3) := by decide +kernel
theorem dX8_isHidden_46 : decode cX8_isHidden 46 = .ok (.iload_n 2, 1) := by decide +kernel
theorem dX8_isHidden_47 : decode cX8_isHidden 47 = .ok (.ireturn, 1) := by decide +kernel
theorem dX8_writer_0 : decode cX8_writer 0 = .ok (.iload_n 1, 1) := by decide +kernel
theorem dX8_writer_1 : decode cX8_writer 1 = .ok (.iconst 0, 1) := by decide +kernel
theorem dX8_writer_2 : decode cX8_writer 2 = .ok (.bipush 39, 2) := by decide +kernel
theorem dX8_writer_4 : decode cX8_writer 4 = .ok (.invokestatic 136, 3) := by decide +kernel
theorem dX8_writer_7 : decode cX8_writer 7 = .ok (.ifCond .eq 13, 3) := by decide +kernel
theorem dX8_writer_10 : decode cX8_writer 10 = .ok (.iload_n 2, 1) := by decide +kernel
theorem dX8_writer_11 : decode cX8_writer 11 = .ok (.iconst 0, 1) := by decide +kernel
theorem dX8_writer_12 : decode cX8_writer 12 = .ok (.bipush 6, 2) := by decide +kernel
theorem dX8_writer_14 : decode cX8_writer 14 = .ok (.invokestatic 136, 3) := by decide +kernel
theorem dX8_writer_17 : decode cX8_writer 17 = .ok (.ifCond .ne 5, 3) := by decide +kernel
theorem dX8_writer_20 : decode cX8_writer 20 = .ok (.iconst (-1), 1) := by decide +kernel
theorem dX8_writer_21 : decode cX8_writer 21 = .ok (.ireturn, 1) := by decide +kernel
theorem dX8_writer_22 : decode cX8_writer 22 = .ok (.aload_n 0, 1) := by decide +kernel
theorem dX8_writer_23 : decode cX8_writer 23 = .ok (.iload_n 1, 1) := by decide +kernel
theorem dX8_writer_24 : decode cX8_writer 24 = .ok (.invokevirtual 216, 3) := by decide +kernel
theorem dX8_writer_27 : decode cX8_writer 27 = .ok (.iconst 0, 1) := by decide +kernel
theorem dX8_writer_28 : decode cX8_writer 28 = .ok (.istore_n 3, 1) := by decide +kernel
theorem dX8_writer_29 : decode cX8_writer 29 = .ok (.iconst 0, 1) := by decide +kernel
theorem dX8_writer_30 : decode cX8_writer 30 = .ok (.istore 4, 2) := by decide +kernel
theorem dX8_writer_32 : decode cX8_writer 32 = .ok (.iconst (-1), 1) := by decide +kernel
theorem dX8_writer_33 : decode cX8_writer 33 = .ok (.istore 5, 2) := by decide +kernel
theorem dX8_writer_35 : decode cX8_writer 35 = .ok (.aload_n 0, 1) := by decide +kernel
theorem dX8_writer_36 : decode cX8_writer 36 = .ok (.getfield 210, 3) := by decide +kernel
theorem dX8_writer_39 : decode cX8_writer 39 = .ok (.iconst 1, 1) := by decide +kernel
theorem dX8_writer_40 : decode cX8_writer 40 = .ok (.isub, 1) := by decide +kernel
theorem dX8_writer_41 : decode cX8_writer 41 = .ok (.istore 6, 2) := by decide +kernel
theorem dX8_writer_43 : decode cX8_writer 43 = .ok (.iload 6, 2) := by decide +kernel
theorem dX8_writer_45 : decode cX8_writer 45 = .ok (.ifCond .lt 129, 3) := by decide +kernel
theorem dX8_writer_48 : decode cX8_writer 48 = .ok (.iload_n 3, 1) := by decide +kernel
theorem dX8_writer_49 : decode cX8_writer 49 = .ok (.aload_n 0, 1) := by decide +kernel
theorem dX8_writer_50 : decode cX8_writer 50 = .ok (.getfield 140, 3) := by decide +kernel
theorem dX8_writer_53 : decode cX8_writer 53 = .ok (.aload_n 0, 1) := by decide +kernel
theorem dX8_writer_54 : decode cX8_writer 54 = .ok (.getfield 127, 3) := by decide +kernel
theorem dX8_writer_57 : decode cX8_writer 57 = .ok (.iload 6, 2) := by decide +kernel
theorem dX8_writer_59 : decode cX8_writer 59 = .ok (.iaload, 1) := by decide +kernel
theorem dX8_writer_60 : decode cX8_writer 60 = .ok (.aload_n 0, 1) := by decide +kernel
theorem dX8_writer_61 : decode cX8_writer 61 = .ok (.getfield 22, 3) := by decide +kernel
theorem dX8_writer_64 : decode cX8_writer 64 = .ok (.iadd, 1) := by decide +kernel
theorem dX8_writer_65 : decode cX8_writer 65 = .ok (.if_icmp .ge 7, 3) := by decide +kernel
theorem dX8_writer_68 : decode cX8_writer 68 = .ok (.iconst 1, 1) := by decide +kernel
theorem dX8_writer_69 : decode cX8_writer 69 = .ok (.goto 4, 3) := by decide +kernel
theorem dX8_writer_72 : decode cX8_writer 72 = .ok (.iconst 0, 1) := by decide +kernel
theorem dX8_writer_73 : decode cX8_writer 73 = .ok (.iadd, 1) := by decide +kernel
theorem dX8_writer_74 : decode cX8_writer 74 = .ok (.istore_n 3, 1) := by decide +kernel
theorem dX8_writer_75 : decode cX8_writer 75 = .ok (.aload_n 0, 1) := by decide +kernel
theorem dX8_writer_76 : decode cX8_writer 76 = .ok (.getfield 130, 3) := by decide +kernel
theorem dX8_writer_79 : decode cX8_writer 79 = .ok (.iload 6, 2) := by decide +kernel
theorem dX8_writer_81 : decode cX8_writer 81 = .ok (.iaload, 1) := by decide +kernel
theorem dX8_writer_82 : decode cX8_writer 82 = .ok (.ifCond .le 45, 3) := by decide +kernel
theorem dX8_writer_85 : decode cX8_writer 85 = .ok (.aload_n 0, 1) := by decide +kernel
theorem dX8_writer_86 : decode cX8_writer 86 = .ok (.getfield 130, 3) := by decide +kernel
theorem dX8_writer_89 : decode cX8_writer 89 = .ok (.iload 6, 2) := by decide +kernel
theorem dX8_writer_91 : decode cX8_writer 91 = .ok (.iaload, 1) := by decide +kernel
theorem dX8_writer_92 : decode cX8_writer 92 = .ok (.iconst 3, 1) := by decide +kernel
theorem dX8_writer_93 : decode cX8_writer 93 = .ok (.if_icmp .ge 34, 3) := by decide +kernel
theorem dX8_writer_96 : decode cX8_writer 96 = .ok (.aload_n 0, 1) := by decide +kernel
theorem dX8_writer_97 : decode cX8_writer 97 = .ok (.getfield 140, 3) := by decide +kernel
theorem dX8_writer_100 : decode cX8_writer 100 = .ok (.aload_n 0, 1) := by decide +kernel
theorem dX8_writer_101 : decode cX8_writer 101 = .ok (.getfield 127, 3) := by decide +kernel
theorem dX8_writer_104 : decode cX8_writer 104 = .ok (.iload 6, 2) := by decide +kernel
theorem dX8_writer_106 : decode cX8_writer 106 = .ok (.iaload, 1) := by decide +kernel
theorem dX8_writer_107 : decode cX8_writer 107 = .ok (.aload_n 0, 1) := by decide +kernel
theorem dX8_writer_108 : decode cX8_writer 108 = .ok (.getfield 130, 3) := by decide +kernel
theorem dX8_writer_111 : decode cX8_writer 111 = .ok (.iload 6, 2) := by decide +kernel
theorem dX8_writer_113 : decode cX8_writer 113 = .ok (.iaload, 1) := by decide +kernel
theorem dX8_writer_114 : decode cX8_writer 114 = .ok (.aload_n 0, 1) := by decide +kernel
theorem dX8_writer_115 : decode cX8_writer 115 = .ok (.getfield 26, 3) := by decide +kernel
theorem dX8_writer_118 : decode cX8_writer 118 = .ok (.imul, 1) := by decide +kernel
theorem dX8_writer_119 : decode cX8_writer 119 = .ok (.iadd, 1) := by decide +kernel
theorem dX8_writer_120 : decode cX8_writer 120 = .ok (.if_icmp .ge 7, 3) := by decide +kernel
theorem dX8_writer_123 : decode cX8_writer 123 = .ok (.iconst 1, 1) := by decide +kernel
theorem dX8_writer_124 : decode cX8_writer 124 = .ok (.goto 4, 3) := by decide +kernel
theorem dX8_writer_127 : decode cX8_writer 127 = .ok (.iconst 0, 1) := by decide +kernel
theorem dX8_writer_128 : decode cX8_writer 128 = .ok (.istore 7, 2) := by decide +kernel
theorem dX8_writer_130 : decode cX8_writer 130 = .ok (.iload 7, 2) := by decide +kernel
theorem dX8_writer_132 : decode cX8_writer 132 = .ok (.ifCond .eq 7, 3) := by decide +kernel
theorem dX8_writer_135 : decode cX8_writer 135 = .ok (.iconst 1, 1) := by decide +kernel
theorem dX8_writer_136 : decode cX8_writer 136 = .ok (.goto 5, 3) := by decide +kernel
theorem dX8_writer_139 : decode cX8_writer 139 = .ok (.iload 4, 2) := by decide +kernel
theorem dX8_writer_141 : decode cX8_writer 141 = .ok (.istore 4, 2) := by decide +kernel
theorem dX8_writer_143 : decode cX8_writer 143 = .ok (.aload_n 0, 1) := by decide +kernel
theorem dX8_writer_144 : decode cX8_writer 144 = .ok (.getfield 130, 3) := by decide +kernel
theorem dX8_writer_147 : decode cX8_writer 147 = .ok (.iload 6, 2) := by decide +kernel
theorem dX8_writer_149 : decode cX8_writer 149 = .ok (.iaload, 1) := by decide +kernel
theorem dX8_writer_150 : decode cX8_writer 150 = .ok (.iconst 3, 1) := by decide +kernel
theorem dX8_writer_151 : decode cX8_writer 151 = .ok (.if_icmp .ne 13, 3) := by decide +kernel
theorem dX8_writer_154 : decode cX8_writer 154 = .ok (.aload_n 0, 1) := by decide +kernel
theorem dX8_writer_155 : decode cX8_writer 155 = .ok (.getfield 127, 3) := by decide +kernel
theorem dX8_writer_158 : decode cX8_writer 158 = .ok (.iload 6, 2) := by decide +kernel
theorem dX8_writer_160 : decode cX8_writer 160 = .ok (.iaload, 1) := by decide +kernel
theorem dX8_writer_161 : decode cX8_writer 161 = .ok (.goto 5, 3) := by decide +kernel
theorem dX8_writer_164 : decode cX8_writer 164 = .ok (.iload 5, 2) := by decide +kernel
theorem dX8_writer_166 : decode cX8_writer 166 = .ok (.istore 5, 2) := by decide +kernel
theorem dX8_writer_168 : decode cX8_writer 168 = .ok (.iinc 6 (-1), 3) := by decide +kernel
theorem dX8_writer_171 : decode cX8_writer 171 = .ok (.goto (-128), 3) := by decide +kernel
theorem dX8_writer_174 : decode cX8_writer 174 = .ok (.iconst 0, 1) := by decide +kernel
theorem dX8_writer_175 : decode cX8_writer 175 = .ok (.istore 6, 2) := by decide +kernel
theorem dX8_writer_177 : decode cX8_writer 177 = .ok (.iconst 0, 1) := by decide +kernel
theorem dX8_writer_178 : decode cX8_writer 178 = .ok (.istore 7, 2) := by decide +kernel
theorem dX8_writer_180 : decode cX8_writer 180 = .ok (.iload 7, 2) := by decide +kernel
theorem dX8_writer_182 : decode cX8_writer 182 = .ok (.aload_n 0, 1) := by decide +kernel
theorem dX8_writer_183 : decode cX8_writer 183 = .ok (.getfield 133, 3) := by decide +kernel
theorem dX8_writer_186 : decode cX8_writer 186 = .ok (.if_icmp .ge 59, 3) := by decide +kernel
theorem dX8_writer_189 : decode cX8_writer 189 = .ok (.iload 6, 2) := by decide +kernel
theorem dX8_writer_191 : decode cX8_writer 191 = .ok (.aload_n 0, 1) := by decide +kernel
theorem dX8_writer_192 : decode cX8_writer 192 = .ok (.getfield 32, 3) := by decide +kernel
theorem dX8_writer_195 : decode cX8_writer 195 = .ok (.aload_n 0, 1) := by decide +kernel
theorem dX8_writer_196 : decode cX8_writer 196 = .ok (.getfield 44, 3) := by decide +kernel
theorem dX8_writer_199 : decode cX8_writer 199 = .ok (.iload 7, 2) := by decide +kernel
theorem dX8_writer_201 : decode cX8_writer 201 = .ok (.iaload, 1) := by decide +kernel
theorem dX8_writer_202 : decode cX8_writer 202 = .ok (.iaload, 1) := by decide +kernel
theorem dX8_writer_203 : decode cX8_writer 203 = .ok (.iload_n 1, 1) := by decide +kernel
theorem dX8_writer_204 : decode cX8_writer 204 = .ok (.if_icmp .ne 31, 3) := by decide +kernel
theorem dX8_writer_207 : decode cX8_writer 207 = .ok (.aload_n 0, 1) := by decide +kernel
theorem dX8_writer_208 : decode cX8_writer 208 = .ok (.iload 7, 2) := by decide +kernel
theorem dX8_writer_210 : decode cX8_writer 210 = .ok (.invokevirtual 213, 3) := by decide +kernel
theorem dX8_writer_213 : decode cX8_writer 213 = .ok (.ifCond .eq 22, 3) := by decide +kernel
theorem dX8_writer_216 : decode cX8_writer 216 = .ok (.aload_n 0, 1) := by decide +kernel
theorem dX8_writer_217 : decode cX8_writer 217 = .ok (.getfield 16, 3) := by decide +kernel
theorem dX8_writer_220 : decode cX8_writer 220 = .ok (.aload_n 0, 1) := by decide +kernel
theorem dX8_writer_221 : decode cX8_writer 221 = .ok (.getfield 47, 3) := by decide +kernel
theorem dX8_writer_224 : decode cX8_writer 224 = .ok (.iload 7, 2) := by decide +kernel
theorem dX8_writer_226 : decode cX8_writer 226 = .ok (.iaload, 1) := by decide +kernel
theorem dX8_writer_227 : decode cX8_writer 227 = .ok (.iaload, 1) := by decide +kernel
theorem dX8_writer_228 : decode cX8_writer 228 = .ok (.ifCond .le 7, 3) := by decide +kernel
theorem dX8_writer_231 : decode cX8_writer 231 = .ok (.iconst 1, 1) := by decide +kernel
theorem dX8_writer_232 : decode cX8_writer 232 = .ok (.goto 4, 3) := by decide +kernel
theorem dX8_writer_235 : decode cX8_writer 235 = .ok (.iconst 0, 1) := by decide +kernel
theorem dX8_writer_236 : decode cX8_writer 236 = .ok (.iadd, 1) := by decide +kernel
theorem dX8_writer_237 : decode cX8_writer 237 = .ok (.istore 6, 2) := by decide +kernel
theorem dX8_writer_239 : decode cX8_writer 239 = .ok (.iinc 7 1, 3) := by decide +kernel
theorem dX8_writer_242 : decode cX8_writer 242 = .ok (.goto (-62), 3) := by decide +kernel
theorem dX8_writer_245 : decode cX8_writer 245 = .ok (.iconst 0, 1) := by decide +kernel
theorem dX8_writer_246 : decode cX8_writer 246 = .ok (.istore 7, 2) := by decide +kernel
theorem dX8_writer_248 : decode cX8_writer 248 = .ok (.iconst 0, 1) := by decide +kernel
theorem dX8_writer_249 : decode cX8_writer 249 = .ok (.istore 8, 2) := by decide +kernel
theorem dX8_writer_251 : decode cX8_writer 251 = .ok (.iconst 0, 1) := by decide +kernel
theorem dX8_writer_252 : decode cX8_writer 252 = .ok (.istore 9, 2) := by decide +kernel
theorem dX8_writer_254 : decode cX8_writer 254 = .ok (.iload 9, 2) := by decide +kernel
theorem dX8_writer_256 : decode cX8_writer 256 = .ok (.aload_n 0, 1) := by decide +kernel
theorem dX8_writer_257 : decode cX8_writer 257 = .ok (.getfield 144, 3) := by decide +kernel
theorem dX8_writer_260 : decode cX8_writer 260 = .ok (.if_icmp .ge 60, 3) := by decide +kernel
theorem dX8_writer_263 : decode cX8_writer 263 = .ok (.iload 7, 2) := by decide +kernel
theorem dX8_writer_265 : decode cX8_writer 265 = .ok (.aload_n 0, 1) := by decide +kernel
theorem dX8_writer_266 : decode cX8_writer 266 = .ok (.getfield 32, 3) := by decide +kernel
theorem dX8_writer_269 : decode cX8_writer 269 = .ok (.iload 9, 2) := by decide +kernel
theorem dX8_writer_271 : decode cX8_writer 271 = .ok (.iaload, 1) := by decide +kernel
theorem dX8_writer_272 : decode cX8_writer 272 = .ok (.iload_n 1, 1) := by decide +kernel
theorem dX8_writer_273 : decode cX8_writer 273 = .ok (.if_icmp .ne 7, 3) := by decide +kernel
theorem dX8_writer_276 : decode cX8_writer 276 = .ok (.iconst 1, 1) := by decide +kernel
theorem dX8_writer_277 : decode cX8_writer 277 = .ok (.goto 4, 3) := by decide +kernel
theorem dX8_writer_280 : decode cX8_writer 280 = .ok (.iconst 0, 1) := by decide +kernel
theorem dX8_writer_281 : decode cX8_writer 281 = .ok (.iadd, 1) := by decide +kernel
theorem dX8_writer_282 : decode cX8_writer 282 = .ok (.istore 7, 2) := by decide +kernel
theorem dX8_writer_284 : decode cX8_writer 284 = .ok (.iload 8, 2) := by decide +kernel
theorem dX8_writer_286 : decode cX8_writer 286 = .ok (.aload_n 0, 1) := by decide +kernel
theorem dX8_writer_287 : decode cX8_writer 287 = .ok (.getfield 32, 3) := by decide +kernel
theorem dX8_writer_290 : decode cX8_writer 290 = .ok (.iload 9, 2) := by decide +kernel
theorem dX8_writer_292 : decode cX8_writer 292 = .ok (.iaload, 1) := by decide +kernel
theorem dX8_writer_293 : decode cX8_writer 293 = .ok (.iload_n 1, 1) := by decide +kernel
theorem dX8_writer_294 : decode cX8_writer 294 = .ok (.if_icmp .ne 16, 3) := by decide +kernel
theorem dX8_writer_297 : decode cX8_writer 297 = .ok (.aload_n 0, 1) := by decide +kernel
theorem dX8_writer_298 : decode cX8_writer 298 = .ok (.iload 9, 2) := by decide +kernel
theorem dX8_writer_300 : decode cX8_writer 300 = .ok (.invokevirtual 219, 3) := by decide +kernel
theorem dX8_writer_303 : decode cX8_writer 303 = .ok (.ifCond .eq 7, 3) := by decide +kernel
theorem dX8_writer_306 : decode cX8_writer 306 = .ok (.iconst 1, 1) := by decide +kernel
theorem dX8_writer_307 : decode cX8_writer 307 = .ok (.goto 4, 3) := by decide +kernel
theorem dX8_writer_310 : decode cX8_writer 310 = .ok (.iconst 0, 1) := by decide +kernel
theorem dX8_writer_311 : decode cX8_writer 311 = .ok (.iadd, 1) := by decide +kernel
theorem dX8_writer_312 : decode cX8_writer 312 = .ok (.istore 8, 2) := by decide +kernel
theorem dX8_writer_314 : decode cX8_writer 314 = .ok (.iinc 9 1, 3) := by decide +kernel
theorem dX8_writer_317 : decode cX8_writer 317 = .ok (.goto (-63), 3) := by decide +kernel
theorem dX8_writer_320 : decode cX8_writer 320 = .ok (.iload_n 2, 1) := by decide +kernel
theorem dX8_writer_321 : decode cX8_writer 321 = .ok (.tableswitch 64 0 5 #[39, 41, 44, 55, 58, 61], 39) := by decide +kernel
theorem dX8_writer_360 : decode cX8_writer 360 = .ok (.iload_n 3, 1) := by decide +kernel
theorem dX8_writer_361 : decode cX8_writer 361 = .ok (.ireturn, 1) := by decide +kernel
theorem dX8_writer_362 : decode cX8_writer 362 = .ok (.iload 4, 2) := by decide +kernel
theorem dX8_writer_364 : decode cX8_writer 364 = .ok (.ireturn, 1) := by decide +kernel
theorem dX8_writer_365 : decode cX8_writer 365 = .ok (.iload 5, 2) := by decide +kernel
theorem dX8_writer_367 : decode cX8_writer 367 = .ok (.ifCond .lt 7, 3) := by decide +kernel
theorem dX8_writer_370 : decode cX8_writer 370 = .ok (.iconst 1, 1) := by decide +kernel
theorem dX8_writer_371 : decode cX8_writer 371 = .ok (.goto 4, 3) := by decide +kernel
theorem dX8_writer_374 : decode cX8_writer 374 = .ok (.iconst 0, 1) := by decide +kernel
theorem dX8_writer_375 : decode cX8_writer 375 = .ok (.ireturn, 1) := by decide +kernel
theorem dX8_writer_376 : decode cX8_writer 376 = .ok (.iload 6, 2) := by decide +kernel
theorem dX8_writer_378 : decode cX8_writer 378 = .ok (.ireturn, 1) := by decide +kernel
theorem dX8_writer_379 : decode cX8_writer 379 = .ok (.iload 7, 2) := by decide +kernel
theorem dX8_writer_381 : decode cX8_writer 381 = .ok (.ireturn, 1) := by decide +kernel
theorem dX8_writer_382 : decode cX8_writer 382 = .ok (.iload 8, 2) := by decide +kernel
theorem dX8_writer_384 : decode cX8_writer 384 = .ok (.ireturn, 1) := by decide +kernel
theorem dX8_writer_385 : decode cX8_writer 385 = .ok (.iload 5, 2) := by decide +kernel
theorem dX8_writer_387 : decode cX8_writer 387 = .ok (.ireturn, 1) := by decide +kernel
theorem dX8_level_0 : decode cX8_level 0 = .ok (.aload_n 0, 1) := by decide +kernel
theorem dX8_level_1 : decode cX8_level 1 = .ok (.iload_n 1, 1) := by decide +kernel
theorem dX8_level_2 : decode cX8_level 2 = .ok (.invokevirtual 184, 3) := by decide +kernel
theorem dX8_level_5 : decode cX8_level 5 = .ok (.ifCond .ne 5, 3) := by decide +kernel
theorem dX8_level_8 : decode cX8_level 8 = .ok (.iconst (-1), 1) := by decide +kernel
theorem dX8_level_9 : decode cX8_level 9 = .ok (.ireturn, 1) := by decide +kernel
theorem dX8_level_10 : decode cX8_level 10 = .ok (.aload_n 0, 1) := by decide +kernel
theorem dX8_level_11 : decode cX8_level 11 = .ok (.aload_n 0, 1) := by decide +kernel
theorem dX8_level_12 : decode cX8_level 12 = .ok (.getfield 32, 3) := by decide +kernel
theorem dX8_level_15 : decode cX8_level 15 = .ok (.aload_n 0, 1) := by decide +kernel
theorem dX8_level_16 : decode cX8_level 16 = .ok (.getfield 44, 3) := by decide +kernel
theorem dX8_level_19 : decode cX8_level 19 = .ok (.iload_n 1, 1) := by decide +kernel
theorem dX8_level_20 : decode cX8_level 20 = .ok (.iaload, 1) := by decide +kernel
theorem dX8_level_21 : decode cX8_level 21 = .ok (.iaload, 1) := by decide +kernel
theorem dX8_level_22 : decode cX8_level 22 = .ok (.invokevirtual 216, 3) := by decide +kernel
theorem dX8_level_25 : decode cX8_level 25 = .ok (.iconst 0, 1) := by decide +kernel
theorem dX8_level_26 : decode cX8_level 26 = .ok (.istore_n 2, 1) := by decide +kernel
theorem dX8_level_27 : decode cX8_level 27 = .ok (.iload_n 2, 1) := by decide +kernel
theorem dX8_level_28 : decode cX8_level 28 = .ok (.aload_n 0, 1) := by decide +kernel
theorem dX8_level_29 : decode cX8_level 29 = .ok (.getfield 210, 3) := by decide +kernel
theorem dX8_level_32 : decode cX8_level 32 = .ok (.if_icmp .ge 26, 3) := by decide +kernel
theorem dX8_level_35 : decode cX8_level 35 = .ok (.aload_n 0, 1) := by decide +kernel
theorem dX8_level_36 : decode cX8_level 36 = .ok (.getfield 124, 3) := by decide +kernel
theorem dX8_level_39 : decode cX8_level 39 = .ok (.iload_n 2, 1) := by decide +kernel
theorem dX8_level_40 : decode cX8_level 40 = .ok (.iaload, 1) := by decide +kernel
theorem dX8_level_41 : decode cX8_level 41 = .ok (.iload_n 1, 1) := by decide +kernel
theorem dX8_level_42 : decode cX8_level 42 = .ok (.if_icmp .ne 10, 3) := by decide +kernel
theorem dX8_level_45 : decode cX8_level 45 = .ok (.aload_n 0, 1) := by decide +kernel
theorem dX8_level_46 : decode cX8_level 46 = .ok (.getfield 130, 3) := by decide +kernel
theorem dX8_level_49 : decode cX8_level 49 = .ok (.iload_n 2, 1) := by decide +kernel
theorem dX8_level_50 : decode cX8_level 50 = .ok (.iaload, 1) := by decide +kernel
theorem dX8_level_51 : decode cX8_level 51 = .ok (.ireturn, 1) := by decide +kernel
theorem dX8_level_52 : decode cX8_level 52 = .ok (.iinc 2 1, 3) := by decide +kernel
theorem dX8_level_55 : decode cX8_level 55 = .ok (.goto (-28), 3) := by decide +kernel
theorem dX8_level_58 : decode cX8_level 58 = .ok (.bipush (-4), 2) := by decide +kernel
theorem dX8_level_60 : decode cX8_level 60 = .ok (.ireturn, 1) := by decide +kernel
theorem dX8_hidden_0 : decode cX8_hidden 0 = .ok (.iload_n 1, 1) := by decide +kernel
theorem dX8_hidden_1 : decode cX8_hidden 1 = .ok (.ifCond .lt 27, 3) := by decide +kernel
theorem dX8_hidden_4 : decode cX8_hidden 4 = .ok (.iload_n 1, 1) := by decide +kernel
theorem dX8_hidden_5 : decode cX8_hidden 5 = .ok (.aload_n 0, 1) := by decide +kernel
theorem dX8_hidden_6 : decode cX8_hidden 6 = .ok (.getfield 144, 3) := by decide +kernel
theorem dX8_hidden_9 : decode cX8_hidden 9 = .ok (.if_icmp .ge 19, 3) := by decide +kernel
theorem dX8_hidden_12 : decode cX8_hidden 12 = .ok (.aload_n 0, 1) := by decide +kernel
theorem dX8_hidden_13 : decode cX8_hidden 13 = .ok (.iload_n 1, 1) := by decide +kernel
theorem dX8_hidden_14 : decode cX8_hidden 14 = .ok (.invokevirtual 219, 3) := by decide +kernel
theorem dX8_hidden_17 : decode cX8_hidden 17 = .ok (.ifCond .eq 7, 3) := by decide +kernel
theorem dX8_hidden_20 : decode cX8_hidden 20 = .ok (.iconst 1, 1) := by decide +kernel
theorem dX8_hidden_21 : decode cX8_hidden 21 = .ok (.goto 8, 3) := by decide +kernel
theorem dX8_hidden_24 : decode cX8_hidden 24 = .ok (.iconst 0, 1) := by decide +kernel
theorem dX8_hidden_25 : decode cX8_hidden 25 = .ok (.goto 4, 3) := by decide +kernel
theorem dX8_hidden_28 : decode cX8_hidden 28 = .ok (.iconst (-1), 1) := by decide +kernel
theorem dX8_hidden_29 : decode cX8_hidden 29 = .ok (.ireturn, 1) := by decide +kernel
theorem dX8_count_0 : decode cX8_count 0 = .ok (.iconst 0, 1) := by decide +kernel
theorem dX8_count_1 : decode cX8_count 1 = .ok (.istore_n 2, 1) := by decide +kernel
theorem dX8_count_2 : decode cX8_count 2 = .ok (.iload_n 1, 1) := by decide +kernel
theorem dX8_count_3 : decode cX8_count 3 = .ok (.tableswitch 96 0 5 #[37, 42, 47, 81, 86, 91], 37) := by decide +kernel
theorem dX8_count_40 : decode cX8_count 40 = .ok (.aload_n 0, 1) := by decide +kernel
theorem dX8_count_41 : decode cX8_count 41 = .ok (.getfield 144, 3) := by decide +kernel
theorem dX8_count_44 : decode cX8_count 44 = .ok (.ireturn, 1) := by decide +kernel
theorem dX8_count_45 : decode cX8_count 45 = .ok (.aload_n 0, 1) := by decide +kernel
theorem dX8_count_46 : decode cX8_count 46 = .ok (.getfield 133, 3) := by decide +kernel
theorem dX8_count_49 : decode cX8_count 49 = .ok (.ireturn, 1) := by decide +kernel
theorem dX8_count_50 : decode cX8_count 50 = .ok (.iconst 0, 1) := by decide +kernel
theorem dX8_count_51 : decode cX8_count 51 = .ok (.istore_n 3, 1) := by decide +kernel
theorem dX8_count_52 : decode cX8_count 52 = .ok (.iload_n 3, 1) := by decide +kernel
theorem dX8_count_53 : decode cX8_count 53 = .ok (.aload_n 0, 1) := by decide +kernel
theorem dX8_count_54 : decode cX8_count 54 = .ok (.getfield 133, 3) := by decide +kernel
theorem dX8_count_57 : decode cX8_count 57 = .ok (.if_icmp .ge 25, 3) := by decide +kernel
theorem dX8_count_60 : decode cX8_count 60 = .ok (.iload_n 2, 1) := by decide +kernel
theorem dX8_count_61 : decode cX8_count 61 = .ok (.aload_n 0, 1) := by decide +kernel
theorem dX8_count_62 : decode cX8_count 62 = .ok (.iload_n 3, 1) := by decide +kernel
theorem dX8_count_63 : decode cX8_count 63 = .ok (.invokevirtual 167, 3) := by decide +kernel
theorem dX8_count_66 : decode cX8_count 66 = .ok (.ifCond .eq 7, 3) := by decide +kernel
theorem dX8_count_69 : decode cX8_count 69 = .ok (.iconst 1, 1) := by decide +kernel
theorem dX8_count_70 : decode cX8_count 70 = .ok (.goto 4, 3) := by decide +kernel
theorem dX8_count_73 : decode cX8_count 73 = .ok (.iconst 0, 1) := by decide +kernel
theorem dX8_count_74 : decode cX8_count 74 = .ok (.iadd, 1) := by decide +kernel
theorem dX8_count_75 : decode cX8_count 75 = .ok (.istore_n 2, 1) := by decide +kernel
theorem dX8_count_76 : decode cX8_count 76 = .ok (.iinc 3 1, 3) := by decide +kernel
theorem dX8_count_79 : decode cX8_count 79 = .ok (.goto (-27), 3) := by decide +kernel
theorem dX8_count_82 : decode cX8_count 82 = .ok (.iload_n 2, 1) := by decide +kernel
theorem dX8_count_83 : decode cX8_count 83 = .ok (.ireturn, 1) := by decide +kernel
theorem dX8_count_84 : decode cX8_count 84 = .ok (.aload_n 0, 1) := by decide +kernel
theorem dX8_count_85 : decode cX8_count 85 = .ok (.getfield 153, 3) := by decide +kernel
theorem dX8_count_88 : decode cX8_count 88 = .ok (.ireturn, 1) := by decide +kernel
theorem dX8_count_89 : decode cX8_count 89 = .ok (.aload_n 0, 1) := by decide +kernel
theorem dX8_count_90 : decode cX8_count 90 = .ok (.getfield 197, 3) := by decide +kernel
theorem dX8_count_93 : decode cX8_count 93 = .ok (.ireturn, 1) := by decide +kernel
theorem dX8_count_94 : decode cX8_count 94 = .ok (.aload_n 0, 1) := by decide +kernel
theorem dX8_count_95 : decode cX8_count 95 = .ok (.getfield 140, 3) := by decide +kernel
theorem dX8_count_98 : decode cX8_count 98 = .ok (.ireturn, 1) := by decide +kernel
theorem dX8_count_99 : decode cX8_count 99 = .ok (.iconst (-1), 1) := by decide +kernel
theorem dX8_count_100 : decode cX8_count 100 = .ok (.ireturn, 1) := by decide +kernel
theorem dX8_check_0 : decode cX8_check 0 = .ok (.iconst 0, 1) := by decide +kernel
theorem dX8_check_1 : decode cX8_check 1 = .ok (.istore_n 1, 1) := by decide +kernel
theorem dX8_check_2 : decode cX8_check 2 = .ok (.iconst 0, 1) := by decide +kernel
theorem dX8_check_3 : decode cX8_check 3 = .ok (.istore_n 2, 1) := by decide +kernel
theorem dX8_check_4 : decode cX8_check 4 = .ok (.iload_n 2, 1) := by decide +kernel
theorem dX8_check_5 : decode cX8_check 5 = .ok (.aload_n 0, 1) := by decide +kernel
theorem dX8_check_6 : decode cX8_check 6 = .ok (.getfield 133, 3) := by decide +kernel
theorem dX8_check_9 : decode cX8_check 9 = .ok (.if_icmp .ge 48, 3) := by decide +kernel
theorem dX8_check_12 : decode cX8_check 12 = .ok (.iload_n 1, 1) := by decide +kernel
theorem dX8_check_13 : decode cX8_check 13 = .ok (.ifCond .ne 32, 3) := by decide +kernel
theorem dX8_check_16 : decode cX8_check 16 = .ok (.aload_n 0, 1) := by decide +kernel
theorem dX8_check_17 : decode cX8_check 17 = .ok (.iload_n 2, 1) := by decide +kernel
theorem dX8_check_18 : decode cX8_check 18 = .ok (.invokevirtual 167, 3) := by decide +kernel
theorem dX8_check_21 : decode cX8_check 21 = .ok (.ifCond .eq 28, 3) := by decide +kernel
theorem dX8_check_24 : decode cX8_check 24 = .ok (.aload_n 0, 1) := by decide +kernel
theorem dX8_check_25 : decode cX8_check 25 = .ok (.iload_n 2, 1) := by decide +kernel
theorem dX8_check_26 : decode cX8_check 26 = .ok (.invokevirtual 174, 3) := by decide +kernel
theorem dX8_check_29 : decode cX8_check 29 = .ok (.aload_n 0, 1) := by decide +kernel
theorem dX8_check_30 : decode cX8_check 30 = .ok (.iconst (-1), 1) := by decide +kernel
theorem dX8_check_31 : decode cX8_check 31 = .ok (.iload_n 2, 1) := by decide +kernel
theorem dX8_check_32 : decode cX8_check 32 = .ok (.invokevirtual 170, 3) := by decide +kernel
theorem dX8_check_35 : decode cX8_check 35 = .ok (.iadd, 1) := by decide +kernel
theorem dX8_check_36 : decode cX8_check 36 = .ok (.aload_n 0, 1) := by decide +kernel
theorem dX8_check_37 : decode cX8_check 37 = .ok (.getfield 62, 3) := by decide +kernel
theorem dX8_check_40 : decode cX8_check 40 = .ok (.iload_n 2, 1) := by decide +kernel
theorem dX8_check_41 : decode cX8_check 41 = .ok (.iaload, 1) := by decide +kernel
theorem dX8_check_42 : decode cX8_check 42 = .ok (.if_icmp .le 7, 3) := by decide +kernel
theorem dX8_check_45 : decode cX8_check 45 = .ok (.iconst 1, 1) := by decide +kernel
theorem dX8_check_46 : decode cX8_check 46 = .ok (.goto 4, 3) := by decide +kernel
theorem dX8_check_49 : decode cX8_check 49 = .ok (.iconst 0, 1) := by decide +kernel
theorem dX8_check_50 : decode cX8_check 50 = .ok (.istore_n 1, 1) := by decide +kernel
theorem dX8_check_51 : decode cX8_check 51 = .ok (.iinc 2 1, 3) := by decide +kernel
theorem dX8_check_54 : decode cX8_check 54 = .ok (.goto (-50), 3) := by decide +kernel
theorem dX8_check_57 : decode cX8_check 57 = .ok (.iconst 0, 1) := by decide +kernel
theorem dX8_check_58 : decode cX8_check 58 = .ok (.istore_n 2, 1) := by decide +kernel
theorem dX8_check_59 : decode cX8_check 59 = .ok (.iconst 0, 1) := by decide +kernel
theorem dX8_check_60 : decode cX8_check 60 = .ok (.istore_n 3, 1) := by decide +kernel
theorem dX8_check_61 : decode cX8_check 61 = .ok (.iload_n 3, 1) := by decide +kernel
theorem dX8_check_62 : decode cX8_check 62 = .ok (.bipush 20, 2) := by decide +kernel
theorem dX8_check_64 : decode cX8_check 64 = .ok (.if_icmp .ge 30, 3) := by decide +kernel
theorem dX8_check_67 : decode cX8_check 67 = .ok (.iload_n 2, 1) := by decide +kernel
theorem dX8_check_68 : decode cX8_check 68 = .ok (.ifCond .ne 14, 3) := by decide +kernel
theorem dX8_check_71 : decode cX8_check 71 = .ok (.aload_n 0, 1) := by decide +kernel
theorem dX8_check_72 : decode cX8_check 72 = .ok (.iload_n 3, 1) := by decide +kernel
theorem dX8_check_73 : decode cX8_check 73 = .ok (.iconst (-1), 1) := by decide +kernel
theorem dX8_check_74 : decode cX8_check 74 = .ok (.invokevirtual 170, 3) := by decide +kernel
theorem dX8_check_77 : decode cX8_check 77 = .ok (.bipush 20, 2) := by decide +kernel
theorem dX8_check_79 : decode cX8_check 79 = .ok (.if_icmp .le 7, 3) := by decide +kernel
theorem dX8_check_82 : decode cX8_check 82 = .ok (.iconst 1, 1) := by decide +kernel
theorem dX8_check_83 : decode cX8_check 83 = .ok (.goto 4, 3) := by decide +kernel
theorem dX8_check_86 : decode cX8_check 86 = .ok (.iconst 0, 1) := by decide +kernel
theorem dX8_check_87 : decode cX8_check 87 = .ok (.istore_n 2, 1) := by decide +kernel
theorem dX8_check_88 : decode cX8_check 88 = .ok (.iinc 3 1, 3) := by decide +kernel
theorem dX8_check_91 : decode cX8_check 91 = .ok (.goto (-30), 3) := by decide +kernel
theorem dX8_check_94 : decode cX8_check 94 = .ok (.iconst 0, 1) := by decide +kernel
theorem dX8_check_95 : decode cX8_check 95 = .ok (.istore_n 3, 1) := by decide +kernel
theorem dX8_check_96 : decode cX8_check 96 = .ok (.iconst 0, 1) := by decide +kernel
theorem dX8_check_97 : decode cX8_check 97 = .ok (.istore 4, 2) := by decide +kernel
theorem dX8_check_99 : decode cX8_check 99 = .ok (.iload 4, 2) := by decide +kernel
theorem dX8_check_101 : decode cX8_check 101 = .ok (.aload_n 0, 1) := by decide +kernel
theorem dX8_check_102 : decode cX8_check 102 = .ok (.getfield 160, 3) := by decide +kernel
theorem dX8_check_105 : decode cX8_check 105 = .ok (.if_icmp .ge 100, 3) := by decide +kernel
theorem dX8_check_108 : decode cX8_check 108 = .ok (.iload_n 3, 1) := by decide +kernel
theorem dX8_check_109 : decode cX8_check 109 = .ok (.ifCond .ne 24, 3) := by decide +kernel
theorem dX8_check_112 : decode cX8_check 112 = .ok (.aload_n 0, 1) := by decide +kernel
theorem dX8_check_113 : decode cX8_check 113 = .ok (.aload_n 0, 1) := by decide +kernel
theorem dX8_check_114 : decode cX8_check 114 = .ok (.getfield 109, 3) := by decide +kernel
theorem dX8_check_117 : decode cX8_check 117 = .ok (.iload 4, 2) := by decide +kernel
theorem dX8_check_119 : decode cX8_check 119 = .ok (.iaload, 1) := by decide +kernel
theorem dX8_check_120 : decode cX8_check 120 = .ok (.aload_n 0, 1) := by decide +kernel
theorem dX8_check_121 : decode cX8_check 121 = .ok (.getfield 112, 3) := by decide +kernel
theorem dX8_check_124 : decode cX8_check 124 = .ok (.iload 4, 2) := by decide +kernel
theorem dX8_check_126 : decode cX8_check 126 = .ok (.iaload, 1) := by decide +kernel
theorem dX8_check_127 : decode cX8_check 127 = .ok (.invokevirtual 170, 3) := by decide +kernel
theorem dX8_check_130 : decode cX8_check 130 = .ok (.ifCond .le 7, 3) := by decide +kernel
theorem dX8_check_133 : decode cX8_check 133 = .ok (.iconst 1, 1) := by decide +kernel
theorem dX8_check_134 : decode cX8_check 134 = .ok (.goto 4, 3) := by decide +kernel
theorem dX8_check_137 : decode cX8_check 137 = .ok (.iconst 0, 1) := by decide +kernel
theorem dX8_check_138 : decode cX8_check 138 = .ok (.istore_n 3, 1) := by decide +kernel
theorem dX8_check_139 : decode cX8_check 139 = .ok (.iconst 0, 1) := by decide +kernel
theorem dX8_check_140 : decode cX8_check 140 = .ok (.istore 5, 2) := by decide +kernel
theorem dX8_check_142 : decode cX8_check 142 = .ok (.iload 5, 2) := by decide +kernel
theorem dX8_check_144 : decode cX8_check 144 = .ok (.iload 4, 2) := by decide +kernel
theorem dX8_check_146 : decode cX8_check 146 = .ok (.if_icmp .ge 53, 3) := by decide +kernel
theorem dX8_check_149 : decode cX8_check 149 = .ok (.iload_n 3, 1) := by decide +kernel
theorem dX8_check_150 : decode cX8_check 150 = .ok (.ifCond .ne 37, 3) := by decide +kernel
theorem dX8_check_153 : decode cX8_check 153 = .ok (.aload_n 0, 1) := by decide +kernel
theorem dX8_check_154 : decode cX8_check 154 = .ok (.getfield 109, 3) := by decide +kernel
theorem dX8_check_157 : decode cX8_check 157 = .ok (.iload 5, 2) := by decide +kernel
theorem dX8_check_159 : decode cX8_check 159 = .ok (.iaload, 1) := by decide +kernel
theorem dX8_check_160 : decode cX8_check 160 = .ok (.aload_n 0, 1) := by decide +kernel
theorem dX8_check_161 : decode cX8_check 161 = .ok (.getfield 109, 3) := by decide +kernel
theorem dX8_check_164 : decode cX8_check 164 = .ok (.iload 4, 2) := by decide +kernel
theorem dX8_check_166 : decode cX8_check 166 = .ok (.iaload, 1) := by decide +kernel
theorem dX8_check_167 : decode cX8_check 167 = .ok (.if_icmp .ne 24, 3) := by decide +kernel
theorem dX8_check_170 : decode cX8_check 170 = .ok (.aload_n 0, 1) := by decide +kernel
theorem dX8_check_171 : decode cX8_check 171 = .ok (.getfield 112, 3) := by decide +kernel
theorem dX8_check_174 : decode cX8_check 174 = .ok (.iload 5, 2) := by decide +kernel
theorem dX8_check_176 : decode cX8_check 176 = .ok (.iaload, 1) := by decide +kernel
theorem dX8_check_177 : decode cX8_check 177 = .ok (.aload_n 0, 1) := by decide +kernel
theorem dX8_check_178 : decode cX8_check 178 = .ok (.getfield 112, 3) := by decide +kernel
theorem dX8_check_181 : decode cX8_check 181 = .ok (.iload 4, 2) := by decide +kernel
theorem dX8_check_183 : decode cX8_check 183 = .ok (.iaload, 1) := by decide +kernel
theorem dX8_check_184 : decode cX8_check 184 = .ok (.if_icmp .ne 7, 3) := by decide +kernel
theorem dX8_check_187 : decode cX8_check 187 = .ok (.iconst 1, 1) := by decide +kernel
theorem dX8_check_188 : decode cX8_check 188 = .ok (.goto 4, 3) := by decide +kernel
theorem dX8_check_191 : decode cX8_check 191 = .ok (.iconst 0, 1) := by decide +kernel
theorem dX8_check_192 : decode cX8_check 192 = .ok (.istore_n 3, 1) := by decide +kernel
theorem dX8_check_193 : decode cX8_check 193 = .ok (.iinc 5 1, 3) := by decide +kernel
theorem dX8_check_196 : decode cX8_check 196 = .ok (.goto (-54), 3) := by decide +kernel
theorem dX8_check_199 : decode cX8_check 199 = .ok (.iinc 4 1, 3) := by decide +kernel
theorem dX8_check_202 : decode cX8_check 202 = .ok (.goto (-103), 3) := by decide +kernel
theorem dX8_check_205 : decode cX8_check 205 = .ok (.iload_n 1, 1) := by decide +kernel
theorem dX8_check_206 : decode cX8_check 206 = .ok (.ifCond .eq 7, 3) := by decide +kernel
theorem dX8_check_209 : decode cX8_check 209 = .ok (.iconst 1, 1) := by decide +kernel
theorem dX8_check_210 : decode cX8_check 210 = .ok (.goto 4, 3) := by decide +kernel
theorem dX8_check_213 : decode cX8_check 213 = .ok (.iconst 0, 1) := by decide +kernel
theorem dX8_check_214 : decode cX8_check 214 = .ok (.iload_n 2, 1) := by decide +kernel
theorem dX8_check_215 : decode cX8_check 215 = .ok (.ifCond .eq 7, 3) := by decide +kernel
theorem dX8_check_218 : decode cX8_check 218 = .ok (.iconst 1, 1) := by decide +kernel
theorem dX8_check_219 : decode cX8_check 219 = .ok (.goto 4, 3) := by decide +kernel
theorem dX8_check_222 : decode cX8_check 222 = .ok (.iconst 0, 1) := by decide +kernel
theorem dX8_check_223 : decode cX8_check 223 = .ok (.iadd, 1) := by decide +kernel
theorem dX8_check_224 : decode cX8_check 224 = .ok (.iload_n 3, 1) := by decide +kernel
theorem dX8_check_225 : decode cX8_check 225 = .ok (.ifCond .eq 7, 3) := by decide +kernel
theorem dX8_check_228 : decode cX8_check 228 = .ok (.iconst 1, 1) := by decide +kernel
theorem dX8_check_229 : decode cX8_check 229 = .ok (.goto 4, 3) := by decide +kernel
theorem dX8_check_232 : decode cX8_check 232 = .ok (.iconst 0, 1) := by decide +kernel
theorem dX8_check_233 : decode cX8_check 233 = .ok (.iadd, 1) := by decide +kernel
theorem dX8_check_234 : decode cX8_check 234 = .ok (.ireturn, 1) := by decide +kernel
theorem dJ6_bitCount_0f7a4_0 : decode cJ6_bitCount_0f7a4 0 = .ok (.iload_n 0, 1) := by decide +kernel
theorem dJ6_bitCount_0f7a4_1 : decode cJ6_bitCount_0f7a4 1 = .ok (.iload_n 0, 1) := by decide +kernel
theorem dJ6_bitCount_0f7a4_2 : decode cJ6_bitCount_0f7a4 2 = .ok (.iconst 1, 1) := by decide +kernel
theorem dJ6_bitCount_0f7a4_3 : decode cJ6_bitCount_0f7a4 3 = .ok (.iushr, 1) := by decide +kernel
theorem dJ6_bitCount_0f7a4_4 : decode cJ6_bitCount_0f7a4 4 = .ok (.ldc_w 265, 3) := by decide +kernel
theorem dJ6_bitCount_0f7a4_7 : decode cJ6_bitCount_0f7a4 7 = .ok (.iand, 1) := by decide +kernel
theorem dJ6_bitCount_0f7a4_8 : decode cJ6_bitCount_0f7a4 8 = .ok (.isub, 1) := by decide +kernel
theorem dJ6_bitCount_0f7a4_9 : decode cJ6_bitCount_0f7a4 9 = .ok (.istore_n 0, 1) := by decide +kernel
theorem dJ6_bitCount_0f7a4_10 : decode cJ6_bitCount_0f7a4 10 = .ok (.iload_n 0, 1) := by decide +kernel
theorem dJ6_bitCount_0f7a4_11 : decode cJ6_bitCount_0f7a4 11 = .ok (.ldc_w 266, 3) := by decide +kernel
theorem dJ6_bitCount_0f7a4_14 : decode cJ6_bitCount_0f7a4 14 = .ok (.iand, 1) := by decide +kernel
theorem dJ6_bitCount_0f7a4_15 : decode cJ6_bitCount_0f7a4 15 = .ok (.iload_n 0, 1) := by decide +kernel
theorem dJ6_bitCount_0f7a4_16 : decode cJ6_bitCount_0f7a4 16 = .ok (.iconst 2, 1) := by decide +kernel
theorem dJ6_bitCount_0f7a4_17 : decode cJ6_bitCount_0f7a4 17 = .ok (.iushr, 1) := by decide +kernel
theorem dJ6_bitCount_0f7a4_18 : decode cJ6_bitCount_0f7a4 18 = .ok (.ldc_w 266, 3) := by decide +kernel
theorem dJ6_bitCount_0f7a4_21 : decode cJ6_bitCount_0f7a4 21 = .ok (.iand, 1) := by decide +kernel
theorem dJ6_bitCount_0f7a4_22 : decode cJ6_bitCount_0f7a4 22 = .ok (.iadd, 1) := by decide +kernel
theorem dJ6_bitCount_0f7a4_23 : decode cJ6_bitCount_0f7a4 23 = .ok (.istore_n 0, 1) := by decide +kernel
theorem dJ6_bitCount_0f7a4_24 : decode cJ6_bitCount_0f7a4 24 = .ok (.iload_n 0, 1) := by decide +kernel
theorem dJ6_bitCount_0f7a4_25 : decode cJ6_bitCount_0f7a4 25 = .ok (.iload_n 0, 1) := by decide +kernel
theorem dJ6_bitCount_0f7a4_26 : decode cJ6_bitCount_0f7a4 26 = .ok (.iconst 4, 1) := by decide +kernel
theorem dJ6_bitCount_0f7a4_27 : decode cJ6_bitCount_0f7a4 27 = .ok (.iushr, 1) := by decide +kernel
theorem dJ6_bitCount_0f7a4_28 : decode cJ6_bitCount_0f7a4 28 = .ok (.iadd, 1) := by decide +kernel
theorem dJ6_bitCount_0f7a4_29 : decode cJ6_bitCount_0f7a4 29 = .ok (.ldc_w 267, 3) := by decide +kernel
theorem dJ6_bitCount_0f7a4_32 : decode cJ6_bitCount_0f7a4 32 = .ok (.iand, 1) := by decide +kernel
theorem dJ6_bitCount_0f7a4_33 : decode cJ6_bitCount_0f7a4 33 = .ok (.istore_n 0, 1) := by decide +kernel
theorem dJ6_bitCount_0f7a4_34 : decode cJ6_bitCount_0f7a4 34 = .ok (.iload_n 0, 1) := by decide +kernel
theorem dJ6_bitCount_0f7a4_35 : decode cJ6_bitCount_0f7a4 35 = .ok (.iload_n 0, 1) := by decide +kernel
theorem dJ6_bitCount_0f7a4_36 : decode cJ6_bitCount_0f7a4 36 = .ok (.bipush 8, 2) := by decide +kernel
theorem dJ6_bitCount_0f7a4_38 : decode cJ6_bitCount_0f7a4 38 = .ok (.iushr, 1) := by decide +kernel
theorem dJ6_bitCount_0f7a4_39 : decode cJ6_bitCount_0f7a4 39 = .ok (.iadd, 1) := by decide +kernel
theorem dJ6_bitCount_0f7a4_40 : decode cJ6_bitCount_0f7a4 40 = .ok (.istore_n 0, 1) := by decide +kernel
theorem dJ6_bitCount_0f7a4_41 : decode cJ6_bitCount_0f7a4 41 = .ok (.iload_n 0, 1) := by decide +kernel
theorem dJ6_bitCount_0f7a4_42 : decode cJ6_bitCount_0f7a4 42 = .ok (.iload_n 0, 1) := by decide +kernel
theorem dJ6_bitCount_0f7a4_43 : decode cJ6_bitCount_0f7a4 43 = .ok (.bipush 16, 2) := by decide +kernel
theorem dJ6_bitCount_0f7a4_45 : decode cJ6_bitCount_0f7a4 45 = .ok (.iushr, 1) := by decide +kernel
theorem dJ6_bitCount_0f7a4_46 : decode cJ6_bitCount_0f7a4 46 = .ok (.iadd, 1) := by decide +kernel
theorem dJ6_bitCount_0f7a4_47 : decode cJ6_bitCount_0f7a4 47 = .ok (.istore_n 0, 1) := by decide +kernel
theorem dJ6_bitCount_0f7a4_48 : decode cJ6_bitCount_0f7a4 48 = .ok (.iload_n 0, 1) := by decide +kernel
theorem dJ6_bitCount_0f7a4_49 : decode cJ6_bitCount_0f7a4 49 = .ok (.bipush 63, 2) := by decide +kernel
theorem dJ6_bitCount_0f7a4_51 : decode cJ6_bitCount_0f7a4 51 = .ok (.iand, 1) := by decide +kernel
theorem dJ6_bitCount_0f7a4_52 : decode cJ6_bitCount_0f7a4 52 = .ok (.ireturn, 1) := by decide +kernel
theorem dJ9_max_7cf53_0 : decode cJ9_max_7cf53 0 = .ok (.iload_n 0, 1) := by decide +kernel
theorem dJ9_max_7cf53_1 : decode cJ9_max_7cf53 1 = .ok (.iload_n 1, 1) := by decide +kernel
theorem dJ9_max_7cf53_2 : decode cJ9_max_7cf53 2 = .ok (.if_icmp .lt 7, 3) := by decide +kernel
theorem dJ9_max_7cf53_5 : decode cJ9_max_7cf53 5 = .ok (.iload_n 0, 1) := by decide +kernel
theorem dJ9_max_7cf53_6 : decode cJ9_max_7cf53 6 = .ok (.goto 4, 3) := by decide +kernel
theorem dJ9_max_7cf53_9 : decode cJ9_max_7cf53 9 = .ok (.iload_n 1, 1) := by decide +kernel
theorem dJ9_max_7cf53_10 : decode cJ9_max_7cf53 10 = .ok (.ireturn, 1) := by decide +kernel
theorem dJ9_min_7cf53_0 : decode cJ9_min_7cf53 0 = .ok (.iload_n 0, 1) := by decide +kernel
theorem dJ9_min_7cf53_1 : decode cJ9_min_7cf53 1 = .ok (.iload_n 1, 1) := by decide +kernel
theorem dJ9_min_7cf53_2 : decode cJ9_min_7cf53 2 = .ok (.if_icmp .gt 7, 3) := by decide +kernel
theorem dJ9_min_7cf53_5 : decode cJ9_min_7cf53 5 = .ok (.iload_n 0, 1) := by decide +kernel
theorem dJ9_min_7cf53_6 : decode cJ9_min_7cf53 6 = .ok (.goto 4, 3) := by decide +kernel
theorem dJ9_min_7cf53_9 : decode cJ9_min_7cf53 9 = .ok (.iload_n 1, 1) := by decide +kernel
theorem dJ9_min_7cf53_10 : decode cJ9_min_7cf53 10 = .ok (.ireturn, 1) := by decide +kernel
theorem dJxa1e45_init_da8c8_0 : decode cJxa1e45_init_da8c8 0 = .ok (.aload_n 0, 1) := by decide +kernel
theorem dJxa1e45_init_da8c8_1 : decode cJxa1e45_init_da8c8 1 = .ok (.invokespecial 1, 3) := by decide +kernel
theorem dJxa1e45_init_da8c8_4 : decode cJxa1e45_init_da8c8 4 = .ok (.return_, 1) := by decide +kernel
theorem dJxc12de_init_da8c8_0 : decode cJxc12de_init_da8c8 0 = .ok (.aload_n 0, 1) := by decide +kernel
theorem dJxc12de_init_da8c8_1 : decode cJxc12de_init_da8c8 1 = .ok (.invokespecial 1, 3) := by decide +kernel
theorem dJxc12de_init_da8c8_4 : decode cJxc12de_init_da8c8 4 = .ok (.aload_n 0, 1) := by decide +kernel
theorem dJxc12de_init_da8c8_5 : decode cJxc12de_init_da8c8 5 = .ok (.iconst 0, 1) := by decide +kernel
theorem dJxc12de_init_da8c8_6 : decode cJxc12de_init_da8c8 6 = .ok (.putfield 7, 3) := by decide +kernel
theorem dJxc12de_init_da8c8_9 : decode cJxc12de_init_da8c8 9 = .ok (.return_, 1) := by decide +kernel
theorem dJx4a65c_init_da8c8_0 : decode cJx4a65c_init_da8c8 0 = .ok (.aload_n 0, 1) := by decide +kernel
theorem dJx4a65c_init_da8c8_1 : decode cJx4a65c_init_da8c8 1 = .ok (.invokespecial 1, 3) := by decide +kernel
theorem dJx4a65c_init_da8c8_4 : decode cJx4a65c_init_da8c8 4 = .ok (.aload_n 0, 1) := by decide +kernel
theorem dJx4a65c_init_da8c8_5 : decode cJx4a65c_init_da8c8 5 = .ok (.getstatic 39, 3) := by decide +kernel
theorem dJx4a65c_init_da8c8_8 : decode cJx4a65c_init_da8c8 8 = .ok (.putfield 9, 3) := by decide +kernel
theorem dJx4a65c_init_da8c8_11 : decode cJx4a65c_init_da8c8 11 = .ok (.return_, 1) := by decide +kernel
theorem dJx4a65c_grow_92f84_0 : decode cJx4a65c_grow_92f84 0 = .ok (.aload_n 0, 1) := by decide +kernel
theorem dJx4a65c_grow_92f84_1 : decode cJx4a65c_grow_92f84 1 = .ok (.getfield 9, 3) := by decide +kernel
theorem dJx4a65c_grow_92f84_4 : decode cJx4a65c_grow_92f84 4 = .ok (.arraylength, 1) := by decide +kernel
theorem dJx4a65c_grow_92f84_5 : decode cJx4a65c_grow_92f84 5 = .ok (.istore_n 2, 1) := by decide +kernel
theorem dJx4a65c_grow_92f84_6 : decode cJx4a65c_grow_92f84 6 = .ok (.iload_n 2, 1) := by decide +kernel
theorem dJx4a65c_grow_92f84_7 : decode cJx4a65c_grow_92f84 7 = .ok (.ifCond .gt 13, 3) := by decide +kernel
theorem dJx4a65c_grow_92f84_10 : decode cJx4a65c_grow_92f84 10 = .ok (.aload_n 0, 1) := by decide +kernel
theorem dJx4a65c_grow_92f84_11 : decode cJx4a65c_grow_92f84 11 = .ok (.getfield 9, 3) := by decide +kernel
theorem dJx4a65c_grow_92f84_14 : decode cJx4a65c_grow_92f84 14 = .ok (.getstatic 39, 3) := by decide +kernel
theorem dJx4a65c_grow_92f84_17 : decode cJx4a65c_grow_92f84 17 = .ok (.if_acmp .eq 28, 3) := by decide +kernel
theorem dJx4a65c_grow_92f84_20 : decode cJx4a65c_grow_92f84 20 = .ok (.iload_n 2, 1) := by decide +kernel
theorem dJx4a65c_grow_92f84_21 : decode cJx4a65c_grow_92f84 21 = .ok (.iload_n 1, 1) := by decide +kernel
theorem dJx4a65c_grow_92f84_22 : decode cJx4a65c_grow_92f84 22 = .ok (.iload_n 2, 1) := by decide +kernel
theorem dJx4a65c_grow_92f84_23 : decode cJx4a65c_grow_92f84 23 = .ok (.isub, 1) := by decide +kernel
theorem dJx4a65c_grow_92f84_24 : decode cJx4a65c_grow_92f84 24 = .ok (.iload_n 2, 1) := by decide +kernel
theorem dJx4a65c_grow_92f84_25 : decode cJx4a65c_grow_92f84 25 = .ok (.iconst 1, 1) := by decide +kernel
theorem dJx4a65c_grow_92f84_26 : decode cJx4a65c_grow_92f84 26 = .ok (.ishr, 1) := by decide +kernel
theorem dJx4a65c_grow_92f84_27 : decode cJx4a65c_grow_92f84 27 = .ok (.invokestatic 73, 3) := by decide +kernel
theorem dJx4a65c_grow_92f84_30 : decode cJx4a65c_grow_92f84 30 = .ok (.istore_n 3, 1) := by decide +kernel
theorem dJx4a65c_grow_92f84_31 : decode cJx4a65c_grow_92f84 31 = .ok (.aload_n 0, 1) := by decide +kernel
theorem dJx4a65c_grow_92f84_32 : decode cJx4a65c_grow_92f84 32 = .ok (.aload_n 0, 1) := by decide +kernel
theorem dJx4a65c_grow_92f84_33 : decode cJx4a65c_grow_92f84 33 = .ok (.getfield 9, 3) := by decide +kernel
theorem dJx4a65c_grow_92f84_36 : decode cJx4a65c_grow_92f84 36 = .ok (.iload_n 3, 1) := by decide +kernel
theorem dJx4a65c_grow_92f84_37 : decode cJx4a65c_grow_92f84 37 = .ok (.invokestatic 66, 3) := by decide +kernel
theorem dJx4a65c_grow_92f84_40 : decode cJx4a65c_grow_92f84 40 = .ok (.dup_x1, 1) := by decide +kernel
theorem dJx4a65c_grow_92f84_41 : decode cJx4a65c_grow_92f84 41 = .ok (.putfield 9, 3) := by decide +kernel
theorem dJx4a65c_grow_92f84_44 : decode cJx4a65c_grow_92f84 44 = .ok (.areturn, 1) := by decide +kernel
theorem dJx4a65c_grow_92f84_45 : decode cJx4a65c_grow_92f84 45 = .ok (.aload_n 0, 1) := by decide +kernel
theorem dJx4a65c_grow_92f84_46 : decode cJx4a65c_grow_92f84 46 = .ok (.bipush 10, 2) := by decide +kernel
theorem dJx4a65c_grow_92f84_48 : decode cJx4a65c_grow_92f84 48 = .ok (.iload_n 1, 1) := by decide +kernel
theorem dJx4a65c_grow_92f84_49 : decode cJx4a65c_grow_92f84 49 = .ok (.invokestatic 79, 3) := by decide +kernel
theorem dJx4a65c_grow_92f84_52 : decode cJx4a65c_grow_92f84 52 = .ok (.anewarray 7, 3) := by decide +kernel
theorem dJx4a65c_grow_92f84_55 : decode cJx4a65c_grow_92f84 55 = .ok (.dup_x1, 1) := by decide +kernel
theorem dJx4a65c_grow_92f84_56 : decode cJx4a65c_grow_92f84 56 = .ok (.putfield 9, 3) := by decide +kernel
theorem dJx4a65c_grow_92f84_59 : decode cJx4a65c_grow_92f84 59 = .ok (.areturn, 1) := by decide +kernel
theorem dJx4a65c_grow_d5877_0 : decode cJx4a65c_grow_d5877 0 = .ok (.aload_n 0, 1) := by decide +kernel
theorem dJx4a65c_grow_d5877_1 : decode cJx4a65c_grow_d5877 1 = .ok (.aload_n 0, 1) := by decide +kernel
theorem dJx4a65c_grow_d5877_2 : decode cJx4a65c_grow_d5877 2 = .ok (.getfield 48, 3) := by decide +kernel
theorem dJx4a65c_grow_d5877_5 : decode cJx4a65c_grow_d5877 5 = .ok (.iconst 1, 1) := by decide +kernel
theorem dJx4a65c_grow_d5877_6 : decode cJx4a65c_grow_d5877 6 = .ok (.iadd, 1) := by decide +kernel
theorem dJx4a65c_grow_d5877_7 : decode cJx4a65c_grow_d5877 7 = .ok (.invokevirtual 69, 3) := by decide +kernel
theorem dJx4a65c_grow_d5877_10 : decode cJx4a65c_grow_d5877 10 = .ok (.areturn, 1) := by decide +kernel
theorem dJx4a65c_size_8abf5_0 : decode cJx4a65c_size_8abf5 0 = .ok (.aload_n 0, 1) := by decide +kernel
theorem dJx4a65c_size_8abf5_1 : decode cJx4a65c_size_8abf5 1 = .ok (.getfield 48, 3) := by decide +kernel
theorem dJx4a65c_size_8abf5_4 : decode cJx4a65c_size_8abf5 4 = .ok (.ireturn, 1) := by decide +kernel
theorem dJx4a65c_elementData_915e3_0 : decode cJx4a65c_elementData_915e3 0 = .ok (.aload_n 0, 1) := by decide +kernel
theorem dJx4a65c_elementData_915e3_1 : decode cJx4a65c_elementData_915e3 1 = .ok (.getfield 9, 3) := by decide +kernel
theorem dJx4a65c_elementData_915e3_4 : decode cJx4a65c_elementData_915e3 4 = .ok (.iload_n 1, 1) := by decide +kernel
theorem dJx4a65c_elementData_915e3_5 : decode cJx4a65c_elementData_915e3 5 = .ok (.aaload, 1) := by decide +kernel
theorem dJx4a65c_elementData_915e3_6 : decode cJx4a65c_elementData_915e3 6 = .ok (.areturn, 1) := by decide +kernel
theorem dJx4a65c_get_915e3_0 : decode cJx4a65c_get_915e3 0 = .ok (.iload_n 1, 1) := by decide +kernel
theorem dJx4a65c_get_915e3_1 : decode cJx4a65c_get_915e3 1 = .ok (.aload_n 0, 1) := by decide +kernel
theorem dJx4a65c_get_915e3_2 : decode cJx4a65c_get_915e3 2 = .ok (.getfield 48, 3) := by decide +kernel
theorem dJx4a65c_get_915e3_5 : decode cJx4a65c_get_915e3 5 = .ok (.invokestatic 118, 3) := by decide +kernel
theorem dJx4a65c_get_915e3_8 : decode cJx4a65c_get_915e3 8 = .ok (.pop, 1) := by decide +kernel
theorem dJx4a65c_get_915e3_9 : decode cJx4a65c_get_915e3 9 = .ok (.aload_n 0, 1) := by decide +kernel
theorem dJx4a65c_get_915e3_10 : decode cJx4a65c_get_915e3 10 = .ok (.iload_n 1, 1) := by decide +kernel
theorem dJx4a65c_get_915e3_11 : decode cJx4a65c_get_915e3 11 = .ok (.invokevirtual 123, 3) := by decide +kernel
theorem dJx4a65c_get_915e3_14 : decode cJx4a65c_get_915e3 14 = .ok (.areturn, 1) := by decide +kernel
theorem dJx4a65c_add_72be8_0 : decode cJx4a65c_add_72be8 0 = .ok (.iload_n 3, 1) := by decide +kernel
theorem dJx4a65c_add_72be8_1 : decode cJx4a65c_add_72be8 1 = .ok (.aload_n 2, 1) := by decide +kernel
theorem dJx4a65c_add_72be8_2 : decode cJx4a65c_add_72be8 2 = .ok (.arraylength, 1) := by decide +kernel
theorem dJx4a65c_add_72be8_3 : decode cJx4a65c_add_72be8 3 = .ok (.if_icmp .ne 8, 3) := by decide +kernel
theorem dJx4a65c_add_72be8_6 : decode cJx4a65c_add_72be8 6 = .ok (.aload_n 0, 1) := by decide +kernel
theorem dJx4a65c_add_72be8_7 : decode cJx4a65c_add_72be8 7 = .ok (.invokevirtual 129, 3) := by decide +kernel
theorem dJx4a65c_add_72be8_10 : decode cJx4a65c_add_72be8 10 = .ok (.astore_n 2, 1) := by decide +kernel
theorem dJx4a65c_add_72be8_11 : decode cJx4a65c_add_72be8 11 = .ok (.aload_n 2, 1) := by decide +kernel
theorem dJx4a65c_add_72be8_12 : decode cJx4a65c_add_72be8 12 = .ok (.iload_n 3, 1) := by decide +kernel
theorem dJx4a65c_add_72be8_13 : decode cJx4a65c_add_72be8 13 = .ok (.aload_n 1, 1) := by decide +kernel
theorem dJx4a65c_add_72be8_14 : decode cJx4a65c_add_72be8 14 = .ok (.aastore, 1) := by decide +kernel
theorem dJx4a65c_add_72be8_15 : decode cJx4a65c_add_72be8 15 = .ok (.aload_n 0, 1) := by decide +kernel
theorem dJx4a65c_add_72be8_16 : decode cJx4a65c_add_72be8 16 = .ok (.iload_n 3, 1) := by decide +kernel
theorem dJx4a65c_add_72be8_17 : decode cJx4a65c_add_72be8 17 = .ok (.iconst 1, 1) := by decide +kernel
theorem dJx4a65c_add_72be8_18 : decode cJx4a65c_add_72be8 18 = .ok (.iadd, 1) := by decide +kernel
theorem dJx4a65c_add_72be8_19 : decode cJx4a65c_add_72be8 19 = .ok (.putfield 48, 3) := by decide +kernel
theorem dJx4a65c_add_72be8_22 : decode cJx4a65c_add_72be8 22 = .ok (.return_, 1) := by decide +kernel
theorem dJx4a65c_add_9ea2d_0 : decode cJx4a65c_add_9ea2d 0 = .ok (.aload_n 0, 1) := by decide +kernel
theorem dJx4a65c_add_9ea2d_1 : decode cJx4a65c_add_9ea2d 1 = .ok (.dup, 1) := by decide +kernel
theorem dJx4a65c_add_9ea2d_2 : decode cJx4a65c_add_9ea2d 2 = .ok (.getfield 63, 3) := by decide +kernel
theorem dJx4a65c_add_9ea2d_5 : decode cJx4a65c_add_9ea2d 5 = .ok (.iconst 1, 1) := by decide +kernel
theorem dJx4a65c_add_9ea2d_6 : decode cJx4a65c_add_9ea2d 6 = .ok (.iadd, 1) := by decide +kernel
theorem dJx4a65c_add_9ea2d_7 : decode cJx4a65c_add_9ea2d 7 = .ok (.putfield 63, 3) := by decide +kernel
theorem dJx4a65c_add_9ea2d_10 : decode cJx4a65c_add_9ea2d 10 = .ok (.aload_n 0, 1) := by decide +kernel
theorem dJx4a65c_add_9ea2d_11 : decode cJx4a65c_add_9ea2d 11 = .ok (.aload_n 1, 1) := by decide +kernel
end
section
theorem dJx4a65c_add_9ea2d_12 : decode cJx4a65c_add_9ea2d 12 = .ok (.aload_n 0, 1) := by decide +kernel
theorem dJx4a65c_add_9ea2d_13 : decode cJx4a65c_add_9ea2d 13 = .ok (.getfield 9, 3) := by decide +kernel
theorem dJx4a65c_add_9ea2d_16 : decode cJx4a65c_add_9ea2d 16 = .ok (.aload_n 0, 1) := by decide +kernel
theorem dJx4a65c_add_9ea2d_17 : decode cJx4a65c_add_9ea2d 17 = .ok (.getfield 48, 3) := by decide +kernel
theorem dJx4a65c_add_9ea2d_20 : decode cJx4a65c_add_9ea2d 20 = .ok (.invokevirtual 131, 3) := by decide +kernel
theorem dJx4a65c_add_9ea2d_23 : decode cJx4a65c_add_9ea2d 23 = .ok (.iconst 1, 1) := by decide +kernel
theorem dJx4a65c_add_9ea2d_24 : decode cJx4a65c_add_9ea2d 24 = .ok (.ireturn, 1) := by decide +kernel
theorem dJx4a65c_remove_915e3_0 : decode cJx4a65c_remove_915e3 0 = .ok (.iload_n 1, 1) := by decide +kernel
theorem dJx4a65c_remove_915e3_1 : decode cJx4a65c_remove_915e3 1 = .ok (.aload_n 0, 1) := by decide +kernel
theorem dJx4a65c_remove_915e3_2 : decode cJx4a65c_remove_915e3 2 = .ok (.getfield 48, 3) := by decide +kernel
theorem dJx4a65c_remove_915e3_5 : decode cJx4a65c_remove_915e3 5 = .ok (.invokestatic 118, 3) := by decide +kernel
theorem dJx4a65c_remove_915e3_8 : decode cJx4a65c_remove_915e3 8 = .ok (.pop, 1) := by decide +kernel
theorem dJx4a65c_remove_915e3_9 : decode cJx4a65c_remove_915e3 9 = .ok (.aload_n 0, 1) := by decide +kernel
theorem dJx4a65c_remove_915e3_10 : decode cJx4a65c_remove_915e3 10 = .ok (.getfield 9, 3) := by decide +kernel
theorem dJx4a65c_remove_915e3_13 : decode cJx4a65c_remove_915e3 13 = .ok (.astore_n 2, 1) := by decide +kernel
theorem dJx4a65c_remove_915e3_14 : decode cJx4a65c_remove_915e3 14 = .ok (.aload_n 2, 1) := by decide +kernel
theorem dJx4a65c_remove_915e3_15 : decode cJx4a65c_remove_915e3 15 = .ok (.iload_n 1, 1) := by decide +kernel
theorem dJx4a65c_remove_915e3_16 : decode cJx4a65c_remove_915e3 16 = .ok (.aaload, 1) := by decide +kernel
theorem dJx4a65c_remove_915e3_17 : decode cJx4a65c_remove_915e3 17 = .ok (.astore_n 3, 1) := by decide +kernel
theorem dJx4a65c_remove_915e3_18 : decode cJx4a65c_remove_915e3 18 = .ok (.aload_n 0, 1) := by decide +kernel
theorem dJx4a65c_remove_915e3_19 : decode cJx4a65c_remove_915e3 19 = .ok (.aload_n 2, 1) := by decide +kernel
theorem dJx4a65c_remove_915e3_20 : decode cJx4a65c_remove_915e3 20 = .ok (.iload_n 1, 1) := by decide +kernel
theorem dJx4a65c_remove_915e3_21 : decode cJx4a65c_remove_915e3 21 = .ok (.invokevirtual 144, 3) := by decide +kernel
theorem dJx4a65c_remove_915e3_24 : decode cJx4a65c_remove_915e3 24 = .ok (.aload_n 3, 1) := by decide +kernel
theorem dJx4a65c_remove_915e3_25 : decode cJx4a65c_remove_915e3 25 = .ok (.areturn, 1) := by decide +kernel
theorem dJx4a65c_fastRemove_b59b0_0 : decode cJx4a65c_fastRemove_b59b0 0 = .ok (.aload_n 0, 1) := by decide +kernel
theorem dJx4a65c_fastRemove_b59b0_1 : decode cJx4a65c_fastRemove_b59b0 1 = .ok (.dup, 1) := by decide +kernel
theorem dJx4a65c_fastRemove_b59b0_2 : decode cJx4a65c_fastRemove_b59b0 2 = .ok (.getfield 63, 3) := by decide +kernel
theorem dJx4a65c_fastRemove_b59b0_5 : decode cJx4a65c_fastRemove_b59b0 5 = .ok (.iconst 1, 1) := by decide +kernel
theorem dJx4a65c_fastRemove_b59b0_6 : decode cJx4a65c_fastRemove_b59b0 6 = .ok (.iadd, 1) := by decide +kernel
theorem dJx4a65c_fastRemove_b59b0_7 : decode cJx4a65c_fastRemove_b59b0 7 = .ok (.putfield 63, 3) := by decide +kernel
theorem dJx4a65c_fastRemove_b59b0_10 : decode cJx4a65c_fastRemove_b59b0 10 = .ok (.aload_n 0, 1) := by decide +kernel
theorem dJx4a65c_fastRemove_b59b0_11 : decode cJx4a65c_fastRemove_b59b0 11 = .ok (.getfield 48, 3) := by decide +kernel
theorem dJx4a65c_fastRemove_b59b0_14 : decode cJx4a65c_fastRemove_b59b0 14 = .ok (.iconst 1, 1) := by decide +kernel
theorem dJx4a65c_fastRemove_b59b0_15 : decode cJx4a65c_fastRemove_b59b0 15 = .ok (.isub, 1) := by decide +kernel
theorem dJx4a65c_fastRemove_b59b0_16 : decode cJx4a65c_fastRemove_b59b0 16 = .ok (.dup, 1) := by decide +kernel
theorem dJx4a65c_fastRemove_b59b0_17 : decode cJx4a65c_fastRemove_b59b0 17 = .ok (.istore_n 3, 1) := by decide +kernel
theorem dJx4a65c_fastRemove_b59b0_18 : decode cJx4a65c_fastRemove_b59b0 18 = .ok (.iload_n 2, 1) := by decide +kernel
theorem dJx4a65c_fastRemove_b59b0_19 : decode cJx4a65c_fastRemove_b59b0 19 = .ok (.if_icmp .le 15, 3) := by decide +kernel
theorem dJx4a65c_fastRemove_b59b0_22 : decode cJx4a65c_fastRemove_b59b0 22 = .ok (.aload_n 1, 1) := by decide +kernel
theorem dJx4a65c_fastRemove_b59b0_23 : decode cJx4a65c_fastRemove_b59b0 23 = .ok (.iload_n 2, 1) := by decide +kernel
theorem dJx4a65c_fastRemove_b59b0_24 : decode cJx4a65c_fastRemove_b59b0 24 = .ok (.iconst 1, 1) := by decide +kernel
theorem dJx4a65c_fastRemove_b59b0_25 : decode cJx4a65c_fastRemove_b59b0 25 = .ok (.iadd, 1) := by decide +kernel
theorem dJx4a65c_fastRemove_b59b0_26 : decode cJx4a65c_fastRemove_b59b0 26 = .ok (.aload_n 1, 1) := by decide +kernel
theorem dJx4a65c_fastRemove_b59b0_27 : decode cJx4a65c_fastRemove_b59b0 27 = .ok (.iload_n 2, 1) := by decide +kernel
theorem dJx4a65c_fastRemove_b59b0_28 : decode cJx4a65c_fastRemove_b59b0 28 = .ok (.iload_n 3, 1) := by decide +kernel
theorem dJx4a65c_fastRemove_b59b0_29 : decode cJx4a65c_fastRemove_b59b0 29 = .ok (.iload_n 2, 1) := by decide +kernel
theorem dJx4a65c_fastRemove_b59b0_30 : decode cJx4a65c_fastRemove_b59b0 30 = .ok (.isub, 1) := by decide +kernel
theorem dJx4a65c_fastRemove_b59b0_31 : decode cJx4a65c_fastRemove_b59b0 31 = .ok (.invokestatic 112, 3) := by decide +kernel
theorem dJx4a65c_fastRemove_b59b0_34 : decode cJx4a65c_fastRemove_b59b0 34 = .ok (.aload_n 1, 1) := by decide +kernel
theorem dJx4a65c_fastRemove_b59b0_35 : decode cJx4a65c_fastRemove_b59b0 35 = .ok (.aload_n 0, 1) := by decide +kernel
theorem dJx4a65c_fastRemove_b59b0_36 : decode cJx4a65c_fastRemove_b59b0 36 = .ok (.iload_n 3, 1) := by decide +kernel
theorem dJx4a65c_fastRemove_b59b0_37 : decode cJx4a65c_fastRemove_b59b0 37 = .ok (.dup_x1, 1) := by decide +kernel
theorem dJx4a65c_fastRemove_b59b0_38 : decode cJx4a65c_fastRemove_b59b0 38 = .ok (.putfield 48, 3) := by decide +kernel
theorem dJx4a65c_fastRemove_b59b0_41 : decode cJx4a65c_fastRemove_b59b0 41 = .ok (.aconst_null, 1) := by decide +kernel
theorem dJx4a65c_fastRemove_b59b0_42 : decode cJx4a65c_fastRemove_b59b0 42 = .ok (.aastore, 1) := by decide +kernel
theorem dJx4a65c_fastRemove_b59b0_43 : decode cJx4a65c_fastRemove_b59b0 43 = .ok (.return_, 1) := by decide +kernel
theorem dJ7_copyOf_1904c_0 : decode cJ7_copyOf_1904c 0 = .ok (.aload_n 0, 1) := by decide +kernel
theorem dJ7_copyOf_1904c_1 : decode cJ7_copyOf_1904c 1 = .ok (.iload_n 1, 1) := by decide +kernel
theorem dJ7_copyOf_1904c_2 : decode cJ7_copyOf_1904c 2 = .ok (.aload_n 0, 1) := by decide +kernel
theorem dJ7_copyOf_1904c_3 : decode cJ7_copyOf_1904c 3 = .ok (.invokevirtual 86, 3) := by decide +kernel
theorem dJ7_copyOf_1904c_6 : decode cJ7_copyOf_1904c 6 = .ok (.invokestatic 300, 3) := by decide +kernel
theorem dJ7_copyOf_1904c_9 : decode cJ7_copyOf_1904c 9 = .ok (.areturn, 1) := by decide +kernel
theorem dJ7_copyOf_6403c_0 : decode cJ7_copyOf_6403c 0 = .ok (.aload_n 2, 1) := by decide +kernel
theorem dJ7_copyOf_6403c_1 : decode cJ7_copyOf_6403c 1 = .ok (.ldc 110, 2) := by decide +kernel
theorem dJ7_copyOf_6403c_3 : decode cJ7_copyOf_6403c 3 = .ok (.if_acmp .ne 10, 3) := by decide +kernel
theorem dJ7_copyOf_6403c_6 : decode cJ7_copyOf_6403c 6 = .ok (.iload_n 1, 1) := by decide +kernel
theorem dJ7_copyOf_6403c_7 : decode cJ7_copyOf_6403c 7 = .ok (.anewarray 2, 3) := by decide +kernel
theorem dJ7_copyOf_6403c_10 : decode cJ7_copyOf_6403c 10 = .ok (.goto 14, 3) := by decide +kernel
theorem dJ7_copyOf_6403c_13 : decode cJ7_copyOf_6403c 13 = .ok (.aload_n 2, 1) := by decide +kernel
theorem dJ7_copyOf_6403c_14 : decode cJ7_copyOf_6403c 14 = .ok (.invokevirtual 90, 3) := by decide +kernel
theorem dJ7_copyOf_6403c_17 : decode cJ7_copyOf_6403c 17 = .ok (.iload_n 1, 1) := by decide +kernel
theorem dJ7_copyOf_6403c_18 : decode cJ7_copyOf_6403c 18 = .ok (.invokestatic 95, 3) := by decide +kernel
theorem dJ7_copyOf_6403c_21 : decode cJ7_copyOf_6403c 21 = .ok (.checkcast 110, 3) := by decide +kernel
theorem dJ7_copyOf_6403c_24 : decode cJ7_copyOf_6403c 24 = .ok (.astore_n 3, 1) := by decide +kernel
theorem dJ7_copyOf_6403c_25 : decode cJ7_copyOf_6403c 25 = .ok (.aload_n 0, 1) := by decide +kernel
theorem dJ7_copyOf_6403c_26 : decode cJ7_copyOf_6403c 26 = .ok (.iconst 0, 1) := by decide +kernel
theorem dJ7_copyOf_6403c_27 : decode cJ7_copyOf_6403c 27 = .ok (.aload_n 3, 1) := by decide +kernel
theorem dJ7_copyOf_6403c_28 : decode cJ7_copyOf_6403c 28 = .ok (.iconst 0, 1) := by decide +kernel
theorem dJ7_copyOf_6403c_29 : decode cJ7_copyOf_6403c 29 = .ok (.aload_n 0, 1) := by decide +kernel
theorem dJ7_copyOf_6403c_30 : decode cJ7_copyOf_6403c 30 = .ok (.arraylength, 1) := by decide +kernel
theorem dJ7_copyOf_6403c_31 : decode cJ7_copyOf_6403c 31 = .ok (.iload_n 1, 1) := by decide +kernel
theorem dJ7_copyOf_6403c_32 : decode cJ7_copyOf_6403c 32 = .ok (.invokestatic 304, 3) := by decide +kernel
theorem dJ7_copyOf_6403c_35 : decode cJ7_copyOf_6403c 35 = .ok (.invokestatic 150, 3) := by decide +kernel
theorem dJ7_copyOf_6403c_38 : decode cJ7_copyOf_6403c 38 = .ok (.aload_n 3, 1) := by decide +kernel
theorem dJ7_copyOf_6403c_39 : decode cJ7_copyOf_6403c 39 = .ok (.areturn, 1) := by decide +kernel
theorem dJ15_checkIndex_7cf53_0 : decode cJ15_checkIndex_7cf53 0 = .ok (.iload_n 0, 1) := by decide +kernel
theorem dJ15_checkIndex_7cf53_1 : decode cJ15_checkIndex_7cf53 1 = .ok (.iload_n 1, 1) := by decide +kernel
theorem dJ15_checkIndex_7cf53_2 : decode cJ15_checkIndex_7cf53 2 = .ok (.aconst_null, 1) := by decide +kernel
theorem dJ15_checkIndex_7cf53_3 : decode cJ15_checkIndex_7cf53 3 = .ok (.invokestatic 105, 3) := by decide +kernel
theorem dJ15_checkIndex_7cf53_6 : decode cJ15_checkIndex_7cf53 6 = .ok (.ireturn, 1) := by decide +kernel
theorem dJ8_newLength_cabcc_0 : decode cJ8_newLength_cabcc 0 = .ok (.iload_n 0, 1) := by decide +kernel
theorem dJ8_newLength_cabcc_1 : decode cJ8_newLength_cabcc 1 = .ok (.iload_n 1, 1) := by decide +kernel
theorem dJ8_newLength_cabcc_2 : decode cJ8_newLength_cabcc 2 = .ok (.iload_n 2, 1) := by decide +kernel
theorem dJ8_newLength_cabcc_3 : decode cJ8_newLength_cabcc 3 = .ok (.invokestatic 194, 3) := by decide +kernel
theorem dJ8_newLength_cabcc_6 : decode cJ8_newLength_cabcc 6 = .ok (.iadd, 1) := by decide +kernel
theorem dJ8_newLength_cabcc_7 : decode cJ8_newLength_cabcc 7 = .ok (.istore_n 3, 1) := by decide +kernel
theorem dJ8_newLength_cabcc_8 : decode cJ8_newLength_cabcc 8 = .ok (.iconst 0, 1) := by decide +kernel
theorem dJ8_newLength_cabcc_9 : decode cJ8_newLength_cabcc 9 = .ok (.iload_n 3, 1) := by decide +kernel
theorem dJ8_newLength_cabcc_10 : decode cJ8_newLength_cabcc 10 = .ok (.if_icmp .ge 11, 3) := by decide +kernel
theorem dJ8_newLength_cabcc_13 : decode cJ8_newLength_cabcc 13 = .ok (.iload_n 3, 1) := by decide +kernel
theorem dJ8_newLength_cabcc_14 : decode cJ8_newLength_cabcc 14 = .ok (.ldc 200, 2) := by decide +kernel
theorem dJ8_newLength_cabcc_16 : decode cJ8_newLength_cabcc 16 = .ok (.if_icmp .gt 5, 3) := by decide +kernel
theorem dJ8_newLength_cabcc_19 : decode cJ8_newLength_cabcc 19 = .ok (.iload_n 3, 1) := by decide +kernel
theorem dJ8_newLength_cabcc_20 : decode cJ8_newLength_cabcc 20 = .ok (.ireturn, 1) := by decide +kernel
theorem dJ8_newLength_cabcc_21 : decode cJ8_newLength_cabcc 21 = .ok (.iload_n 0, 1) := by decide +kernel
theorem dJ8_newLength_cabcc_22 : decode cJ8_newLength_cabcc 22 = .ok (.iload_n 1, 1) := by decide +kernel
theorem dJ8_newLength_cabcc_23 : decode cJ8_newLength_cabcc 23 = .ok (.invokestatic 201, 3) := by decide +kernel
theorem dJ8_newLength_cabcc_26 : decode cJ8_newLength_cabcc 26 = .ok (.ireturn, 1) := by decide +kernel
theorem dJ8_hugeLength_7cf53_0 : decode cJ8_hugeLength_7cf53 0 = .ok (.iload_n 0, 1) := by decide +kernel
theorem dJ8_hugeLength_7cf53_1 : decode cJ8_hugeLength_7cf53 1 = .ok (.iload_n 1, 1) := by decide +kernel
theorem dJ8_hugeLength_7cf53_2 : decode cJ8_hugeLength_7cf53 2 = .ok (.iadd, 1) := by decide +kernel
theorem dJ8_hugeLength_7cf53_3 : decode cJ8_hugeLength_7cf53 3 = .ok (.istore_n 2, 1) := by decide +kernel
theorem dJ8_hugeLength_7cf53_4 : decode cJ8_hugeLength_7cf53 4 = .ok (.iload_n 2, 1) := by decide +kernel
theorem dJ8_hugeLength_7cf53_5 : decode cJ8_hugeLength_7cf53 5 = .ok (.ifCond .ge 44, 3) := by decide +kernel
theorem dJ8_hugeLength_7cf53_8 : decode cJ8_hugeLength_7cf53 8 = .ok (.new 204, 3) := by decide +kernel
theorem dJ8_hugeLength_7cf53_11 : decode cJ8_hugeLength_7cf53 11 = .ok (.dup, 1) := by decide +kernel
theorem dJ8_hugeLength_7cf53_12 : decode cJ8_hugeLength_7cf53 12 = .ok (.new 89, 3) := by decide +kernel
theorem dJ8_hugeLength_7cf53_15 : decode cJ8_hugeLength_7cf53 15 = .ok (.dup, 1) := by decide +kernel
theorem dJ8_hugeLength_7cf53_16 : decode cJ8_hugeLength_7cf53 16 = .ok (.invokespecial 91, 3) := by decide +kernel
theorem dJ8_hugeLength_7cf53_19 : decode cJ8_hugeLength_7cf53 19 = .ok (.ldc 206, 2) := by decide +kernel
theorem dJ8_hugeLength_7cf53_21 : decode cJ8_hugeLength_7cf53 21 = .ok (.invokevirtual 94, 3) := by decide +kernel
theorem dJ8_hugeLength_7cf53_24 : decode cJ8_hugeLength_7cf53 24 = .ok (.iload_n 0, 1) := by decide +kernel
theorem dJ8_hugeLength_7cf53_25 : decode cJ8_hugeLength_7cf53 25 = .ok (.invokevirtual 98, 3) := by decide +kernel
theorem dJ8_hugeLength_7cf53_28 : decode cJ8_hugeLength_7cf53 28 = .ok (.ldc 208, 2) := by decide +kernel
theorem dJ8_hugeLength_7cf53_30 : decode cJ8_hugeLength_7cf53 30 = .ok (.invokevirtual 94, 3) := by decide +kernel
theorem dJ8_hugeLength_7cf53_33 : decode cJ8_hugeLength_7cf53 33 = .ok (.iload_n 1, 1) := by decide +kernel
theorem dJ8_hugeLength_7cf53_34 : decode cJ8_hugeLength_7cf53 34 = .ok (.invokevirtual 98, 3) := by decide +kernel
theorem dJ8_hugeLength_7cf53_37 : decode cJ8_hugeLength_7cf53 37 = .ok (.ldc 210, 2) := by decide +kernel
theorem dJ8_hugeLength_7cf53_39 : decode cJ8_hugeLength_7cf53 39 = .ok (.invokevirtual 94, 3) := by decide +kernel
theorem dJ8_hugeLength_7cf53_42 : decode cJ8_hugeLength_7cf53 42 = .ok (.invokevirtual 101, 3) := by decide +kernel
theorem dJ8_hugeLength_7cf53_45 : decode cJ8_hugeLength_7cf53 45 = .ok (.invokespecial 212, 3) := by decide +kernel
theorem dJ8_hugeLength_7cf53_48 : decode cJ8_hugeLength_7cf53 48 = .ok (.athrow, 1) := by decide +kernel
theorem dJ8_hugeLength_7cf53_49 : decode cJ8_hugeLength_7cf53 49 = .ok (.iload_n 2, 1) := by decide +kernel
theorem dJ8_hugeLength_7cf53_50 : decode cJ8_hugeLength_7cf53 50 = .ok (.ldc 200, 2) := by decide +kernel
theorem dJ8_hugeLength_7cf53_52 : decode cJ8_hugeLength_7cf53 52 = .ok (.if_icmp .gt 6, 3) := by decide +kernel
theorem dJ8_hugeLength_7cf53_55 : decode cJ8_hugeLength_7cf53 55 = .ok (.ldc 200, 2) := by decide +kernel
theorem dJ8_hugeLength_7cf53_57 : decode cJ8_hugeLength_7cf53 57 = .ok (.ireturn, 1) := by decide +kernel
theorem dJ8_hugeLength_7cf53_58 : decode cJ8_hugeLength_7cf53 58 = .ok (.iload_n 2, 1) := by decide +kernel
theorem dJ8_hugeLength_7cf53_59 : decode cJ8_hugeLength_7cf53 59 = .ok (.ireturn, 1) := by decide +kernel
theorem dJ3_checkIndex_8e157_0 : decode cJ3_checkIndex_8e157 0 = .ok (.iload_n 0, 1) := by decide +kernel
theorem dJ3_checkIndex_8e157_1 : decode cJ3_checkIndex_8e157 1 = .ok (.ifCond .lt 8, 3) := by decide +kernel
theorem dJ3_checkIndex_8e157_4 : decode cJ3_checkIndex_8e157 4 = .ok (.iload_n 0, 1) := by decide +kernel
theorem dJ3_checkIndex_8e157_5 : decode cJ3_checkIndex_8e157 5 = .ok (.iload_n 1, 1) := by decide +kernel
theorem dJ3_checkIndex_8e157_6 : decode cJ3_checkIndex_8e157 6 = .ok (.if_icmp .lt 10, 3) := by decide +kernel
theorem dJ3_checkIndex_8e157_9 : decode cJ3_checkIndex_8e157 9 = .ok (.aload_n 2, 1) := by decide +kernel
theorem dJ3_checkIndex_8e157_10 : decode cJ3_checkIndex_8e157 10 = .ok (.iload_n 0, 1) := by decide +kernel
theorem dJ3_checkIndex_8e157_11 : decode cJ3_checkIndex_8e157 11 = .ok (.iload_n 1, 1) := by decide +kernel
theorem dJ3_checkIndex_8e157_12 : decode cJ3_checkIndex_8e157 12 = .ok (.invokestatic 95, 3) := by decide +kernel
theorem dJ3_checkIndex_8e157_15 : decode cJ3_checkIndex_8e157 15 = .ok (.athrow, 1) := by decide +kernel
theorem dJ3_checkIndex_8e157_16 : decode cJ3_checkIndex_8e157 16 = .ok (.iload_n 0, 1) := by decide +kernel
theorem dJ3_checkIndex_8e157_17 : decode cJ3_checkIndex_8e157 17 = .ok (.ireturn, 1) := by decide +kernel
theorem dL_law_0 : decode cL_law 0 = .ok (.new 7, 3) := by decide +kernel
theorem dL_law_3 : decode cL_law 3 = .ok (.dup, 1) := by decide +kernel
theorem dL_law_4 : decode cL_law 4 = .ok (.invokespecial 9, 3) := by decide +kernel
theorem dL_law_7 : decode cL_law 7 = .ok (.astore_n 1, 1) := by decide +kernel
theorem dL_law_8 : decode cL_law 8 = .ok (.new 10, 3) := by decide +kernel
theorem dL_law_11 : decode cL_law 11 = .ok (.dup, 1) := by decide +kernel
theorem dL_law_12 : decode cL_law 12 = .ok (.invokespecial 12, 3) := by decide +kernel
theorem dL_law_15 : decode cL_law 15 = .ok (.astore_n 2, 1) := by decide +kernel
theorem dL_law_16 : decode cL_law 16 = .ok (.iconst 0, 1) := by decide +kernel
theorem dL_law_17 : decode cL_law 17 = .ok (.istore_n 3, 1) := by decide +kernel
theorem dL_law_18 : decode cL_law 18 = .ok (.iload_n 3, 1) := by decide +kernel
theorem dL_law_19 : decode cL_law 19 = .ok (.aload_n 0, 1) := by decide +kernel
theorem dL_law_20 : decode cL_law 20 = .ok (.arraylength, 1) := by decide +kernel
theorem dL_law_21 : decode cL_law 21 = .ok (.iconst 5, 1) := by decide +kernel
theorem dL_law_22 : decode cL_law 22 = .ok (.isub, 1) := by decide +kernel
theorem dL_law_23 : decode cL_law 23 = .ok (.if_icmp .gt 997, 3) := by decide +kernel
theorem dL_law_26 : decode cL_law 26 = .ok (.aload_n 0, 1) := by decide +kernel
theorem dL_law_27 : decode cL_law 27 = .ok (.iload_n 3, 1) := by decide +kernel
theorem dL_law_28 : decode cL_law 28 = .ok (.iaload, 1) := by decide +kernel
theorem dL_law_29 : decode cL_law 29 = .ok (.bipush 31, 2) := by decide +kernel
theorem dL_law_31 : decode cL_law 31 = .ok (.iand, 1) := by decide +kernel
theorem dL_law_32 : decode cL_law 32 = .ok (.tableswitch 982 0 27 #[128, 151, 204, 237, 270, 293, 336, 369, 422, 465, 498, 521, 544, 557, 600, 633, 666, 699, 732, 755, 788, 801, 834, 867, 900, 923, 946, 969], 128) := by decide +kernel
theorem dL_law_160 : decode cL_law 160 = .ok (.aload_n 1, 1) := by decide +kernel
theorem dL_law_161 : decode cL_law 161 = .ok (.aload_n 0, 1) := by decide +kernel
theorem dL_law_162 : decode cL_law 162 = .ok (.iload_n 3, 1) := by decide +kernel
theorem dL_law_163 : decode cL_law 163 = .ok (.iconst 1, 1) := by decide +kernel
theorem dL_law_164 : decode cL_law 164 = .ok (.iadd, 1) := by decide +kernel
theorem dL_law_165 : decode cL_law 165 = .ok (.iaload, 1) := by decide +kernel
theorem dL_law_166 : decode cL_law 166 = .ok (.invokevirtual 13, 3) := by decide +kernel
theorem dL_law_169 : decode cL_law 169 = .ok (.aload_n 2, 1) := by decide +kernel
theorem dL_law_170 : decode cL_law 170 = .ok (.aload_n 0, 1) := by decide +kernel
theorem dL_law_171 : decode cL_law 171 = .ok (.iload_n 3, 1) := by decide +kernel
theorem dL_law_172 : decode cL_law 172 = .ok (.iconst 1, 1) := by decide +kernel
theorem dL_law_173 : decode cL_law 173 = .ok (.iadd, 1) := by decide +kernel
theorem dL_law_174 : decode cL_law 174 = .ok (.iaload, 1) := by decide +kernel
theorem dL_law_175 : decode cL_law 175 = .ok (.invokevirtual 17, 3) := by decide +kernel
theorem dL_law_178 : decode cL_law 178 = .ok (.if_icmp .eq 836, 3) := by decide +kernel
theorem dL_law_181 : decode cL_law 181 = .ok (.iconst 0, 1) := by decide +kernel
theorem dL_law_182 : decode cL_law 182 = .ok (.ireturn, 1) := by decide +kernel
theorem dL_law_183 : decode cL_law 183 = .ok (.aload_n 1, 1) := by decide +kernel
theorem dL_law_184 : decode cL_law 184 = .ok (.aload_n 0, 1) := by decide +kernel
theorem dL_law_185 : decode cL_law 185 = .ok (.iload_n 3, 1) := by decide +kernel
theorem dL_law_186 : decode cL_law 186 = .ok (.iconst 1, 1) := by decide +kernel
theorem dL_law_187 : decode cL_law 187 = .ok (.iadd, 1) := by decide +kernel
theorem dL_law_188 : decode cL_law 188 = .ok (.iaload, 1) := by decide +kernel
theorem dL_law_189 : decode cL_law 189 = .ok (.aload_n 0, 1) := by decide +kernel
theorem dL_law_190 : decode cL_law 190 = .ok (.iload_n 3, 1) := by decide +kernel
theorem dL_law_191 : decode cL_law 191 = .ok (.iconst 2, 1) := by decide +kernel
theorem dL_law_192 : decode cL_law 192 = .ok (.iadd, 1) := by decide +kernel
theorem dL_law_193 : decode cL_law 193 = .ok (.iaload, 1) := by decide +kernel
theorem dL_law_194 : decode cL_law 194 = .ok (.aload_n 0, 1) := by decide +kernel
theorem dL_law_195 : decode cL_law 195 = .ok (.iload_n 3, 1) := by decide +kernel
theorem dL_law_196 : decode cL_law 196 = .ok (.iconst 3, 1) := by decide +kernel
theorem dL_law_197 : decode cL_law 197 = .ok (.iadd, 1) := by decide +kernel
theorem dL_law_198 : decode cL_law 198 = .ok (.iaload, 1) := by decide +kernel
theorem dL_law_199 : decode cL_law 199 = .ok (.aload_n 0, 1) := by decide +kernel
theorem dL_law_200 : decode cL_law 200 = .ok (.iload_n 3, 1) := by decide +kernel
theorem dL_law_201 : decode cL_law 201 = .ok (.iconst 4, 1) := by decide +kernel
theorem dL_law_202 : decode cL_law 202 = .ok (.iadd, 1) := by decide +kernel
theorem dL_law_203 : decode cL_law 203 = .ok (.iaload, 1) := by decide +kernel
theorem dL_law_204 : decode cL_law 204 = .ok (.invokevirtual 18, 3) := by decide +kernel
theorem dL_law_207 : decode cL_law 207 = .ok (.aload_n 2, 1) := by decide +kernel
theorem dL_law_208 : decode cL_law 208 = .ok (.aload_n 0, 1) := by decide +kernel
theorem dL_law_209 : decode cL_law 209 = .ok (.iload_n 3, 1) := by decide +kernel
theorem dL_law_210 : decode cL_law 210 = .ok (.iconst 1, 1) := by decide +kernel
theorem dL_law_211 : decode cL_law 211 = .ok (.iadd, 1) := by decide +kernel
theorem dL_law_212 : decode cL_law 212 = .ok (.iaload, 1) := by decide +kernel
theorem dL_law_213 : decode cL_law 213 = .ok (.aload_n 0, 1) := by decide +kernel
theorem dL_law_214 : decode cL_law 214 = .ok (.iload_n 3, 1) := by decide +kernel
theorem dL_law_215 : decode cL_law 215 = .ok (.iconst 2, 1) := by decide +kernel
theorem dL_law_216 : decode cL_law 216 = .ok (.iadd, 1) := by decide +kernel
theorem dL_law_217 : decode cL_law 217 = .ok (.iaload, 1) := by decide +kernel
theorem dL_law_218 : decode cL_law 218 = .ok (.aload_n 0, 1) := by decide +kernel
theorem dL_law_219 : decode cL_law 219 = .ok (.iload_n 3, 1) := by decide +kernel
theorem dL_law_220 : decode cL_law 220 = .ok (.iconst 3, 1) := by decide +kernel
theorem dL_law_221 : decode cL_law 221 = .ok (.iadd, 1) := by decide +kernel
theorem dL_law_222 : decode cL_law 222 = .ok (.iaload, 1) := by decide +kernel
theorem dL_law_223 : decode cL_law 223 = .ok (.aload_n 0, 1) := by decide +kernel
theorem dL_law_224 : decode cL_law 224 = .ok (.iload_n 3, 1) := by decide +kernel
theorem dL_law_225 : decode cL_law 225 = .ok (.iconst 4, 1) := by decide +kernel
theorem dL_law_226 : decode cL_law 226 = .ok (.iadd, 1) := by decide +kernel
theorem dL_law_227 : decode cL_law 227 = .ok (.iaload, 1) := by decide +kernel
theorem dL_law_228 : decode cL_law 228 = .ok (.invokevirtual 22, 3) := by decide +kernel
theorem dL_law_231 : decode cL_law 231 = .ok (.if_icmp .eq 783, 3) := by decide +kernel
theorem dL_law_234 : decode cL_law 234 = .ok (.iconst 0, 1) := by decide +kernel
theorem dL_law_235 : decode cL_law 235 = .ok (.ireturn, 1) := by decide +kernel
theorem dL_law_236 : decode cL_law 236 = .ok (.aload_n 1, 1) := by decide +kernel
theorem dL_law_237 : decode cL_law 237 = .ok (.aload_n 0, 1) := by decide +kernel
theorem dL_law_238 : decode cL_law 238 = .ok (.iload_n 3, 1) := by decide +kernel
theorem dL_law_239 : decode cL_law 239 = .ok (.iconst 1, 1) := by decide +kernel
theorem dL_law_240 : decode cL_law 240 = .ok (.iadd, 1) := by decide +kernel
theorem dL_law_241 : decode cL_law 241 = .ok (.iaload, 1) := by decide +kernel
theorem dL_law_242 : decode cL_law 242 = .ok (.aload_n 0, 1) := by decide +kernel
theorem dL_law_243 : decode cL_law 243 = .ok (.iload_n 3, 1) := by decide +kernel
theorem dL_law_244 : decode cL_law 244 = .ok (.iconst 2, 1) := by decide +kernel
theorem dL_law_245 : decode cL_law 245 = .ok (.iadd, 1) := by decide +kernel
theorem dL_law_246 : decode cL_law 246 = .ok (.iaload, 1) := by decide +kernel
theorem dL_law_247 : decode cL_law 247 = .ok (.invokevirtual 23, 3) := by decide +kernel
theorem dL_law_250 : decode cL_law 250 = .ok (.aload_n 2, 1) := by decide +kernel
theorem dL_law_251 : decode cL_law 251 = .ok (.aload_n 0, 1) := by decide +kernel
theorem dL_law_252 : decode cL_law 252 = .ok (.iload_n 3, 1) := by decide +kernel
theorem dL_law_253 : decode cL_law 253 = .ok (.iconst 1, 1) := by decide +kernel
theorem dL_law_254 : decode cL_law 254 = .ok (.iadd, 1) := by decide +kernel
theorem dL_law_255 : decode cL_law 255 = .ok (.iaload, 1) := by decide +kernel
theorem dL_law_256 : decode cL_law 256 = .ok (.aload_n 0, 1) := by decide +kernel
theorem dL_law_257 : decode cL_law 257 = .ok (.iload_n 3, 1) := by decide +kernel
theorem dL_law_258 : decode cL_law 258 = .ok (.iconst 2, 1) := by decide +kernel
theorem dL_law_259 : decode cL_law 259 = .ok (.iadd, 1) := by decide +kernel
theorem dL_law_260 : decode cL_law 260 = .ok (.iaload, 1) := by decide +kernel
theorem dL_law_261 : decode cL_law 261 = .ok (.invokevirtual 27, 3) := by decide +kernel
theorem dL_law_264 : decode cL_law 264 = .ok (.if_icmp .eq 750, 3) := by decide +kernel
theorem dL_law_267 : decode cL_law 267 = .ok (.iconst 0, 1) := by decide +kernel
theorem dL_law_268 : decode cL_law 268 = .ok (.ireturn, 1) := by decide +kernel
theorem dL_law_269 : decode cL_law 269 = .ok (.aload_n 1, 1) := by decide +kernel
theorem dL_law_270 : decode cL_law 270 = .ok (.aload_n 0, 1) := by decide +kernel
theorem dL_law_271 : decode cL_law 271 = .ok (.iload_n 3, 1) := by decide +kernel
theorem dL_law_272 : decode cL_law 272 = .ok (.iconst 1, 1) := by decide +kernel
theorem dL_law_273 : decode cL_law 273 = .ok (.iadd, 1) := by decide +kernel
theorem dL_law_274 : decode cL_law 274 = .ok (.iaload, 1) := by decide +kernel
theorem dL_law_275 : decode cL_law 275 = .ok (.aload_n 0, 1) := by decide +kernel
theorem dL_law_276 : decode cL_law 276 = .ok (.iload_n 3, 1) := by decide +kernel
theorem dL_law_277 : decode cL_law 277 = .ok (.iconst 2, 1) := by decide +kernel
theorem dL_law_278 : decode cL_law 278 = .ok (.iadd, 1) := by decide +kernel
theorem dL_law_279 : decode cL_law 279 = .ok (.iaload, 1) := by decide +kernel
theorem dL_law_280 : decode cL_law 280 = .ok (.invokevirtual 28, 3) := by decide +kernel
theorem dL_law_283 : decode cL_law 283 = .ok (.aload_n 2, 1) := by decide +kernel
theorem dL_law_284 : decode cL_law 284 = .ok (.aload_n 0, 1) := by decide +kernel
theorem dL_law_285 : decode cL_law 285 = .ok (.iload_n 3, 1) := by decide +kernel
theorem dL_law_286 : decode cL_law 286 = .ok (.iconst 1, 1) := by decide +kernel
theorem dL_law_287 : decode cL_law 287 = .ok (.iadd, 1) := by decide +kernel
theorem dL_law_288 : decode cL_law 288 = .ok (.iaload, 1) := by decide +kernel
theorem dL_law_289 : decode cL_law 289 = .ok (.aload_n 0, 1) := by decide +kernel
theorem dL_law_290 : decode cL_law 290 = .ok (.iload_n 3, 1) := by decide +kernel
theorem dL_law_291 : decode cL_law 291 = .ok (.iconst 2, 1) := by decide +kernel
theorem dL_law_292 : decode cL_law 292 = .ok (.iadd, 1) := by decide +kernel
theorem dL_law_293 : decode cL_law 293 = .ok (.iaload, 1) := by decide +kernel
theorem dL_law_294 : decode cL_law 294 = .ok (.invokevirtual 31, 3) := by decide +kernel
theorem dL_law_297 : decode cL_law 297 = .ok (.if_icmp .eq 717, 3) := by decide +kernel
theorem dL_law_300 : decode cL_law 300 = .ok (.iconst 0, 1) := by decide +kernel
theorem dL_law_301 : decode cL_law 301 = .ok (.ireturn, 1) := by decide +kernel
theorem dL_law_302 : decode cL_law 302 = .ok (.aload_n 1, 1) := by decide +kernel
theorem dL_law_303 : decode cL_law 303 = .ok (.aload_n 0, 1) := by decide +kernel
theorem dL_law_304 : decode cL_law 304 = .ok (.iload_n 3, 1) := by decide +kernel
theorem dL_law_305 : decode cL_law 305 = .ok (.iconst 1, 1) := by decide +kernel
theorem dL_law_306 : decode cL_law 306 = .ok (.iadd, 1) := by decide +kernel
theorem dL_law_307 : decode cL_law 307 = .ok (.iaload, 1) := by decide +kernel
theorem dL_law_308 : decode cL_law 308 = .ok (.invokevirtual 32, 3) := by decide +kernel
theorem dL_law_311 : decode cL_law 311 = .ok (.aload_n 2, 1) := by decide +kernel
theorem dL_law_312 : decode cL_law 312 = .ok (.aload_n 0, 1) := by decide +kernel
theorem dL_law_313 : decode cL_law 313 = .ok (.iload_n 3, 1) := by decide +kernel
theorem dL_law_314 : decode cL_law 314 = .ok (.iconst 1, 1) := by decide +kernel
theorem dL_law_315 : decode cL_law 315 = .ok (.iadd, 1) := by decide +kernel
theorem dL_law_316 : decode cL_law 316 = .ok (.iaload, 1) := by decide +kernel
theorem dL_law_317 : decode cL_law 317 = .ok (.invokevirtual 35, 3) := by decide +kernel
theorem dL_law_320 : decode cL_law 320 = .ok (.if_icmp .eq 694, 3) := by decide +kernel
theorem dL_law_323 : decode cL_law 323 = .ok (.iconst 0, 1) := by decide +kernel
theorem dL_law_324 : decode cL_law 324 = .ok (.ireturn, 1) := by decide +kernel
theorem dL_law_325 : decode cL_law 325 = .ok (.aload_n 1, 1) := by decide +kernel
theorem dL_law_326 : decode cL_law 326 = .ok (.aload_n 0, 1) := by decide +kernel
theorem dL_law_327 : decode cL_law 327 = .ok (.iload_n 3, 1) := by decide +kernel
theorem dL_law_328 : decode cL_law 328 = .ok (.iconst 1, 1) := by decide +kernel
theorem dL_law_329 : decode cL_law 329 = .ok (.iadd, 1) := by decide +kernel
theorem dL_law_330 : decode cL_law 330 = .ok (.iaload, 1) := by decide +kernel
theorem dL_law_331 : decode cL_law 331 = .ok (.aload_n 0, 1) := by decide +kernel
theorem dL_law_332 : decode cL_law 332 = .ok (.iload_n 3, 1) := by decide +kernel
theorem dL_law_333 : decode cL_law 333 = .ok (.iconst 2, 1) := by decide +kernel
theorem dL_law_334 : decode cL_law 334 = .ok (.iadd, 1) := by decide +kernel
theorem dL_law_335 : decode cL_law 335 = .ok (.iaload, 1) := by decide +kernel
theorem dL_law_336 : decode cL_law 336 = .ok (.aload_n 0, 1) := by decide +kernel
theorem dL_law_337 : decode cL_law 337 = .ok (.iload_n 3, 1) := by decide +kernel
theorem dL_law_338 : decode cL_law 338 = .ok (.iconst 3, 1) := by decide +kernel
theorem dL_law_339 : decode cL_law 339 = .ok (.iadd, 1) := by decide +kernel
theorem dL_law_340 : decode cL_law 340 = .ok (.iaload, 1) := by decide +kernel
theorem dL_law_341 : decode cL_law 341 = .ok (.invokevirtual 36, 3) := by decide +kernel
theorem dL_law_344 : decode cL_law 344 = .ok (.aload_n 2, 1) := by decide +kernel
theorem dL_law_345 : decode cL_law 345 = .ok (.aload_n 0, 1) := by decide +kernel
theorem dL_law_346 : decode cL_law 346 = .ok (.iload_n 3, 1) := by decide +kernel
theorem dL_law_347 : decode cL_law 347 = .ok (.iconst 1, 1) := by decide +kernel
theorem dL_law_348 : decode cL_law 348 = .ok (.iadd, 1) := by decide +kernel
theorem dL_law_349 : decode cL_law 349 = .ok (.iaload, 1) := by decide +kernel
theorem dL_law_350 : decode cL_law 350 = .ok (.aload_n 0, 1) := by decide +kernel
theorem dL_law_351 : decode cL_law 351 = .ok (.iload_n 3, 1) := by decide +kernel
theorem dL_law_352 : decode cL_law 352 = .ok (.iconst 2, 1) := by decide +kernel
theorem dL_law_353 : decode cL_law 353 = .ok (.iadd, 1) := by decide +kernel
theorem dL_law_354 : decode cL_law 354 = .ok (.iaload, 1) := by decide +kernel
theorem dL_law_355 : decode cL_law 355 = .ok (.aload_n 0, 1) := by decide +kernel
theorem dL_law_356 : decode cL_law 356 = .ok (.iload_n 3, 1) := by decide +kernel
theorem dL_law_357 : decode cL_law 357 = .ok (.iconst 3, 1) := by decide +kernel
theorem dL_law_358 : decode cL_law 358 = .ok (.iadd, 1) := by decide +kernel
theorem dL_law_359 : decode cL_law 359 = .ok (.iaload, 1) := by decide +kernel
theorem dL_law_360 : decode cL_law 360 = .ok (.invokevirtual 40, 3) := by decide +kernel
theorem dL_law_363 : decode cL_law 363 = .ok (.if_icmp .eq 651, 3) := by decide +kernel
theorem dL_law_366 : decode cL_law 366 = .ok (.iconst 0, 1) := by decide +kernel
theorem dL_law_367 : decode cL_law 367 = .ok (.ireturn, 1) := by decide +kernel
theorem dL_law_368 : decode cL_law 368 = .ok (.aload_n 1, 1) := by decide +kernel
theorem dL_law_369 : decode cL_law 369 = .ok (.aload_n 0, 1) := by decide +kernel
theorem dL_law_370 : decode cL_law 370 = .ok (.iload_n 3, 1) := by decide +kernel
theorem dL_law_371 : decode cL_law 371 = .ok (.iconst 1, 1) := by decide +kernel
theorem dL_law_372 : decode cL_law 372 = .ok (.iadd, 1) := by decide +kernel
theorem dL_law_373 : decode cL_law 373 = .ok (.iaload, 1) := by decide +kernel
theorem dL_law_374 : decode cL_law 374 = .ok (.aload_n 0, 1) := by decide +kernel
theorem dL_law_375 : decode cL_law 375 = .ok (.iload_n 3, 1) := by decide +kernel
theorem dL_law_376 : decode cL_law 376 = .ok (.iconst 2, 1) := by decide +kernel
theorem dL_law_377 : decode cL_law 377 = .ok (.iadd, 1) := by decide +kernel
theorem dL_law_378 : decode cL_law 378 = .ok (.iaload, 1) := by decide +kernel
theorem dL_law_379 : decode cL_law 379 = .ok (.invokevirtual 41, 3) := by decide +kernel
theorem dL_law_382 : decode cL_law 382 = .ok (.aload_n 2, 1) := by decide +kernel
theorem dL_law_383 : decode cL_law 383 = .ok (.aload_n 0, 1) := by decide +kernel
theorem dL_law_384 : decode cL_law 384 = .ok (.iload_n 3, 1) := by decide +kernel
theorem dL_law_385 : decode cL_law 385 = .ok (.iconst 1, 1) := by decide +kernel
theorem dL_law_386 : decode cL_law 386 = .ok (.iadd, 1) := by decide +kernel
theorem dL_law_387 : decode cL_law 387 = .ok (.iaload, 1) := by decide +kernel
theorem dL_law_388 : decode cL_law 388 = .ok (.aload_n 0, 1) := by decide +kernel
theorem dL_law_389 : decode cL_law 389 = .ok (.iload_n 3, 1) := by decide +kernel
theorem dL_law_390 : decode cL_law 390 = .ok (.iconst 2, 1) := by decide +kernel
theorem dL_law_391 : decode cL_law 391 = .ok (.iadd, 1) := by decide +kernel
theorem dL_law_392 : decode cL_law 392 = .ok (.iaload, 1) := by decide +kernel
theorem dL_law_393 : decode cL_law 393 = .ok (.invokevirtual 44, 3) := by decide +kernel
theorem dL_law_396 : decode cL_law 396 = .ok (.if_icmp .eq 618, 3) := by decide +kernel
theorem dL_law_399 : decode cL_law 399 = .ok (.iconst 0, 1) := by decide +kernel
theorem dL_law_400 : decode cL_law 400 = .ok (.ireturn, 1) := by decide +kernel
theorem dL_law_401 : decode cL_law 401 = .ok (.aload_n 1, 1) := by decide +kernel
theorem dL_law_402 : decode cL_law 402 = .ok (.aload_n 0, 1) := by decide +kernel
theorem dL_law_403 : decode cL_law 403 = .ok (.iload_n 3, 1) := by decide +kernel
theorem dL_law_404 : decode cL_law 404 = .ok (.iconst 1, 1) := by decide +kernel
theorem dL_law_405 : decode cL_law 405 = .ok (.iadd, 1) := by decide +kernel
theorem dL_law_406 : decode cL_law 406 = .ok (.iaload, 1) := by decide +kernel
theorem dL_law_407 : decode cL_law 407 = .ok (.aload_n 0, 1) := by decide +kernel
theorem dL_law_408 : decode cL_law 408 = .ok (.iload_n 3, 1) := by decide +kernel
theorem dL_law_409 : decode cL_law 409 = .ok (.iconst 2, 1) := by decide +kernel
theorem dL_law_410 : decode cL_law 410 = .ok (.iadd, 1) := by decide +kernel
theorem dL_law_411 : decode cL_law 411 = .ok (.iaload, 1) := by decide +kernel
theorem dL_law_412 : decode cL_law 412 = .ok (.aload_n 0, 1) := by decide +kernel
theorem dL_law_413 : decode cL_law 413 = .ok (.iload_n 3, 1) := by decide +kernel
theorem dL_law_414 : decode cL_law 414 = .ok (.iconst 3, 1) := by decide +kernel
theorem dL_law_415 : decode cL_law 415 = .ok (.iadd, 1) := by decide +kernel
theorem dL_law_416 : decode cL_law 416 = .ok (.iaload, 1) := by decide +kernel
theorem dL_law_417 : decode cL_law 417 = .ok (.aload_n 0, 1) := by decide +kernel
theorem dL_law_418 : decode cL_law 418 = .ok (.iload_n 3, 1) := by decide +kernel
theorem dL_law_419 : decode cL_law 419 = .ok (.iconst 4, 1) := by decide +kernel
theorem dL_law_420 : decode cL_law 420 = .ok (.iadd, 1) := by decide +kernel
theorem dL_law_421 : decode cL_law 421 = .ok (.iaload, 1) := by decide +kernel
theorem dL_law_422 : decode cL_law 422 = .ok (.invokevirtual 45, 3) := by decide +kernel
theorem dL_law_425 : decode cL_law 425 = .ok (.aload_n 2, 1) := by decide +kernel
theorem dL_law_426 : decode cL_law 426 = .ok (.aload_n 0, 1) := by decide +kernel
theorem dL_law_427 : decode cL_law 427 = .ok (.iload_n 3, 1) := by decide +kernel
theorem dL_law_428 : decode cL_law 428 = .ok (.iconst 1, 1) := by decide +kernel
theorem dL_law_429 : decode cL_law 429 = .ok (.iadd, 1) := by decide +kernel
theorem dL_law_430 : decode cL_law 430 = .ok (.iaload, 1) := by decide +kernel
theorem dL_law_431 : decode cL_law 431 = .ok (.aload_n 0, 1) := by decide +kernel
theorem dL_law_432 : decode cL_law 432 = .ok (.iload_n 3, 1) := by decide +kernel
theorem dL_law_433 : decode cL_law 433 = .ok (.iconst 2, 1) := by decide +kernel
theorem dL_law_434 : decode cL_law 434 = .ok (.iadd, 1) := by decide +kernel
theorem dL_law_435 : decode cL_law 435 = .ok (.iaload, 1) := by decide +kernel
theorem dL_law_436 : decode cL_law 436 = .ok (.aload_n 0, 1) := by decide +kernel
theorem dL_law_437 : decode cL_law 437 = .ok (.iload_n 3, 1) := by decide +kernel
theorem dL_law_438 : decode cL_law 438 = .ok (.iconst 3, 1) := by decide +kernel
theorem dL_law_439 : decode cL_law 439 = .ok (.iadd, 1) := by decide +kernel
theorem dL_law_440 : decode cL_law 440 = .ok (.iaload, 1) := by decide +kernel
theorem dL_law_441 : decode cL_law 441 = .ok (.aload_n 0, 1) := by decide +kernel
theorem dL_law_442 : decode cL_law 442 = .ok (.iload_n 3, 1) := by decide +kernel
theorem dL_law_443 : decode cL_law 443 = .ok (.iconst 4, 1) := by decide +kernel
theorem dL_law_444 : decode cL_law 444 = .ok (.iadd, 1) := by decide +kernel
theorem dL_law_445 : decode cL_law 445 = .ok (.iaload, 1) := by decide +kernel
theorem dL_law_446 : decode cL_law 446 = .ok (.invokevirtual 48, 3) := by decide +kernel
theorem dL_law_449 : decode cL_law 449 = .ok (.if_icmp .eq 565, 3) := by decide +kernel
theorem dL_law_452 : decode cL_law 452 = .ok (.iconst 0, 1) := by decide +kernel
theorem dL_law_453 : decode cL_law 453 = .ok (.ireturn, 1) := by decide +kernel
theorem dL_law_454 : decode cL_law 454 = .ok (.aload_n 1, 1) := by decide +kernel
theorem dL_law_455 : decode cL_law 455 = .ok (.aload_n 0, 1) := by decide +kernel
theorem dL_law_456 : decode cL_law 456 = .ok (.iload_n 3, 1) := by decide +kernel
theorem dL_law_457 : decode cL_law 457 = .ok (.iconst 1, 1) := by decide +kernel
theorem dL_law_458 : decode cL_law 458 = .ok (.iadd, 1) := by decide +kernel
theorem dL_law_459 : decode cL_law 459 = .ok (.iaload, 1) := by decide +kernel
theorem dL_law_460 : decode cL_law 460 = .ok (.aload_n 0, 1) := by decide +kernel
theorem dL_law_461 : decode cL_law 461 = .ok (.iload_n 3, 1) := by decide +kernel
theorem dL_law_462 : decode cL_law 462 = .ok (.iconst 2, 1) := by decide +kernel
theorem dL_law_463 : decode cL_law 463 = .ok (.iadd, 1) := by decide +kernel
theorem dL_law_464 : decode cL_law 464 = .ok (.iaload, 1) := by decide +kernel
theorem dL_law_465 : decode cL_law 465 = .ok (.aload_n 0, 1) := by decide +kernel
theorem dL_law_466 : decode cL_law 466 = .ok (.iload_n 3, 1) := by decide +kernel
theorem dL_law_467 : decode cL_law 467 = .ok (.iconst 3, 1) := by decide +kernel
theorem dL_law_468 : decode cL_law 468 = .ok (.iadd, 1) := by decide +kernel
theorem dL_law_469 : decode cL_law 469 = .ok (.iaload, 1) := by decide +kernel
theorem dL_law_470 : decode cL_law 470 = .ok (.invokevirtual 49, 3) := by decide +kernel
theorem dL_law_473 : decode cL_law 473 = .ok (.aload_n 2, 1) := by decide +kernel
theorem dL_law_474 : decode cL_law 474 = .ok (.aload_n 0, 1) := by decide +kernel
theorem dL_law_475 : decode cL_law 475 = .ok (.iload_n 3, 1) := by decide +kernel
theorem dL_law_476 : decode cL_law 476 = .ok (.iconst 1, 1) := by decide +kernel
theorem dL_law_477 : decode cL_law 477 = .ok (.iadd, 1) := by decide +kernel
theorem dL_law_478 : decode cL_law 478 = .ok (.iaload, 1) := by decide +kernel
theorem dL_law_479 : decode cL_law 479 = .ok (.aload_n 0, 1) := by decide +kernel
theorem dL_law_480 : decode cL_law 480 = .ok (.iload_n 3, 1) := by decide +kernel
theorem dL_law_481 : decode cL_law 481 = .ok (.iconst 2, 1) := by decide +kernel
theorem dL_law_482 : decode cL_law 482 = .ok (.iadd, 1) := by decide +kernel
theorem dL_law_483 : decode cL_law 483 = .ok (.iaload, 1) := by decide +kernel
theorem dL_law_484 : decode cL_law 484 = .ok (.aload_n 0, 1) := by decide +kernel
theorem dL_law_485 : decode cL_law 485 = .ok (.iload_n 3, 1) := by decide +kernel
theorem dL_law_486 : decode cL_law 486 = .ok (.iconst 3, 1) := by decide +kernel
theorem dL_law_487 : decode cL_law 487 = .ok (.iadd, 1) := by decide +kernel
theorem dL_law_488 : decode cL_law 488 = .ok (.iaload, 1) := by decide +kernel
theorem dL_law_489 : decode cL_law 489 = .ok (.invokevirtual 52, 3) := by decide +kernel
theorem dL_law_492 : decode cL_law 492 = .ok (.if_icmp .eq 522, 3) := by decide +kernel
theorem dL_law_495 : decode cL_law 495 = .ok (.iconst 0, 1) := by decide +kernel
theorem dL_law_496 : decode cL_law 496 = .ok (.ireturn, 1) := by decide +kernel
theorem dL_law_497 : decode cL_law 497 = .ok (.aload_n 1, 1) := by decide +kernel
theorem dL_law_498 : decode cL_law 498 = .ok (.aload_n 0, 1) := by decide +kernel
theorem dL_law_499 : decode cL_law 499 = .ok (.iload_n 3, 1) := by decide +kernel
theorem dL_law_500 : decode cL_law 500 = .ok (.iconst 1, 1) := by decide +kernel
theorem dL_law_501 : decode cL_law 501 = .ok (.iadd, 1) := by decide +kernel
theorem dL_law_502 : decode cL_law 502 = .ok (.iaload, 1) := by decide +kernel
theorem dL_law_503 : decode cL_law 503 = .ok (.aload_n 0, 1) := by decide +kernel
theorem dL_law_504 : decode cL_law 504 = .ok (.iload_n 3, 1) := by decide +kernel
theorem dL_law_505 : decode cL_law 505 = .ok (.iconst 2, 1) := by decide +kernel
theorem dL_law_506 : decode cL_law 506 = .ok (.iadd, 1) := by decide +kernel
theorem dL_law_507 : decode cL_law 507 = .ok (.iaload, 1) := by decide +kernel
theorem dL_law_508 : decode cL_law 508 = .ok (.invokevirtual 53, 3) := by decide +kernel
theorem dL_law_511 : decode cL_law 511 = .ok (.aload_n 2, 1) := by decide +kernel
theorem dL_law_512 : decode cL_law 512 = .ok (.aload_n 0, 1) := by decide +kernel
theorem dL_law_513 : decode cL_law 513 = .ok (.iload_n 3, 1) := by decide +kernel
theorem dL_law_514 : decode cL_law 514 = .ok (.iconst 1, 1) := by decide +kernel
theorem dL_law_515 : decode cL_law 515 = .ok (.iadd, 1) := by decide +kernel
theorem dL_law_516 : decode cL_law 516 = .ok (.iaload, 1) := by decide +kernel
theorem dL_law_517 : decode cL_law 517 = .ok (.aload_n 0, 1) := by decide +kernel
theorem dL_law_518 : decode cL_law 518 = .ok (.iload_n 3, 1) := by decide +kernel
theorem dL_law_519 : decode cL_law 519 = .ok (.iconst 2, 1) := by decide +kernel
theorem dL_law_520 : decode cL_law 520 = .ok (.iadd, 1) := by decide +kernel
theorem dL_law_521 : decode cL_law 521 = .ok (.iaload, 1) := by decide +kernel
theorem dL_law_522 : decode cL_law 522 = .ok (.invokevirtual 56, 3) := by decide +kernel
theorem dL_law_525 : decode cL_law 525 = .ok (.if_icmp .eq 489, 3) := by decide +kernel
theorem dL_law_528 : decode cL_law 528 = .ok (.iconst 0, 1) := by decide +kernel
theorem dL_law_529 : decode cL_law 529 = .ok (.ireturn, 1) := by decide +kernel
theorem dL_law_530 : decode cL_law 530 = .ok (.aload_n 1, 1) := by decide +kernel
theorem dL_law_531 : decode cL_law 531 = .ok (.aload_n 0, 1) := by decide +kernel
theorem dL_law_532 : decode cL_law 532 = .ok (.iload_n 3, 1) := by decide +kernel
theorem dL_law_533 : decode cL_law 533 = .ok (.iconst 1, 1) := by decide +kernel
theorem dL_law_534 : decode cL_law 534 = .ok (.iadd, 1) := by decide +kernel
theorem dL_law_535 : decode cL_law 535 = .ok (.iaload, 1) := by decide +kernel
theorem dL_law_536 : decode cL_law 536 = .ok (.invokevirtual 57, 3) := by decide +kernel
theorem dL_law_539 : decode cL_law 539 = .ok (.aload_n 2, 1) := by decide +kernel
theorem dL_law_540 : decode cL_law 540 = .ok (.aload_n 0, 1) := by decide +kernel
theorem dL_law_541 : decode cL_law 541 = .ok (.iload_n 3, 1) := by decide +kernel
theorem dL_law_542 : decode cL_law 542 = .ok (.iconst 1, 1) := by decide +kernel
theorem dL_law_543 : decode cL_law 543 = .ok (.iadd, 1) := by decide +kernel
theorem dL_law_544 : decode cL_law 544 = .ok (.iaload, 1) := by decide +kernel
theorem dL_law_545 : decode cL_law 545 = .ok (.invokevirtual 60, 3) := by decide +kernel
theorem dL_law_548 : decode cL_law 548 = .ok (.if_icmp .eq 466, 3) := by decide +kernel
theorem dL_law_551 : decode cL_law 551 = .ok (.iconst 0, 1) := by decide +kernel
theorem dL_law_552 : decode cL_law 552 = .ok (.ireturn, 1) := by decide +kernel
theorem dL_law_553 : decode cL_law 553 = .ok (.aload_n 1, 1) := by decide +kernel
theorem dL_law_554 : decode cL_law 554 = .ok (.aload_n 0, 1) := by decide +kernel
theorem dL_law_555 : decode cL_law 555 = .ok (.iload_n 3, 1) := by decide +kernel
theorem dL_law_556 : decode cL_law 556 = .ok (.iconst 1, 1) := by decide +kernel
theorem dL_law_557 : decode cL_law 557 = .ok (.iadd, 1) := by decide +kernel
theorem dL_law_558 : decode cL_law 558 = .ok (.iaload, 1) := by decide +kernel
theorem dL_law_559 : decode cL_law 559 = .ok (.invokevirtual 61, 3) := by decide +kernel
theorem dL_law_562 : decode cL_law 562 = .ok (.aload_n 2, 1) := by decide +kernel
theorem dL_law_563 : decode cL_law 563 = .ok (.aload_n 0, 1) := by decide +kernel
theorem dL_law_564 : decode cL_law 564 = .ok (.iload_n 3, 1) := by decide +kernel
theorem dL_law_565 : decode cL_law 565 = .ok (.iconst 1, 1) := by decide +kernel
theorem dL_law_566 : decode cL_law 566 = .ok (.iadd, 1) := by decide +kernel
theorem dL_law_567 : decode cL_law 567 = .ok (.iaload, 1) := by decide +kernel
theorem dL_law_568 : decode cL_law 568 = .ok (.invokevirtual 64, 3) := by decide +kernel
theorem dL_law_571 : decode cL_law 571 = .ok (.if_icmp .eq 443, 3) := by decide +kernel
theorem dL_law_574 : decode cL_law 574 = .ok (.iconst 0, 1) := by decide +kernel
theorem dL_law_575 : decode cL_law 575 = .ok (.ireturn, 1) := by decide +kernel
theorem dL_law_576 : decode cL_law 576 = .ok (.aload_n 1, 1) := by decide +kernel
theorem dL_law_577 : decode cL_law 577 = .ok (.invokevirtual 65, 3) := by decide +kernel
theorem dL_law_580 : decode cL_law 580 = .ok (.aload_n 2, 1) := by decide +kernel
theorem dL_law_581 : decode cL_law 581 = .ok (.invokevirtual 69, 3) := by decide +kernel
theorem dL_law_584 : decode cL_law 584 = .ok (.if_icmp .eq 430, 3) := by decide +kernel
theorem dL_law_587 : decode cL_law 587 = .ok (.iconst 0, 1) := by decide +kernel
theorem dL_law_588 : decode cL_law 588 = .ok (.ireturn, 1) := by decide +kernel
theorem dL_law_589 : decode cL_law 589 = .ok (.aload_n 1, 1) := by decide +kernel
theorem dL_law_590 : decode cL_law 590 = .ok (.aload_n 0, 1) := by decide +kernel
theorem dL_law_591 : decode cL_law 591 = .ok (.iload_n 3, 1) := by decide +kernel
theorem dL_law_592 : decode cL_law 592 = .ok (.iconst 1, 1) := by decide +kernel
theorem dL_law_593 : decode cL_law 593 = .ok (.iadd, 1) := by decide +kernel
theorem dL_law_594 : decode cL_law 594 = .ok (.iaload, 1) := by decide +kernel
theorem dL_law_595 : decode cL_law 595 = .ok (.aload_n 0, 1) := by decide +kernel
theorem dL_law_596 : decode cL_law 596 = .ok (.iload_n 3, 1) := by decide +kernel
theorem dL_law_597 : decode cL_law 597 = .ok (.iconst 2, 1) := by decide +kernel
theorem dL_law_598 : decode cL_law 598 = .ok (.iadd, 1) := by decide +kernel
theorem dL_law_599 : decode cL_law 599 = .ok (.iaload, 1) := by decide +kernel
theorem dL_law_600 : decode cL_law 600 = .ok (.aload_n 0, 1) := by decide +kernel
theorem dL_law_601 : decode cL_law 601 = .ok (.iload_n 3, 1) := by decide +kernel
theorem dL_law_602 : decode cL_law 602 = .ok (.iconst 3, 1) := by decide +kernel
theorem dL_law_603 : decode cL_law 603 = .ok (.iadd, 1) := by decide +kernel
theorem dL_law_604 : decode cL_law 604 = .ok (.iaload, 1) := by decide +kernel
theorem dL_law_605 : decode cL_law 605 = .ok (.invokevirtual 70, 3) := by decide +kernel
theorem dL_law_608 : decode cL_law 608 = .ok (.aload_n 2, 1) := by decide +kernel
theorem dL_law_609 : decode cL_law 609 = .ok (.aload_n 0, 1) := by decide +kernel
theorem dL_law_610 : decode cL_law 610 = .ok (.iload_n 3, 1) := by decide +kernel
theorem dL_law_611 : decode cL_law 611 = .ok (.iconst 1, 1) := by decide +kernel
theorem dL_law_612 : decode cL_law 612 = .ok (.iadd, 1) := by decide +kernel
theorem dL_law_613 : decode cL_law 613 = .ok (.iaload, 1) := by decide +kernel
theorem dL_law_614 : decode cL_law 614 = .ok (.aload_n 0, 1) := by decide +kernel
theorem dL_law_615 : decode cL_law 615 = .ok (.iload_n 3, 1) := by decide +kernel
theorem dL_law_616 : decode cL_law 616 = .ok (.iconst 2, 1) := by decide +kernel
theorem dL_law_617 : decode cL_law 617 = .ok (.iadd, 1) := by decide +kernel
theorem dL_law_618 : decode cL_law 618 = .ok (.iaload, 1) := by decide +kernel
theorem dL_law_619 : decode cL_law 619 = .ok (.aload_n 0, 1) := by decide +kernel
theorem dL_law_620 : decode cL_law 620 = .ok (.iload_n 3, 1) := by decide +kernel
theorem dL_law_621 : decode cL_law 621 = .ok (.iconst 3, 1) := by decide +kernel
theorem dL_law_622 : decode cL_law 622 = .ok (.iadd, 1) := by decide +kernel
theorem dL_law_623 : decode cL_law 623 = .ok (.iaload, 1) := by decide +kernel
theorem dL_law_624 : decode cL_law 624 = .ok (.invokevirtual 73, 3) := by decide +kernel
theorem dL_law_627 : decode cL_law 627 = .ok (.if_icmp .eq 387, 3) := by decide +kernel
theorem dL_law_630 : decode cL_law 630 = .ok (.iconst 0, 1) := by decide +kernel
theorem dL_law_631 : decode cL_law 631 = .ok (.ireturn, 1) := by decide +kernel
theorem dL_law_632 : decode cL_law 632 = .ok (.aload_n 1, 1) := by decide +kernel
theorem dL_law_633 : decode cL_law 633 = .ok (.aload_n 0, 1) := by decide +kernel
theorem dL_law_634 : decode cL_law 634 = .ok (.iload_n 3, 1) := by decide +kernel
theorem dL_law_635 : decode cL_law 635 = .ok (.iconst 1, 1) := by decide +kernel
theorem dL_law_636 : decode cL_law 636 = .ok (.iadd, 1) := by decide +kernel
theorem dL_law_637 : decode cL_law 637 = .ok (.iaload, 1) := by decide +kernel
theorem dL_law_638 : decode cL_law 638 = .ok (.aload_n 0, 1) := by decide +kernel
theorem dL_law_639 : decode cL_law 639 = .ok (.iload_n 3, 1) := by decide +kernel
theorem dL_law_640 : decode cL_law 640 = .ok (.iconst 2, 1) := by decide +kernel
theorem dL_law_641 : decode cL_law 641 = .ok (.iadd, 1) := by decide +kernel
theorem dL_law_642 : decode cL_law 642 = .ok (.iaload, 1) := by decide +kernel
theorem dL_law_643 : decode cL_law 643 = .ok (.invokevirtual 74, 3) := by decide +kernel
theorem dL_law_646 : decode cL_law 646 = .ok (.aload_n 2, 1) := by decide +kernel
theorem dL_law_647 : decode cL_law 647 = .ok (.aload_n 0, 1) := by decide +kernel
theorem dL_law_648 : decode cL_law 648 = .ok (.iload_n 3, 1) := by decide +kernel
theorem dL_law_649 : decode cL_law 649 = .ok (.iconst 1, 1) := by decide +kernel
theorem dL_law_650 : decode cL_law 650 = .ok (.iadd, 1) := by decide +kernel
theorem dL_law_651 : decode cL_law 651 = .ok (.iaload, 1) := by decide +kernel
theorem dL_law_652 : decode cL_law 652 = .ok (.aload_n 0, 1) := by decide +kernel
theorem dL_law_653 : decode cL_law 653 = .ok (.iload_n 3, 1) := by decide +kernel
theorem dL_law_654 : decode cL_law 654 = .ok (.iconst 2, 1) := by decide +kernel
theorem dL_law_655 : decode cL_law 655 = .ok (.iadd, 1) := by decide +kernel
theorem dL_law_656 : decode cL_law 656 = .ok (.iaload, 1) := by decide +kernel
theorem dL_law_657 : decode cL_law 657 = .ok (.invokevirtual 77, 3) := by decide +kernel
theorem dL_law_660 : decode cL_law 660 = .ok (.if_icmp .eq 354, 3) := by decide +kernel
theorem dL_law_663 : decode cL_law 663 = .ok (.iconst 0, 1) := by decide +kernel
theorem dL_law_664 : decode cL_law 664 = .ok (.ireturn, 1) := by decide +kernel
theorem dL_law_665 : decode cL_law 665 = .ok (.aload_n 1, 1) := by decide +kernel
theorem dL_law_666 : decode cL_law 666 = .ok (.aload_n 0, 1) := by decide +kernel
theorem dL_law_667 : decode cL_law 667 = .ok (.iload_n 3, 1) := by decide +kernel
theorem dL_law_668 : decode cL_law 668 = .ok (.iconst 1, 1) := by decide +kernel
theorem dL_law_669 : decode cL_law 669 = .ok (.iadd, 1) := by decide +kernel
theorem dL_law_670 : decode cL_law 670 = .ok (.iaload, 1) := by decide +kernel
theorem dL_law_671 : decode cL_law 671 = .ok (.aload_n 0, 1) := by decide +kernel
theorem dL_law_672 : decode cL_law 672 = .ok (.iload_n 3, 1) := by decide +kernel
theorem dL_law_673 : decode cL_law 673 = .ok (.iconst 2, 1) := by decide +kernel
theorem dL_law_674 : decode cL_law 674 = .ok (.iadd, 1) := by decide +kernel
theorem dL_law_675 : decode cL_law 675 = .ok (.iaload, 1) := by decide +kernel
theorem dL_law_676 : decode cL_law 676 = .ok (.invokevirtual 78, 3) := by decide +kernel
theorem dL_law_679 : decode cL_law 679 = .ok (.aload_n 2, 1) := by decide +kernel
theorem dL_law_680 : decode cL_law 680 = .ok (.aload_n 0, 1) := by decide +kernel
theorem dL_law_681 : decode cL_law 681 = .ok (.iload_n 3, 1) := by decide +kernel
theorem dL_law_682 : decode cL_law 682 = .ok (.iconst 1, 1) := by decide +kernel
theorem dL_law_683 : decode cL_law 683 = .ok (.iadd, 1) := by decide +kernel
theorem dL_law_684 : decode cL_law 684 = .ok (.iaload, 1) := by decide +kernel
theorem dL_law_685 : decode cL_law 685 = .ok (.aload_n 0, 1) := by decide +kernel
theorem dL_law_686 : decode cL_law 686 = .ok (.iload_n 3, 1) := by decide +kernel
theorem dL_law_687 : decode cL_law 687 = .ok (.iconst 2, 1) := by decide +kernel
theorem dL_law_688 : decode cL_law 688 = .ok (.iadd, 1) := by decide +kernel
theorem dL_law_689 : decode cL_law 689 = .ok (.iaload, 1) := by decide +kernel
theorem dL_law_690 : decode cL_law 690 = .ok (.invokevirtual 81, 3) := by decide +kernel
theorem dL_law_693 : decode cL_law 693 = .ok (.if_icmp .eq 321, 3) := by decide +kernel
theorem dL_law_696 : decode cL_law 696 = .ok (.iconst 0, 1) := by decide +kernel
theorem dL_law_697 : decode cL_law 697 = .ok (.ireturn, 1) := by decide +kernel
theorem dL_law_698 : decode cL_law 698 = .ok (.aload_n 1, 1) := by decide +kernel
theorem dL_law_699 : decode cL_law 699 = .ok (.aload_n 0, 1) := by decide +kernel
theorem dL_law_700 : decode cL_law 700 = .ok (.iload_n 3, 1) := by decide +kernel
theorem dL_law_701 : decode cL_law 701 = .ok (.iconst 1, 1) := by decide +kernel
theorem dL_law_702 : decode cL_law 702 = .ok (.iadd, 1) := by decide +kernel
theorem dL_law_703 : decode cL_law 703 = .ok (.iaload, 1) := by decide +kernel
theorem dL_law_704 : decode cL_law 704 = .ok (.aload_n 0, 1) := by decide +kernel
theorem dL_law_705 : decode cL_law 705 = .ok (.iload_n 3, 1) := by decide +kernel
theorem dL_law_706 : decode cL_law 706 = .ok (.iconst 2, 1) := by decide +kernel
theorem dL_law_707 : decode cL_law 707 = .ok (.iadd, 1) := by decide +kernel
theorem dL_law_708 : decode cL_law 708 = .ok (.iaload, 1) := by decide +kernel
theorem dL_law_709 : decode cL_law 709 = .ok (.invokevirtual 82, 3) := by decide +kernel
theorem dL_law_712 : decode cL_law 712 = .ok (.aload_n 2, 1) := by decide +kernel
theorem dL_law_713 : decode cL_law 713 = .ok (.aload_n 0, 1) := by decide +kernel
theorem dL_law_714 : decode cL_law 714 = .ok (.iload_n 3, 1) := by decide +kernel
theorem dL_law_715 : decode cL_law 715 = .ok (.iconst 1, 1) := by decide +kernel
theorem dL_law_716 : decode cL_law 716 = .ok (.iadd, 1) := by decide +kernel
theorem dL_law_717 : decode cL_law 717 = .ok (.iaload, 1) := by decide +kernel
theorem dL_law_718 : decode cL_law 718 = .ok (.aload_n 0, 1) := by decide +kernel
theorem dL_law_719 : decode cL_law 719 = .ok (.iload_n 3, 1) := by decide +kernel
theorem dL_law_720 : decode cL_law 720 = .ok (.iconst 2, 1) := by decide +kernel
theorem dL_law_721 : decode cL_law 721 = .ok (.iadd, 1) := by decide +kernel
theorem dL_law_722 : decode cL_law 722 = .ok (.iaload, 1) := by decide +kernel
theorem dL_law_723 : decode cL_law 723 = .ok (.invokevirtual 85, 3) := by decide +kernel
theorem dL_law_726 : decode cL_law 726 = .ok (.if_icmp .eq 288, 3) := by decide +kernel
theorem dL_law_729 : decode cL_law 729 = .ok (.iconst 0, 1) := by decide +kernel
theorem dL_law_730 : decode cL_law 730 = .ok (.ireturn, 1) := by decide +kernel
theorem dL_law_731 : decode cL_law 731 = .ok (.aload_n 1, 1) := by decide +kernel
theorem dL_law_732 : decode cL_law 732 = .ok (.aload_n 0, 1) := by decide +kernel
theorem dL_law_733 : decode cL_law 733 = .ok (.iload_n 3, 1) := by decide +kernel
theorem dL_law_734 : decode cL_law 734 = .ok (.iconst 1, 1) := by decide +kernel
theorem dL_law_735 : decode cL_law 735 = .ok (.iadd, 1) := by decide +kernel
theorem dL_law_736 : decode cL_law 736 = .ok (.iaload, 1) := by decide +kernel
theorem dL_law_737 : decode cL_law 737 = .ok (.aload_n 0, 1) := by decide +kernel
theorem dL_law_738 : decode cL_law 738 = .ok (.iload_n 3, 1) := by decide +kernel
theorem dL_law_739 : decode cL_law 739 = .ok (.iconst 2, 1) := by decide +kernel
theorem dL_law_740 : decode cL_law 740 = .ok (.iadd, 1) := by decide +kernel
theorem dL_law_741 : decode cL_law 741 = .ok (.iaload, 1) := by decide +kernel
theorem dL_law_742 : decode cL_law 742 = .ok (.invokevirtual 86, 3) := by decide +kernel
theorem dL_law_745 : decode cL_law 745 = .ok (.aload_n 2, 1) := by decide +kernel
theorem dL_law_746 : decode cL_law 746 = .ok (.aload_n 0, 1) := by decide +kernel
theorem dL_law_747 : decode cL_law 747 = .ok (.iload_n 3, 1) := by decide +kernel
theorem dL_law_748 : decode cL_law 748 = .ok (.iconst 1, 1) := by decide +kernel
theorem dL_law_749 : decode cL_law 749 = .ok (.iadd, 1) := by decide +kernel
theorem dL_law_750 : decode cL_law 750 = .ok (.iaload, 1) := by decide +kernel
theorem dL_law_751 : decode cL_law 751 = .ok (.aload_n 0, 1) := by decide +kernel
theorem dL_law_752 : decode cL_law 752 = .ok (.iload_n 3, 1) := by decide +kernel
theorem dL_law_753 : decode cL_law 753 = .ok (.iconst 2, 1) := by decide +kernel
theorem dL_law_754 : decode cL_law 754 = .ok (.iadd, 1) := by decide +kernel
theorem dL_law_755 : decode cL_law 755 = .ok (.iaload, 1) := by decide +kernel
theorem dL_law_756 : decode cL_law 756 = .ok (.invokevirtual 89, 3) := by decide +kernel
theorem dL_law_759 : decode cL_law 759 = .ok (.if_icmp .eq 255, 3) := by decide +kernel
theorem dL_law_762 : decode cL_law 762 = .ok (.iconst 0, 1) := by decide +kernel
theorem dL_law_763 : decode cL_law 763 = .ok (.ireturn, 1) := by decide +kernel
theorem dL_law_764 : decode cL_law 764 = .ok (.aload_n 1, 1) := by decide +kernel
theorem dL_law_765 : decode cL_law 765 = .ok (.aload_n 0, 1) := by decide +kernel
theorem dL_law_766 : decode cL_law 766 = .ok (.iload_n 3, 1) := by decide +kernel
theorem dL_law_767 : decode cL_law 767 = .ok (.iconst 1, 1) := by decide +kernel
theorem dL_law_768 : decode cL_law 768 = .ok (.iadd, 1) := by decide +kernel
theorem dL_law_769 : decode cL_law 769 = .ok (.iaload, 1) := by decide +kernel
theorem dL_law_770 : decode cL_law 770 = .ok (.invokevirtual 90, 3) := by decide +kernel
theorem dL_law_773 : decode cL_law 773 = .ok (.aload_n 2, 1) := by decide +kernel
theorem dL_law_774 : decode cL_law 774 = .ok (.aload_n 0, 1) := by decide +kernel
theorem dL_law_775 : decode cL_law 775 = .ok (.iload_n 3, 1) := by decide +kernel
theorem dL_law_776 : decode cL_law 776 = .ok (.iconst 1, 1) := by decide +kernel
theorem dL_law_777 : decode cL_law 777 = .ok (.iadd, 1) := by decide +kernel
theorem dL_law_778 : decode cL_law 778 = .ok (.iaload, 1) := by decide +kernel
theorem dL_law_779 : decode cL_law 779 = .ok (.invokevirtual 93, 3) := by decide +kernel
theorem dL_law_782 : decode cL_law 782 = .ok (.if_icmp .eq 232, 3) := by decide +kernel
theorem dL_law_785 : decode cL_law 785 = .ok (.iconst 0, 1) := by decide +kernel
theorem dL_law_786 : decode cL_law 786 = .ok (.ireturn, 1) := by decide +kernel
theorem dL_law_787 : decode cL_law 787 = .ok (.aload_n 1, 1) := by decide +kernel
theorem dL_law_788 : decode cL_law 788 = .ok (.aload_n 0, 1) := by decide +kernel
theorem dL_law_789 : decode cL_law 789 = .ok (.iload_n 3, 1) := by decide +kernel
theorem dL_law_790 : decode cL_law 790 = .ok (.iconst 1, 1) := by decide +kernel
theorem dL_law_791 : decode cL_law 791 = .ok (.iadd, 1) := by decide +kernel
theorem dL_law_792 : decode cL_law 792 = .ok (.iaload, 1) := by decide +kernel
theorem dL_law_793 : decode cL_law 793 = .ok (.aload_n 0, 1) := by decide +kernel
theorem dL_law_794 : decode cL_law 794 = .ok (.iload_n 3, 1) := by decide +kernel
theorem dL_law_795 : decode cL_law 795 = .ok (.iconst 2, 1) := by decide +kernel
theorem dL_law_796 : decode cL_law 796 = .ok (.iadd, 1) := by decide +kernel
theorem dL_law_797 : decode cL_law 797 = .ok (.iaload, 1) := by decide +kernel
theorem dL_law_798 : decode cL_law 798 = .ok (.invokevirtual 94, 3) := by decide +kernel
theorem dL_law_801 : decode cL_law 801 = .ok (.aload_n 2, 1) := by decide +kernel
theorem dL_law_802 : decode cL_law 802 = .ok (.aload_n 0, 1) := by decide +kernel
theorem dL_law_803 : decode cL_law 803 = .ok (.iload_n 3, 1) := by decide +kernel
theorem dL_law_804 : decode cL_law 804 = .ok (.iconst 1, 1) := by decide +kernel
theorem dL_law_805 : decode cL_law 805 = .ok (.iadd, 1) := by decide +kernel
theorem dL_law_806 : decode cL_law 806 = .ok (.iaload, 1) := by decide +kernel
theorem dL_law_807 : decode cL_law 807 = .ok (.aload_n 0, 1) := by decide +kernel
theorem dL_law_808 : decode cL_law 808 = .ok (.iload_n 3, 1) := by decide +kernel
theorem dL_law_809 : decode cL_law 809 = .ok (.iconst 2, 1) := by decide +kernel
theorem dL_law_810 : decode cL_law 810 = .ok (.iadd, 1) := by decide +kernel
theorem dL_law_811 : decode cL_law 811 = .ok (.iaload, 1) := by decide +kernel
theorem dL_law_812 : decode cL_law 812 = .ok (.invokevirtual 97, 3) := by decide +kernel
theorem dL_law_815 : decode cL_law 815 = .ok (.if_icmp .eq 199, 3) := by decide +kernel
theorem dL_law_818 : decode cL_law 818 = .ok (.iconst 0, 1) := by decide +kernel
theorem dL_law_819 : decode cL_law 819 = .ok (.ireturn, 1) := by decide +kernel
theorem dL_law_820 : decode cL_law 820 = .ok (.aload_n 1, 1) := by decide +kernel
theorem dL_law_821 : decode cL_law 821 = .ok (.invokevirtual 98, 3) := by decide +kernel
theorem dL_law_824 : decode cL_law 824 = .ok (.aload_n 2, 1) := by decide +kernel
theorem dL_law_825 : decode cL_law 825 = .ok (.invokevirtual 101, 3) := by decide +kernel
theorem dL_law_828 : decode cL_law 828 = .ok (.if_icmp .eq 186, 3) := by decide +kernel
theorem dL_law_831 : decode cL_law 831 = .ok (.iconst 0, 1) := by decide +kernel
theorem dL_law_832 : decode cL_law 832 = .ok (.ireturn, 1) := by decide +kernel
theorem dL_law_833 : decode cL_law 833 = .ok (.aload_n 1, 1) := by decide +kernel
theorem dL_law_834 : decode cL_law 834 = .ok (.aload_n 0, 1) := by decide +kernel
theorem dL_law_835 : decode cL_law 835 = .ok (.iload_n 3, 1) := by decide +kernel
theorem dL_law_836 : decode cL_law 836 = .ok (.iconst 1, 1) := by decide +kernel
theorem dL_law_837 : decode cL_law 837 = .ok (.iadd, 1) := by decide +kernel
theorem dL_law_838 : decode cL_law 838 = .ok (.iaload, 1) := by decide +kernel
theorem dL_law_839 : decode cL_law 839 = .ok (.aload_n 0, 1) := by decide +kernel
theorem dL_law_840 : decode cL_law 840 = .ok (.iload_n 3, 1) := by decide +kernel
theorem dL_law_841 : decode cL_law 841 = .ok (.iconst 2, 1) := by decide +kernel
theorem dL_law_842 : decode cL_law 842 = .ok (.iadd, 1) := by decide +kernel
theorem dL_law_843 : decode cL_law 843 = .ok (.iaload, 1) := by decide +kernel
theorem dL_law_844 : decode cL_law 844 = .ok (.invokevirtual 102, 3) := by decide +kernel
theorem dL_law_847 : decode cL_law 847 = .ok (.aload_n 2, 1) := by decide +kernel
theorem dL_law_848 : decode cL_law 848 = .ok (.aload_n 0, 1) := by decide +kernel
theorem dL_law_849 : decode cL_law 849 = .ok (.iload_n 3, 1) := by decide +kernel
theorem dL_law_850 : decode cL_law 850 = .ok (.iconst 1, 1) := by decide +kernel
theorem dL_law_851 : decode cL_law 851 = .ok (.iadd, 1) := by decide +kernel
theorem dL_law_852 : decode cL_law 852 = .ok (.iaload, 1) := by decide +kernel
theorem dL_law_853 : decode cL_law 853 = .ok (.aload_n 0, 1) := by decide +kernel
theorem dL_law_854 : decode cL_law 854 = .ok (.iload_n 3, 1) := by decide +kernel
theorem dL_law_855 : decode cL_law 855 = .ok (.iconst 2, 1) := by decide +kernel
theorem dL_law_856 : decode cL_law 856 = .ok (.iadd, 1) := by decide +kernel
theorem dL_law_857 : decode cL_law 857 = .ok (.iaload, 1) := by decide +kernel
theorem dL_law_858 : decode cL_law 858 = .ok (.invokevirtual 105, 3) := by decide +kernel
theorem dL_law_861 : decode cL_law 861 = .ok (.if_icmp .eq 153, 3) := by decide +kernel
theorem dL_law_864 : decode cL_law 864 = .ok (.iconst 0, 1) := by decide +kernel
theorem dL_law_865 : decode cL_law 865 = .ok (.ireturn, 1) := by decide +kernel
theorem dL_law_866 : decode cL_law 866 = .ok (.aload_n 1, 1) := by decide +kernel
theorem dL_law_867 : decode cL_law 867 = .ok (.aload_n 0, 1) := by decide +kernel
theorem dL_law_868 : decode cL_law 868 = .ok (.iload_n 3, 1) := by decide +kernel
theorem dL_law_869 : decode cL_law 869 = .ok (.iconst 1, 1) := by decide +kernel
theorem dL_law_870 : decode cL_law 870 = .ok (.iadd, 1) := by decide +kernel
theorem dL_law_871 : decode cL_law 871 = .ok (.iaload, 1) := by decide +kernel
theorem dL_law_872 : decode cL_law 872 = .ok (.aload_n 0, 1) := by decide +kernel
theorem dL_law_873 : decode cL_law 873 = .ok (.iload_n 3, 1) := by decide +kernel
theorem dL_law_874 : decode cL_law 874 = .ok (.iconst 2, 1) := by decide +kernel
theorem dL_law_875 : decode cL_law 875 = .ok (.iadd, 1) := by decide +kernel
theorem dL_law_876 : decode cL_law 876 = .ok (.iaload, 1) := by decide +kernel
theorem dL_law_877 : decode cL_law 877 = .ok (.invokevirtual 106, 3) := by decide +kernel
theorem dL_law_880 : decode cL_law 880 = .ok (.aload_n 2, 1) := by decide +kernel
theorem dL_law_881 : decode cL_law 881 = .ok (.aload_n 0, 1) := by decide +kernel
theorem dL_law_882 : decode cL_law 882 = .ok (.iload_n 3, 1) := by decide +kernel
theorem dL_law_883 : decode cL_law 883 = .ok (.iconst 1, 1) := by decide +kernel
theorem dL_law_884 : decode cL_law 884 = .ok (.iadd, 1) := by decide +kernel
theorem dL_law_885 : decode cL_law 885 = .ok (.iaload, 1) := by decide +kernel
theorem dL_law_886 : decode cL_law 886 = .ok (.aload_n 0, 1) := by decide +kernel
theorem dL_law_887 : decode cL_law 887 = .ok (.iload_n 3, 1) := by decide +kernel
theorem dL_law_888 : decode cL_law 888 = .ok (.iconst 2, 1) := by decide +kernel
theorem dL_law_889 : decode cL_law 889 = .ok (.iadd, 1) := by decide +kernel
theorem dL_law_890 : decode cL_law 890 = .ok (.iaload, 1) := by decide +kernel
theorem dL_law_891 : decode cL_law 891 = .ok (.invokevirtual 109, 3) := by decide +kernel
theorem dL_law_894 : decode cL_law 894 = .ok (.if_icmp .eq 120, 3) := by decide +kernel
theorem dL_law_897 : decode cL_law 897 = .ok (.iconst 0, 1) := by decide +kernel
theorem dL_law_898 : decode cL_law 898 = .ok (.ireturn, 1) := by decide +kernel
theorem dL_law_899 : decode cL_law 899 = .ok (.aload_n 1, 1) := by decide +kernel
theorem dL_law_900 : decode cL_law 900 = .ok (.aload_n 0, 1) := by decide +kernel
theorem dL_law_901 : decode cL_law 901 = .ok (.iload_n 3, 1) := by decide +kernel
theorem dL_law_902 : decode cL_law 902 = .ok (.iconst 1, 1) := by decide +kernel
theorem dL_law_903 : decode cL_law 903 = .ok (.iadd, 1) := by decide +kernel
theorem dL_law_904 : decode cL_law 904 = .ok (.iaload, 1) := by decide +kernel
theorem dL_law_905 : decode cL_law 905 = .ok (.aload_n 0, 1) := by decide +kernel
theorem dL_law_906 : decode cL_law 906 = .ok (.iload_n 3, 1) := by decide +kernel
theorem dL_law_907 : decode cL_law 907 = .ok (.iconst 2, 1) := by decide +kernel
theorem dL_law_908 : decode cL_law 908 = .ok (.iadd, 1) := by decide +kernel
theorem dL_law_909 : decode cL_law 909 = .ok (.iaload, 1) := by decide +kernel
theorem dL_law_910 : decode cL_law 910 = .ok (.invokevirtual 110, 3) := by decide +kernel
theorem dL_law_913 : decode cL_law 913 = .ok (.aload_n 2, 1) := by decide +kernel
theorem dL_law_914 : decode cL_law 914 = .ok (.aload_n 0, 1) := by decide +kernel
theorem dL_law_915 : decode cL_law 915 = .ok (.iload_n 3, 1) := by decide +kernel
theorem dL_law_916 : decode cL_law 916 = .ok (.iconst 1, 1) := by decide +kernel
theorem dL_law_917 : decode cL_law 917 = .ok (.iadd, 1) := by decide +kernel
theorem dL_law_918 : decode cL_law 918 = .ok (.iaload, 1) := by decide +kernel
theorem dL_law_919 : decode cL_law 919 = .ok (.aload_n 0, 1) := by decide +kernel
theorem dL_law_920 : decode cL_law 920 = .ok (.iload_n 3, 1) := by decide +kernel
theorem dL_law_921 : decode cL_law 921 = .ok (.iconst 2, 1) := by decide +kernel
theorem dL_law_922 : decode cL_law 922 = .ok (.iadd, 1) := by decide +kernel
theorem dL_law_923 : decode cL_law 923 = .ok (.iaload, 1) := by decide +kernel
theorem dL_law_924 : decode cL_law 924 = .ok (.invokevirtual 113, 3) := by decide +kernel
theorem dL_law_927 : decode cL_law 927 = .ok (.if_icmp .eq 87, 3) := by decide +kernel
theorem dL_law_930 : decode cL_law 930 = .ok (.iconst 0, 1) := by decide +kernel
theorem dL_law_931 : decode cL_law 931 = .ok (.ireturn, 1) := by decide +kernel
theorem dL_law_932 : decode cL_law 932 = .ok (.aload_n 1, 1) := by decide +kernel
theorem dL_law_933 : decode cL_law 933 = .ok (.aload_n 0, 1) := by decide +kernel
theorem dL_law_934 : decode cL_law 934 = .ok (.iload_n 3, 1) := by decide +kernel
theorem dL_law_935 : decode cL_law 935 = .ok (.iconst 1, 1) := by decide +kernel
theorem dL_law_936 : decode cL_law 936 = .ok (.iadd, 1) := by decide +kernel
theorem dL_law_937 : decode cL_law 937 = .ok (.iaload, 1) := by decide +kernel
theorem dL_law_938 : decode cL_law 938 = .ok (.invokevirtual 114, 3) := by decide +kernel
theorem dL_law_941 : decode cL_law 941 = .ok (.aload_n 2, 1) := by decide +kernel
theorem dL_law_942 : decode cL_law 942 = .ok (.aload_n 0, 1) := by decide +kernel
theorem dL_law_943 : decode cL_law 943 = .ok (.iload_n 3, 1) := by decide +kernel
theorem dL_law_944 : decode cL_law 944 = .ok (.iconst 1, 1) := by decide +kernel
theorem dL_law_945 : decode cL_law 945 = .ok (.iadd, 1) := by decide +kernel
theorem dL_law_946 : decode cL_law 946 = .ok (.iaload, 1) := by decide +kernel
theorem dL_law_947 : decode cL_law 947 = .ok (.invokevirtual 117, 3) := by decide +kernel
theorem dL_law_950 : decode cL_law 950 = .ok (.if_icmp .eq 64, 3) := by decide +kernel
theorem dL_law_953 : decode cL_law 953 = .ok (.iconst 0, 1) := by decide +kernel
theorem dL_law_954 : decode cL_law 954 = .ok (.ireturn, 1) := by decide +kernel
theorem dL_law_955 : decode cL_law 955 = .ok (.aload_n 1, 1) := by decide +kernel
theorem dL_law_956 : decode cL_law 956 = .ok (.aload_n 0, 1) := by decide +kernel
theorem dL_law_957 : decode cL_law 957 = .ok (.iload_n 3, 1) := by decide +kernel
theorem dL_law_958 : decode cL_law 958 = .ok (.iconst 1, 1) := by decide +kernel
theorem dL_law_959 : decode cL_law 959 = .ok (.iadd, 1) := by decide +kernel
theorem dL_law_960 : decode cL_law 960 = .ok (.iaload, 1) := by decide +kernel
theorem dL_law_961 : decode cL_law 961 = .ok (.invokevirtual 118, 3) := by decide +kernel
theorem dL_law_964 : decode cL_law 964 = .ok (.aload_n 2, 1) := by decide +kernel
theorem dL_law_965 : decode cL_law 965 = .ok (.aload_n 0, 1) := by decide +kernel
theorem dL_law_966 : decode cL_law 966 = .ok (.iload_n 3, 1) := by decide +kernel
theorem dL_law_967 : decode cL_law 967 = .ok (.iconst 1, 1) := by decide +kernel
theorem dL_law_968 : decode cL_law 968 = .ok (.iadd, 1) := by decide +kernel
theorem dL_law_969 : decode cL_law 969 = .ok (.iaload, 1) := by decide +kernel
theorem dL_law_970 : decode cL_law 970 = .ok (.invokevirtual 121, 3) := by decide +kernel
theorem dL_law_973 : decode cL_law 973 = .ok (.if_icmp .eq 41, 3) := by decide +kernel
theorem dL_law_976 : decode cL_law 976 = .ok (.iconst 0, 1) := by decide +kernel
theorem dL_law_977 : decode cL_law 977 = .ok (.ireturn, 1) := by decide +kernel
theorem dL_law_978 : decode cL_law 978 = .ok (.aload_n 1, 1) := by decide +kernel
theorem dL_law_979 : decode cL_law 979 = .ok (.aload_n 0, 1) := by decide +kernel
theorem dL_law_980 : decode cL_law 980 = .ok (.iload_n 3, 1) := by decide +kernel
theorem dL_law_981 : decode cL_law 981 = .ok (.iconst 1, 1) := by decide +kernel
theorem dL_law_982 : decode cL_law 982 = .ok (.iadd, 1) := by decide +kernel
theorem dL_law_983 : decode cL_law 983 = .ok (.iaload, 1) := by decide +kernel
theorem dL_law_984 : decode cL_law 984 = .ok (.invokevirtual 122, 3) := by decide +kernel
theorem dL_law_987 : decode cL_law 987 = .ok (.aload_n 2, 1) := by decide +kernel
theorem dL_law_988 : decode cL_law 988 = .ok (.aload_n 0, 1) := by decide +kernel
theorem dL_law_989 : decode cL_law 989 = .ok (.iload_n 3, 1) := by decide +kernel
theorem dL_law_990 : decode cL_law 990 = .ok (.iconst 1, 1) := by decide +kernel
theorem dL_law_991 : decode cL_law 991 = .ok (.iadd, 1) := by decide +kernel
theorem dL_law_992 : decode cL_law 992 = .ok (.iaload, 1) := by decide +kernel
theorem dL_law_993 : decode cL_law 993 = .ok (.invokevirtual 125, 3) := by decide +kernel
theorem dL_law_996 : decode cL_law 996 = .ok (.if_icmp .eq 18, 3) := by decide +kernel
theorem dL_law_999 : decode cL_law 999 = .ok (.iconst 0, 1) := by decide +kernel
theorem dL_law_1000 : decode cL_law 1000 = .ok (.ireturn, 1) := by decide +kernel
theorem dL_law_1001 : decode cL_law 1001 = .ok (.aload_n 1, 1) := by decide +kernel
theorem dL_law_1002 : decode cL_law 1002 = .ok (.invokevirtual 126, 3) := by decide +kernel
theorem dL_law_1005 : decode cL_law 1005 = .ok (.aload_n 2, 1) := by decide +kernel
theorem dL_law_1006 : decode cL_law 1006 = .ok (.invokevirtual 129, 3) := by decide +kernel
theorem dL_law_1009 : decode cL_law 1009 = .ok (.if_icmp .eq 5, 3) := by decide +kernel
theorem dL_law_1012 : decode cL_law 1012 = .ok (.iconst 0, 1) := by decide +kernel
theorem dL_law_1013 : decode cL_law 1013 = .ok (.ireturn, 1) := by decide +kernel
theorem dL_law_1014 : decode cL_law 1014 = .ok (.iinc 3 5, 3) := by decide +kernel
theorem dL_law_1017 : decode cL_law 1017 = .ok (.goto (-999), 3) := by decide +kernel
theorem dL_law_1020 : decode cL_law 1020 = .ok (.iconst 1, 1) := by decide +kernel
theorem dL_law_1021 : decode cL_law 1021 = .ok (.ireturn, 1) := by decide +kernel
end
section
/-! the tables' words that stay under every call: one list for all methods -/
def gtbl : List Cond := lw_tbl.filter goodWord
theorem gt_good {w : Cond} (h : w ∈ gtbl) : goodWord w = true := (List.mem_filter.mp h).2
theorem gt_in {w : Cond} (i : Nat) (h : lw_tbl[i]? = some w) (g : goodWord w = true) : w ∈ gtbl := List.mem_filter.mpr ⟨List.mem_of_getElem? h, g⟩
theorem gt_tbl {w : Cond} (h : w ∈ gtbl) : w ∈ lw_tbl := (List.mem_filter.mp h).1
theorem gt_sub {ws : List Cond} (h : ∀ w ∈ ws, w ∈ gtbl) : GoodIn gtbl ws := fun w hw => ⟨h w hw, good_of_word (gt_good (h w hw))⟩
abbrev wd (y : MethodName) (cc : ByteArray) (n : Nat) (ret : Option FieldType) : List Cond := Cond.code y cc n ret :: gtbl
def LkB (y : MethodName) (cc : ByteArray) (n : Nat) (ret : Option FieldType) (np : Nat) : Prop :=
  Cond.code y cc n ret ∈ gtbl ∧ Cond.initialized y.cls ∈ gtbl ∧ y.cls ≠ "java/lang/invoke/MethodHandle" ∧ y.cls ≠ "java/lang/invoke/VarHandle" ∧ (parseMethodDescriptor y.desc).map (fun d => d.parameters.length) = some np
def LkV (own : String) (idx : Nat) (y : MethodName) (cc : ByteArray) (n : Nat) (ret : Option FieldType) (np : Nat) : Prop :=
  LkB y cc n ret np ∧ Cond.methodLink own idx y ∈ gtbl ∧ Cond.instanceMethod y ∈ gtbl ∧ Cond.selects y.cls y y ∈ gtbl
def LkS (own : String) (idx : Nat) (y : MethodName) (cc : ByteArray) (n : Nat) (ret : Option FieldType) (np : Nat) : Prop :=
  LkB y cc n ret np ∧ Cond.methodLink own idx y ∈ gtbl ∧ Cond.static y ∈ gtbl
def LkI (own : String) (idx : Nat) (y : MethodName) (cc : ByteArray) (n : Nat) (np : Nat) : Prop :=
  LkB y cc n none np ∧ Cond.methodLink own idx y ∈ gtbl ∧ Cond.instanceMethod y ∈ gtbl ∧ y.name = "<init>"
def LkVN (own : String) (idx : Nat) (y : MethodName) (host : String) (cc : ByteArray) (n : Nat) (ret : Option FieldType) (np : Nat) : Prop :=
  LkB y cc n ret np ∧ Cond.methodLinkNest own idx y host ∈ lw_tbl ∧ Cond.instanceMethod y ∈ gtbl ∧ Cond.selects y.cls y y ∈ gtbl
def LkSN (own : String) (idx : Nat) (y : MethodName) (host : String) (cc : ByteArray) (n : Nat) (ret : Option FieldType) (np : Nat) : Prop :=
  LkB y cc n ret np ∧ Cond.methodLinkNest own idx y host ∈ lw_tbl ∧ Cond.static y ∈ gtbl
def LkIN (own : String) (idx : Nat) (y : MethodName) (host : String) (cc : ByteArray) (n : Nat) (np : Nat) : Prop :=
  LkB y cc n none np ∧ Cond.methodLinkNest own idx y host ∈ lw_tbl ∧ Cond.instanceMethod y ∈ gtbl ∧ y.name = "<init>"
theorem wz_L : Cond.initialized RL ∈ gtbl := (gt_in 73 (by decide +kernel) rfl)
theorem wz_X7 : Cond.initialized RX7 ∈ gtbl := (gt_in 74 (by decide +kernel) rfl)
theorem wz_Jxa1e45 : Cond.initialized RJxa1e45 ∈ gtbl := (gt_in 75 (by decide +kernel) rfl)
theorem wz_Jxc12de : Cond.initialized RJxc12de ∈ gtbl := (gt_in 76 (by decide +kernel) rfl)
theorem wz_Jx4a65c : Cond.initialized RJx4a65c ∈ gtbl := (gt_in 77 (by decide +kernel) rfl)
theorem wz_X4 : Cond.initialized RX4 ∈ gtbl := (gt_in 78 (by decide +kernel) rfl)
theorem wz_X6 : Cond.initialized RX6 ∈ gtbl := (gt_in 79 (by decide +kernel) rfl)
theorem wz_X3 : Cond.initialized RX3 ∈ gtbl := (gt_in 80 (by decide +kernel) rfl)
theorem wz_X8 : Cond.initialized RX8 ∈ gtbl := (gt_in 81 (by decide +kernel) rfl)
theorem wz_X5 : Cond.initialized RX5 ∈ gtbl := (gt_in 82 (by decide +kernel) rfl)
theorem wz_J8 : Cond.initialized RJ8 ∈ gtbl := (gt_in 83 (by decide +kernel) rfl)
theorem wz_J9 : Cond.initialized RJ9 ∈ gtbl := (gt_in 84 (by decide +kernel) rfl)
theorem wz_J7 : Cond.initialized RJ7 ∈ gtbl := (gt_in 85 (by decide +kernel) rfl)
theorem wz_J10 : Cond.initialized RJ10 ∈ gtbl := (gt_in 86 (by decide +kernel) rfl)
theorem wz_J15 : Cond.initialized RJ15 ∈ gtbl := (gt_in 87 (by decide +kernel) rfl)
theorem wz_J3 : Cond.initialized RJ3 ∈ gtbl := (gt_in 88 (by decide +kernel) rfl)
theorem wz_X0 : Cond.initialized RX0 ∈ gtbl := (gt_in 89 (by decide +kernel) rfl)
theorem wz_X2 : Cond.initialized RX2 ∈ gtbl := (gt_in 90 (by decide +kernel) rfl)
theorem wz_J6 : Cond.initialized RJ6 ∈ gtbl := (gt_in 91 (by decide +kernel) rfl)
theorem wz_X1 : Cond.initialized RX1 ∈ gtbl := (gt_in 92 (by decide +kernel) rfl)
theorem lb_X7_init : LkB yX7_init cX7_init 2 none 0 := ⟨(gt_in 97 (by decide +kernel) rfl), wz_X7, by decide, by decide, by decide +kernel⟩
theorem lb_Jx4a65c_init_da8c8 : LkB yJx4a65c_init_da8c8 cJx4a65c_init_da8c8 1 none 0 := ⟨(gt_in 109 (by decide +kernel) rfl), wz_Jx4a65c, by decide, by decide, by decide +kernel⟩
theorem lb_Jxc12de_init_da8c8 : LkB yJxc12de_init_da8c8 cJxc12de_init_da8c8 1 none 0 := ⟨(gt_in 112 (by decide +kernel) rfl), wz_Jxc12de, by decide, by decide, by decide +kernel⟩
theorem lb_Jxa1e45_init_da8c8 : LkB yJxa1e45_init_da8c8 cJxa1e45_init_da8c8 1 none 0 := ⟨(gt_in 115 (by decide +kernel) rfl), wz_Jxa1e45, by decide, by decide, by decide +kernel⟩
theorem lb_X4_init : LkB yX4_init cX4_init 1 none 0 := ⟨(gt_in 135 (by decide +kernel) rfl), wz_X4, by decide, by decide, by decide +kernel⟩
theorem lb_X6_init : LkB yX6_init cX6_init 2 none 1 := ⟨(gt_in 171 (by decide +kernel) rfl), wz_X6, by decide, by decide, by decide +kernel⟩
theorem lb_X3_init : LkB yX3_init cX3_init 2 none 1 := ⟨(gt_in 196 (by decide +kernel) rfl), wz_X3, by decide, by decide, by decide +kernel⟩
theorem lb_X7_tick : LkB yX7_tick cX7_tick 2 (some .int) 1 := ⟨(gt_in 267 (by decide +kernel) rfl), wz_X7, by decide, by decide, by decide +kernel⟩
theorem lb_X7_within : LkB yX7_within cX7_within 3 (some .boolean) 3 := ⟨(gt_in 270 (by decide +kernel) rfl), wz_X7, by decide, by decide, by decide +kernel⟩
theorem lb_X7_rule : LkB yX7_rule cX7_rule 6 (some .int) 4 := ⟨(gt_in 275 (by decide +kernel) rfl), wz_X7, by decide, by decide, by decide +kernel⟩
theorem lb_X7_ruleAt : LkB yX7_ruleAt cX7_ruleAt 2 (some (.object "ModeratorsBench$Rule")) 1 := ⟨(gt_in 279 (by decide +kernel) rfl), wz_X7, by decide, by decide, by decide +kernel⟩
theorem lb_X7_ladder : LkB yX7_ladder cX7_ladder 3 (some .int) 2 := ⟨(gt_in 283 (by decide +kernel) rfl), wz_X7, by decide, by decide, by decide +kernel⟩
theorem lb_X7_due : LkB yX7_due cX7_due 4 (some .int) 2 := ⟨(gt_in 287 (by decide +kernel) rfl), wz_X7, by decide, by decide, by decide +kernel⟩
theorem lb_X7_limit : LkB yX7_limit cX7_limit 3 (some .int) 1 := ⟨(gt_in 291 (by decide +kernel) rfl), wz_X7, by decide, by decide, by decide +kernel⟩
theorem lb_X7_post : LkB yX7_post cX7_post 5 (some .int) 3 := ⟨(gt_in 295 (by decide +kernel) rfl), wz_X7, by decide, by decide, by decide +kernel⟩
theorem lb_Jx4a65c_size_8abf5 : LkB yJx4a65c_size_8abf5 cJx4a65c_size_8abf5 1 (some .int) 0 := ⟨(gt_in 299 (by decide +kernel) rfl), wz_Jx4a65c, by decide, by decide, by decide +kernel⟩
theorem lb_X5_init : LkB yX5_init cX5_init 6 none 5 := ⟨(gt_in 304 (by decide +kernel) rfl), wz_X5, by decide, by decide, by decide +kernel⟩
theorem lb_Jx4a65c_add_9ea2d : LkB yJx4a65c_add_9ea2d cJx4a65c_add_9ea2d 2 (some .boolean) 1 := ⟨(gt_in 337 (by decide +kernel) rfl), wz_Jx4a65c, by decide, by decide, by decide +kernel⟩
theorem lb_Jx4a65c_add_72be8 : LkB yJx4a65c_add_72be8 cJx4a65c_add_72be8 4 none 3 := ⟨(gt_in 341 (by decide +kernel) rfl), wz_Jx4a65c, by decide, by decide, by decide +kernel⟩
theorem lb_Jx4a65c_grow_d5877 : LkB yJx4a65c_grow_d5877 cJx4a65c_grow_d5877 1 (some (.array (.object "java/lang/Object"))) 0 := ⟨(gt_in 345 (by decide +kernel) rfl), wz_Jx4a65c, by decide, by decide, by decide +kernel⟩
theorem lb_Jx4a65c_grow_92f84 : LkB yJx4a65c_grow_92f84 cJx4a65c_grow_92f84 4 (some (.array (.object "java/lang/Object"))) 1 := ⟨(gt_in 349 (by decide +kernel) rfl), wz_Jx4a65c, by decide, by decide, by decide +kernel⟩
theorem lb_J8_newLength_cabcc : LkB yJ8_newLength_cabcc cJ8_newLength_cabcc 4 (some .int) 3 := ⟨(gt_in 352 (by decide +kernel) rfl), wz_J8, by decide, by decide, by decide +kernel⟩
theorem lb_J9_max_7cf53 : LkB yJ9_max_7cf53 cJ9_max_7cf53 2 (some .int) 2 := ⟨(gt_in 355 (by decide +kernel) rfl), wz_J9, by decide, by decide, by decide +kernel⟩
theorem lb_J8_hugeLength_7cf53 : LkB yJ8_hugeLength_7cf53 cJ8_hugeLength_7cf53 3 (some .int) 2 := ⟨(gt_in 359 (by decide +kernel) rfl), wz_J8, by decide, by decide, by decide +kernel⟩
theorem lb_J7_copyOf_1904c : LkB yJ7_copyOf_1904c cJ7_copyOf_1904c 2 (some (.array (.object "java/lang/Object"))) 2 := ⟨(gt_in 362 (by decide +kernel) rfl), wz_J7, by decide, by decide, by decide +kernel⟩
theorem lb_J7_copyOf_6403c : LkB yJ7_copyOf_6403c cJ7_copyOf_6403c 4 (some (.array (.object "java/lang/Object"))) 3 := ⟨(gt_in 379 (by decide +kernel) rfl), wz_J7, by decide, by decide, by decide +kernel⟩
theorem lb_J9_min_7cf53 : LkB yJ9_min_7cf53 cJ9_min_7cf53 2 (some .int) 2 := ⟨(gt_in 385 (by decide +kernel) rfl), wz_J9, by decide, by decide, by decide +kernel⟩
theorem lb_X7_complain : LkB yX7_complain cX7_complain 8 (some .int) 2 := ⟨(gt_in 394 (by decide +kernel) rfl), wz_X7, by decide, by decide, by decide +kernel⟩
theorem lb_X7_postAt : LkB yX7_postAt cX7_postAt 2 (some (.object "ModeratorsBench$Post")) 1 := ⟨(gt_in 398 (by decide +kernel) rfl), wz_X7, by decide, by decide, by decide +kernel⟩
theorem lb_Jx4a65c_get_915e3 : LkB yJx4a65c_get_915e3 cJx4a65c_get_915e3 2 (some (.object "java/lang/Object")) 1 := ⟨(gt_in 402 (by decide +kernel) rfl), wz_Jx4a65c, by decide, by decide, by decide +kernel⟩
theorem lb_J15_checkIndex_7cf53 : LkB yJ15_checkIndex_7cf53 cJ15_checkIndex_7cf53 2 (some .int) 2 := ⟨(gt_in 405 (by decide +kernel) rfl), wz_J15, by decide, by decide, by decide +kernel⟩
theorem lb_J3_checkIndex_8e157 : LkB yJ3_checkIndex_8e157 cJ3_checkIndex_8e157 3 (some .int) 3 := ⟨(gt_in 408 (by decide +kernel) rfl), wz_J3, by decide, by decide, by decide +kernel⟩
theorem lb_Jx4a65c_elementData_915e3 : LkB yJx4a65c_elementData_915e3 cJx4a65c_elementData_915e3 2 (some (.object "java/lang/Object")) 1 := ⟨(gt_in 412 (by decide +kernel) rfl), wz_Jx4a65c, by decide, by decide, by decide +kernel⟩
theorem lb_X5_caseUnder : LkB yX5_caseUnder cX5_caseUnder 3 (some (.object "ModeratorsBench$Case")) 1 := ⟨(gt_in 416 (by decide +kernel) rfl), wz_X5, by decide, by decide, by decide +kernel⟩
theorem lb_X0_init : LkB yX0_init cX0_init 5 none 4 := ⟨(gt_in 421 (by decide +kernel) rfl), wz_X0, by decide, by decide, by decide +kernel⟩
theorem lb_X2_init : LkB yX2_init cX2_init 2 none 1 := ⟨(gt_in 427 (by decide +kernel) rfl), wz_X2, by decide, by decide, by decide +kernel⟩
theorem lb_X5_addCase : LkB yX5_addCase cX5_addCase 2 none 1 := ⟨(gt_in 509 (by decide +kernel) rfl), wz_X5, by decide, by decide, by decide +kernel⟩
theorem lb_X7_judge : LkB yX7_judge cX7_judge 6 (some .int) 4 := ⟨(gt_in 513 (by decide +kernel) rfl), wz_X7, by decide, by decide, by decide +kernel⟩
theorem lb_X7_judgeAt : LkB yX7_judgeAt cX7_judgeAt 2 (some (.object "ModeratorsBench$Judge")) 1 := ⟨(gt_in 517 (by decide +kernel) rfl), wz_X7, by decide, by decide, by decide +kernel⟩
theorem lb_X7_kin : LkB yX7_kin cX7_kin 6 (some .int) 3 := ⟨(gt_in 521 (by decide +kernel) rfl), wz_X7, by decide, by decide, by decide +kernel⟩
theorem lb_X3_isKinOf : LkB yX3_isKinOf cX3_isKinOf 2 (some .boolean) 1 := ⟨(gt_in 525 (by decide +kernel) rfl), wz_X3, by decide, by decide, by decide +kernel⟩
theorem lb_X7_asNumber : LkB yX7_asNumber cX7_asNumber 1 (some .int) 1 := ⟨(gt_in 528 (by decide +kernel) rfl), wz_X7, by decide, by decide, by decide +kernel⟩
theorem lb_X3_setKin : LkB yX3_setKin cX3_setKin 3 none 2 := ⟨(gt_in 532 (by decide +kernel) rfl), wz_X3, by decide, by decide, by decide +kernel⟩
theorem lb_X7_rest : LkB yX7_rest cX7_rest 5 (some .int) 2 := ⟨(gt_in 537 (by decide +kernel) rfl), wz_X7, by decide, by decide, by decide +kernel⟩
theorem lb_X7_layToRest : LkB yX7_layToRest cX7_layToRest 3 none 1 := ⟨(gt_in 541 (by decide +kernel) rfl), wz_X7, by decide, by decide, by decide +kernel⟩
theorem lb_X7_takeBack : LkB yX7_takeBack cX7_takeBack 3 none 1 := ⟨(gt_in 546 (by decide +kernel) rfl), wz_X7, by decide, by decide, by decide +kernel⟩
theorem lb_Jx4a65c_remove_915e3 : LkB yJx4a65c_remove_915e3 cJx4a65c_remove_915e3 4 (some (.object "java/lang/Object")) 1 := ⟨(gt_in 550 (by decide +kernel) rfl), wz_Jx4a65c, by decide, by decide, by decide +kernel⟩
theorem lb_Jx4a65c_fastRemove_b59b0 : LkB yJx4a65c_fastRemove_b59b0 cJx4a65c_fastRemove_b59b0 4 none 2 := ⟨(gt_in 554 (by decide +kernel) rfl), wz_Jx4a65c, by decide, by decide, by decide +kernel⟩
theorem lb_X7_next : LkB yX7_next cX7_next 4 (some .int) 1 := ⟨(gt_in 559 (by decide +kernel) rfl), wz_X7, by decide, by decide, by decide +kernel⟩
theorem lb_X7_nextFor : LkB yX7_nextFor cX7_nextFor 7 (some (.object "ModeratorsBench$Case")) 1 := ⟨(gt_in 563 (by decide +kernel) rfl), wz_X7, by decide, by decide, by decide +kernel⟩
theorem lb_X7_mayHave : LkB yX7_mayHave cX7_mayHave 2 (some .boolean) 2 := ⟨(gt_in 566 (by decide +kernel) rfl), wz_X7, by decide, by decide, by decide +kernel⟩
theorem lb_X0_isUndecided : LkB yX0_isUndecided cX0_isUndecided 1 (some .boolean) 0 := ⟨(gt_in 570 (by decide +kernel) rfl), wz_X0, by decide, by decide, by decide +kernel⟩
theorem lb_X0_wantsJudges : LkB yX0_wantsJudges cX0_wantsJudges 1 (some .boolean) 0 := ⟨(gt_in 574 (by decide +kernel) rfl), wz_X0, by decide, by decide, by decide +kernel⟩
theorem lb_X0_hearing : LkB yX0_hearing cX0_hearing 1 (some (.object "ModeratorsBench$Hearing")) 0 := ⟨(gt_in 578 (by decide +kernel) rfl), wz_X0, by decide, by decide, by decide +kernel⟩
theorem lb_X2_votes : LkB yX2_votes cX2_votes 1 (some .int) 0 := ⟨(gt_in 582 (by decide +kernel) rfl), wz_X2, by decide, by decide, by decide +kernel⟩
theorem lb_J6_bitCount_0f7a4 : LkB yJ6_bitCount_0f7a4 cJ6_bitCount_0f7a4 1 (some .int) 1 := ⟨(gt_in 585 (by decide +kernel) rfl), wz_J6, by decide, by decide, by decide +kernel⟩
theorem lb_X0_giftsOut : LkB yX0_giftsOut cX0_giftsOut 1 (some .int) 0 := ⟨(gt_in 592 (by decide +kernel) rfl), wz_X0, by decide, by decide, by decide +kernel⟩
theorem lb_X3_isFree : LkB yX3_isFree cX3_isFree 1 (some .boolean) 0 := ⟨(gt_in 597 (by decide +kernel) rfl), wz_X3, by decide, by decide, by decide +kernel⟩
theorem lb_X3_isSkilledIn : LkB yX3_isSkilledIn cX3_isSkilledIn 2 (some .boolean) 1 := ⟨(gt_in 601 (by decide +kernel) rfl), wz_X3, by decide, by decide, by decide +kernel⟩
theorem lb_X0_isHeldBy : LkB yX0_isHeldBy cX0_isHeldBy 2 (some .boolean) 1 := ⟨(gt_in 605 (by decide +kernel) rfl), wz_X0, by decide, by decide, by decide +kernel⟩
theorem lb_X0_hasVoteOf : LkB yX0_hasVoteOf cX0_hasVoteOf 2 (some .boolean) 1 := ⟨(gt_in 609 (by decide +kernel) rfl), wz_X0, by decide, by decide, by decide +kernel⟩
theorem lb_X2_hasVoter : LkB yX2_hasVoter cX2_hasVoter 2 (some .boolean) 1 := ⟨(gt_in 613 (by decide +kernel) rfl), wz_X2, by decide, by decide, by decide +kernel⟩
theorem lb_X7_give : LkB yX7_give cX7_give 4 (some .int) 1 := ⟨(gt_in 617 (by decide +kernel) rfl), wz_X7, by decide, by decide, by decide +kernel⟩
theorem lb_X1_init : LkB yX1_init cX1_init 3 none 2 := ⟨(gt_in 621 (by decide +kernel) rfl), wz_X1, by decide, by decide, by decide +kernel⟩
theorem lb_X7_undo : LkB yX7_undo cX7_undo 3 (some .int) 0 := ⟨(gt_in 635 (by decide +kernel) rfl), wz_X7, by decide, by decide, by decide +kernel⟩
theorem lb_X7_vote : LkB yX7_vote cX7_vote 7 (some .int) 3 := ⟨(gt_in 639 (by decide +kernel) rfl), wz_X7, by decide, by decide, by decide +kernel⟩
theorem lb_X7_caseAt : LkB yX7_caseAt cX7_caseAt 2 (some (.object "ModeratorsBench$Case")) 1 := ⟨(gt_in 643 (by decide +kernel) rfl), wz_X7, by decide, by decide, by decide +kernel⟩
theorem lb_X7_giftOf : LkB yX7_giftOf cX7_giftOf 5 (some .int) 2 := ⟨(gt_in 647 (by decide +kernel) rfl), wz_X7, by decide, by decide, by decide +kernel⟩
theorem lb_X2_cast : LkB yX2_cast cX2_cast 3 none 2 := ⟨(gt_in 652 (by decide +kernel) rfl), wz_X2, by decide, by decide, by decide +kernel⟩
theorem lb_X7_settle : LkB yX7_settle cX7_settle 3 none 1 := ⟨(gt_in 656 (by decide +kernel) rfl), wz_X7, by decide, by decide, by decide +kernel⟩
theorem lb_X2_isAgreed : LkB yX2_isAgreed cX2_isAgreed 2 (some .boolean) 0 := ⟨(gt_in 661 (by decide +kernel) rfl), wz_X2, by decide, by decide, by decide +kernel⟩
theorem lb_X2_mayAskMore : LkB yX2_mayAskMore cX2_mayAskMore 1 (some .boolean) 0 := ⟨(gt_in 665 (by decide +kernel) rfl), wz_X2, by decide, by decide, by decide +kernel⟩
theorem lb_X2_askMore : LkB yX2_askMore cX2_askMore 1 none 0 := ⟨(gt_in 669 (by decide +kernel) rfl), wz_X2, by decide, by decide, by decide +kernel⟩
theorem lb_X0_close : LkB yX0_close cX0_close 2 none 0 := ⟨(gt_in 673 (by decide +kernel) rfl), wz_X0, by decide, by decide, by decide +kernel⟩
theorem lb_X2_findsGuilty : LkB yX2_findsGuilty cX2_findsGuilty 1 (some .boolean) 0 := ⟨(gt_in 677 (by decide +kernel) rfl), wz_X2, by decide, by decide, by decide +kernel⟩
theorem lb_X7_restDoubtedJudges : LkB yX7_restDoubtedJudges cX7_restDoubtedJudges 6 none 0 := ⟨(gt_in 681 (by decide +kernel) rfl), wz_X7, by decide, by decide, by decide +kernel⟩
theorem lb_X7_askedOf : LkB yX7_askedOf cX7_askedOf 4 (some .int) 1 := ⟨(gt_in 685 (by decide +kernel) rfl), wz_X7, by decide, by decide, by decide +kernel⟩
theorem lb_X0_standOf : LkB yX0_standOf cX0_standOf 3 (some .int) 1 := ⟨(gt_in 689 (by decide +kernel) rfl), wz_X0, by decide, by decide, by decide +kernel⟩
theorem lb_X2_standAgainst : LkB yX2_standAgainst cX2_standAgainst 5 (some .int) 2 := ⟨(gt_in 693 (by decide +kernel) rfl), wz_X2, by decide, by decide, by decide +kernel⟩
theorem lb_X7_stoodAlone : LkB yX7_stoodAlone cX7_stoodAlone 4 (some .int) 1 := ⟨(gt_in 699 (by decide +kernel) rfl), wz_X7, by decide, by decide, by decide +kernel⟩
theorem lb_X7_may : LkB yX7_may cX7_may 5 (some .int) 2 := ⟨(gt_in 703 (by decide +kernel) rfl), wz_X7, by decide, by decide, by decide +kernel⟩
theorem lb_X7_told : LkB yX7_told cX7_told 4 (some .int) 2 := ⟨(gt_in 707 (by decide +kernel) rfl), wz_X7, by decide, by decide, by decide +kernel⟩
theorem lb_X7_about : LkB yX7_about cX7_about 4 (some .int) 2 := ⟨(gt_in 711 (by decide +kernel) rfl), wz_X7, by decide, by decide, by decide +kernel⟩
theorem lb_X7_lateBy : LkB yX7_lateBy cX7_lateBy 2 (some .int) 1 := ⟨(gt_in 716 (by decide +kernel) rfl), wz_X7, by decide, by decide, by decide +kernel⟩
theorem lb_X0_timesJudged : LkB yX0_timesJudged cX0_timesJudged 1 (some .int) 0 := ⟨(gt_in 721 (by decide +kernel) rfl), wz_X0, by decide, by decide, by decide +kernel⟩
theorem lb_X7_judged : LkB yX7_judged cX7_judged 5 (some .int) 2 := ⟨(gt_in 726 (by decide +kernel) rfl), wz_X7, by decide, by decide, by decide +kernel⟩
theorem lb_X0_latestJudgement : LkB yX0_latestJudgement cX0_latestJudgement 1 (some (.object "ModeratorsBench$Hearing")) 0 := ⟨(gt_in 730 (by decide +kernel) rfl), wz_X0, by decide, by decide, by decide +kernel⟩
theorem lb_X7_appeal : LkB yX7_appeal cX7_appeal 3 (some .int) 1 := ⟨(gt_in 734 (by decide +kernel) rfl), wz_X7, by decide, by decide, by decide +kernel⟩
theorem lb_X0_hearAgain : LkB yX0_hearAgain cX0_hearAgain 2 none 1 := ⟨(gt_in 738 (by decide +kernel) rfl), wz_X0, by decide, by decide, by decide +kernel⟩
theorem lb_X7_known : LkB yX7_known cX7_known 5 (some .int) 2 := ⟨(gt_in 743 (by decide +kernel) rfl), wz_X7, by decide, by decide, by decide +kernel⟩
theorem lb_X7_late : LkB yX7_late cX7_late 5 (some .int) 0 := ⟨(gt_in 747 (by decide +kernel) rfl), wz_X7, by decide, by decide, by decide +kernel⟩
theorem lb_X7_like : LkB yX7_like cX7_like 4 (some .int) 2 := ⟨(gt_in 751 (by decide +kernel) rfl), wz_X7, by decide, by decide, by decide +kernel⟩
theorem lb_X7_alike : LkB yX7_alike cX7_alike 7 (some .int) 3 := ⟨(gt_in 755 (by decide +kernel) rfl), wz_X7, by decide, by decide, by decide +kernel⟩
theorem lb_X0_isAlike : LkB yX0_isAlike cX0_isAlike 3 (some .boolean) 2 := ⟨(gt_in 759 (by decide +kernel) rfl), wz_X0, by decide, by decide, by decide +kernel⟩
theorem lb_X0_guiltStands : LkB yX0_guiltStands cX0_guiltStands 1 (some .boolean) 0 := ⟨(gt_in 764 (by decide +kernel) rfl), wz_X0, by decide, by decide, by decide +kernel⟩
theorem lb_X7_unlike : LkB yX7_unlike cX7_unlike 6 (some .int) 2 := ⟨(gt_in 768 (by decide +kernel) rfl), wz_X7, by decide, by decide, by decide +kernel⟩
theorem lb_X7_writer : LkB yX7_writer cX7_writer 3 (some .int) 2 := ⟨(gt_in 773 (by decide +kernel) rfl), wz_X7, by decide, by decide, by decide +kernel⟩
theorem lb_X7_climbLadder : LkB yX7_climbLadder cX7_climbLadder 6 none 2 := ⟨(gt_in 777 (by decide +kernel) rfl), wz_X7, by decide, by decide, by decide +kernel⟩
theorem lb_X4_restart : LkB yX4_restart cX4_restart 1 none 0 := ⟨(gt_in 781 (by decide +kernel) rfl), wz_X4, by decide, by decide, by decide +kernel⟩
theorem lb_X0_bringsStrike : LkB yX0_bringsStrike cX0_bringsStrike 1 (some .boolean) 0 := ⟨(gt_in 785 (by decide +kernel) rfl), wz_X0, by decide, by decide, by decide +kernel⟩
theorem lb_X4_climb : LkB yX4_climb cX4_climb 3 none 2 := ⟨(gt_in 790 (by decide +kernel) rfl), wz_X4, by decide, by decide, by decide +kernel⟩
theorem lb_X4_holdingAt : LkB yX4_holdingAt cX4_holdingAt 2 (some .int) 1 := ⟨(gt_in 794 (by decide +kernel) rfl), wz_X4, by decide, by decide, by decide +kernel⟩
theorem lb_X7_timesWarned : LkB yX7_timesWarned cX7_timesWarned 5 (some .int) 1 := ⟨(gt_in 800 (by decide +kernel) rfl), wz_X7, by decide, by decide, by decide +kernel⟩
theorem lb_X7_postsOf : LkB yX7_postsOf cX7_postsOf 6 (some .int) 2 := ⟨(gt_in 804 (by decide +kernel) rfl), wz_X7, by decide, by decide, by decide +kernel⟩
theorem lb_X5_isHidden : LkB yX5_isHidden cX5_isHidden 2 (some .boolean) 0 := ⟨(gt_in 808 (by decide +kernel) rfl), wz_X5, by decide, by decide, by decide +kernel⟩
theorem lb_X7_level : LkB yX7_level cX7_level 3 (some .int) 1 := ⟨(gt_in 813 (by decide +kernel) rfl), wz_X7, by decide, by decide, by decide +kernel⟩
theorem lb_X7_hidden : LkB yX7_hidden cX7_hidden 3 (some .int) 1 := ⟨(gt_in 817 (by decide +kernel) rfl), wz_X7, by decide, by decide, by decide +kernel⟩
theorem lb_X7_count : LkB yX7_count cX7_count 2 (some .int) 1 := ⟨(gt_in 821 (by decide +kernel) rfl), wz_X7, by decide, by decide, by decide +kernel⟩
theorem lb_X7_undecidedCases : LkB yX7_undecidedCases cX7_undecidedCases 3 (some .int) 0 := ⟨(gt_in 825 (by decide +kernel) rfl), wz_X7, by decide, by decide, by decide +kernel⟩
theorem lb_X7_check : LkB yX7_check cX7_check 8 (some .int) 0 := ⟨(gt_in 829 (by decide +kernel) rfl), wz_X7, by decide, by decide, by decide +kernel⟩
theorem lb_X0_staysWithinAsked : LkB yX0_staysWithinAsked cX0_staysWithinAsked 1 (some .boolean) 0 := ⟨(gt_in 833 (by decide +kernel) rfl), wz_X0, by decide, by decide, by decide +kernel⟩
theorem lb_X0_everyJudgeOnce : LkB yX0_everyJudgeOnce cX0_everyJudgeOnce 2 (some .boolean) 0 := ⟨(gt_in 837 (by decide +kernel) rfl), wz_X0, by decide, by decide, by decide +kernel⟩
theorem lb_X8_init : LkB yX8_init cX8_init 2 none 0 := ⟨(gt_in 842 (by decide +kernel) rfl), wz_X8, by decide, by decide, by decide +kernel⟩
theorem lb_X8_tick : LkB yX8_tick cX8_tick 2 (some .int) 1 := ⟨(gt_in 991 (by decide +kernel) rfl), wz_X8, by decide, by decide, by decide +kernel⟩
theorem lb_X8_within : LkB yX8_within cX8_within 3 (some .boolean) 3 := ⟨(gt_in 994 (by decide +kernel) rfl), wz_X8, by decide, by decide, by decide +kernel⟩
theorem lb_X8_rule : LkB yX8_rule cX8_rule 5 (some .int) 4 := ⟨(gt_in 999 (by decide +kernel) rfl), wz_X8, by decide, by decide, by decide +kernel⟩
theorem lb_X8_ladder : LkB yX8_ladder cX8_ladder 3 (some .int) 2 := ⟨(gt_in 1003 (by decide +kernel) rfl), wz_X8, by decide, by decide, by decide +kernel⟩
theorem lb_X8_due : LkB yX8_due cX8_due 4 (some .int) 2 := ⟨(gt_in 1007 (by decide +kernel) rfl), wz_X8, by decide, by decide, by decide +kernel⟩
theorem lb_X8_limit : LkB yX8_limit cX8_limit 3 (some .int) 1 := ⟨(gt_in 1011 (by decide +kernel) rfl), wz_X8, by decide, by decide, by decide +kernel⟩
theorem lb_X8_post : LkB yX8_post cX8_post 4 (some .int) 3 := ⟨(gt_in 1015 (by decide +kernel) rfl), wz_X8, by decide, by decide, by decide +kernel⟩
theorem lb_X8_complain : LkB yX8_complain cX8_complain 4 (some .int) 2 := ⟨(gt_in 1019 (by decide +kernel) rfl), wz_X8, by decide, by decide, by decide +kernel⟩
theorem lb_X8_judge : LkB yX8_judge cX8_judge 5 (some .int) 4 := ⟨(gt_in 1023 (by decide +kernel) rfl), wz_X8, by decide, by decide, by decide +kernel⟩
theorem lb_X8_isJudge : LkB yX8_isJudge cX8_isJudge 1 (some .boolean) 1 := ⟨(gt_in 1026 (by decide +kernel) rfl), wz_X8, by decide, by decide, by decide +kernel⟩
theorem lb_X8_kin : LkB yX8_kin cX8_kin 5 (some .int) 3 := ⟨(gt_in 1030 (by decide +kernel) rfl), wz_X8, by decide, by decide, by decide +kernel⟩
theorem lb_X8_rest : LkB yX8_rest cX8_rest 4 (some .int) 2 := ⟨(gt_in 1035 (by decide +kernel) rfl), wz_X8, by decide, by decide, by decide +kernel⟩
theorem lb_X8_giveBack : LkB yX8_giveBack cX8_giveBack 4 none 1 := ⟨(gt_in 1039 (by decide +kernel) rfl), wz_X8, by decide, by decide, by decide +kernel⟩
theorem lb_X8_next : LkB yX8_next cX8_next 2 (some .int) 1 := ⟨(gt_in 1043 (by decide +kernel) rfl), wz_X8, by decide, by decide, by decide +kernel⟩
theorem lb_X8_nextOf : LkB yX8_nextOf cX8_nextOf 4 (some .int) 1 := ⟨(gt_in 1047 (by decide +kernel) rfl), wz_X8, by decide, by decide, by decide +kernel⟩
theorem lb_X8_mayHave : LkB yX8_mayHave cX8_mayHave 4 (some .boolean) 2 := ⟨(gt_in 1051 (by decide +kernel) rfl), wz_X8, by decide, by decide, by decide +kernel⟩
theorem lb_X8_isAsking : LkB yX8_isAsking cX8_isAsking 2 (some .boolean) 1 := ⟨(gt_in 1055 (by decide +kernel) rfl), wz_X8, by decide, by decide, by decide +kernel⟩
theorem lb_X8_giftsOf : LkB yX8_giftsOf cX8_giftsOf 5 (some .int) 2 := ⟨(gt_in 1059 (by decide +kernel) rfl), wz_X8, by decide, by decide, by decide +kernel⟩
theorem lb_X8_votesOf : LkB yX8_votesOf cX8_votesOf 4 (some .int) 1 := ⟨(gt_in 1063 (by decide +kernel) rfl), wz_X8, by decide, by decide, by decide +kernel⟩
theorem lb_X8_timeOf : LkB yX8_timeOf cX8_timeOf 2 (some .int) 1 := ⟨(gt_in 1067 (by decide +kernel) rfl), wz_X8, by decide, by decide, by decide +kernel⟩
theorem lb_X8_give : LkB yX8_give cX8_give 3 (some .int) 1 := ⟨(gt_in 1071 (by decide +kernel) rfl), wz_X8, by decide, by decide, by decide +kernel⟩
theorem lb_X8_undo : LkB yX8_undo cX8_undo 1 (some .int) 0 := ⟨(gt_in 1075 (by decide +kernel) rfl), wz_X8, by decide, by decide, by decide +kernel⟩
theorem lb_X8_may : LkB yX8_may cX8_may 3 (some .int) 2 := ⟨(gt_in 1079 (by decide +kernel) rfl), wz_X8, by decide, by decide, by decide +kernel⟩
theorem lb_X8_isCase : LkB yX8_isCase cX8_isCase 2 (some .boolean) 1 := ⟨(gt_in 1083 (by decide +kernel) rfl), wz_X8, by decide, by decide, by decide +kernel⟩
theorem lb_X8_vote : LkB yX8_vote cX8_vote 6 (some .int) 3 := ⟨(gt_in 1087 (by decide +kernel) rfl), wz_X8, by decide, by decide, by decide +kernel⟩
theorem lb_X8_settle : LkB yX8_settle cX8_settle 6 none 1 := ⟨(gt_in 1091 (by decide +kernel) rfl), wz_X8, by decide, by decide, by decide +kernel⟩
theorem lb_X8_lookAtJudges : LkB yX8_lookAtJudges cX8_lookAtJudges 3 none 0 := ⟨(gt_in 1095 (by decide +kernel) rfl), wz_X8, by decide, by decide, by decide +kernel⟩
theorem lb_X8_doubt : LkB yX8_doubt cX8_doubt 6 (some .int) 2 := ⟨(gt_in 1099 (by decide +kernel) rfl), wz_X8, by decide, by decide, by decide +kernel⟩
theorem lb_X8_against : LkB yX8_against cX8_against 3 (some .int) 1 := ⟨(gt_in 1103 (by decide +kernel) rfl), wz_X8, by decide, by decide, by decide +kernel⟩
theorem lb_X8_told : LkB yX8_told cX8_told 5 (some .int) 2 := ⟨(gt_in 1107 (by decide +kernel) rfl), wz_X8, by decide, by decide, by decide +kernel⟩
theorem lb_X8_about : LkB yX8_about cX8_about 3 (some .int) 2 := ⟨(gt_in 1111 (by decide +kernel) rfl), wz_X8, by decide, by decide, by decide +kernel⟩
theorem lb_X8_lateBy : LkB yX8_lateBy cX8_lateBy 3 (some .int) 1 := ⟨(gt_in 1115 (by decide +kernel) rfl), wz_X8, by decide, by decide, by decide +kernel⟩
theorem lb_X8_judged : LkB yX8_judged cX8_judged 3 (some .int) 2 := ⟨(gt_in 1119 (by decide +kernel) rfl), wz_X8, by decide, by decide, by decide +kernel⟩
theorem lb_X8_appeal : LkB yX8_appeal cX8_appeal 2 (some .int) 1 := ⟨(gt_in 1123 (by decide +kernel) rfl), wz_X8, by decide, by decide, by decide +kernel⟩
theorem lb_X8_known : LkB yX8_known cX8_known 4 (some .int) 2 := ⟨(gt_in 1127 (by decide +kernel) rfl), wz_X8, by decide, by decide, by decide +kernel⟩
theorem lb_X8_late : LkB yX8_late cX8_late 3 (some .int) 0 := ⟨(gt_in 1131 (by decide +kernel) rfl), wz_X8, by decide, by decide, by decide +kernel⟩
theorem lb_X8_like : LkB yX8_like cX8_like 3 (some .int) 2 := ⟨(gt_in 1135 (by decide +kernel) rfl), wz_X8, by decide, by decide, by decide +kernel⟩
theorem lb_X8_likeOnes : LkB yX8_likeOnes cX8_likeOnes 11 (some .int) 3 := ⟨(gt_in 1139 (by decide +kernel) rfl), wz_X8, by decide, by decide, by decide +kernel⟩
theorem lb_X8_unlike : LkB yX8_unlike cX8_unlike 5 (some .int) 2 := ⟨(gt_in 1143 (by decide +kernel) rfl), wz_X8, by decide, by decide, by decide +kernel⟩
theorem lb_X8_writer : LkB yX8_writer cX8_writer 10 (some .int) 2 := ⟨(gt_in 1147 (by decide +kernel) rfl), wz_X8, by decide, by decide, by decide +kernel⟩
theorem lb_X8_findStrikes : LkB yX8_findStrikes cX8_findStrikes 6 none 1 := ⟨(gt_in 1151 (by decide +kernel) rfl), wz_X8, by decide, by decide, by decide +kernel⟩
theorem lb_X8_stands : LkB yX8_stands cX8_stands 2 (some .boolean) 1 := ⟨(gt_in 1155 (by decide +kernel) rfl), wz_X8, by decide, by decide, by decide +kernel⟩
theorem lb_X8_isHidden : LkB yX8_isHidden cX8_isHidden 4 (some .boolean) 1 := ⟨(gt_in 1159 (by decide +kernel) rfl), wz_X8, by decide, by decide, by decide +kernel⟩
theorem lb_X8_level : LkB yX8_level cX8_level 3 (some .int) 1 := ⟨(gt_in 1163 (by decide +kernel) rfl), wz_X8, by decide, by decide, by decide +kernel⟩
theorem lb_X8_hidden : LkB yX8_hidden cX8_hidden 2 (some .int) 1 := ⟨(gt_in 1167 (by decide +kernel) rfl), wz_X8, by decide, by decide, by decide +kernel⟩
theorem lb_X8_count : LkB yX8_count cX8_count 4 (some .int) 1 := ⟨(gt_in 1171 (by decide +kernel) rfl), wz_X8, by decide, by decide, by decide +kernel⟩
theorem lb_X8_check : LkB yX8_check cX8_check 6 (some .int) 0 := ⟨(gt_in 1175 (by decide +kernel) rfl), wz_X8, by decide, by decide, by decide +kernel⟩
theorem wi_X7 : Cond.instantiable RX7 10 ∈ gtbl := (gt_in 94 (by decide +kernel) rfl)
theorem wi_Jx4a65c : Cond.instantiable RJx4a65c 3 ∈ gtbl := (gt_in 106 (by decide +kernel) rfl)
theorem wi_X4 : Cond.instantiable RX4 8 ∈ gtbl := (gt_in 132 (by decide +kernel) rfl)
theorem wi_X6 : Cond.instantiable RX6 4 ∈ gtbl := (gt_in 168 (by decide +kernel) rfl)
theorem wi_X3 : Cond.instantiable RX3 8 ∈ gtbl := (gt_in 193 (by decide +kernel) rfl)
theorem wi_X5 : Cond.instantiable RX5 7 ∈ gtbl := (gt_in 301 (by decide +kernel) rfl)
theorem wi_X0 : Cond.instantiable RX0 12 ∈ gtbl := (gt_in 418 (by decide +kernel) rfl)
theorem wi_X2 : Cond.instantiable RX2 7 ∈ gtbl := (gt_in 424 (by decide +kernel) rfl)
theorem wi_X1 : Cond.instantiable RX1 2 ∈ gtbl := (gt_in 618 (by decide +kernel) rfl)
theorem wi_X8 : Cond.instantiable RX8 47 ∈ gtbl := (gt_in 839 (by decide +kernel) rfl)
theorem wl_L_7 : Cond.classLink RL 7 RX7 ∈ gtbl := (gt_in 93 (by decide +kernel) rfl)
theorem wl_X7_9 : Cond.classLink RX7 9 RX6 ∈ gtbl := (gt_in 101 (by decide +kernel) rfl)
theorem wl_X7_15 : Cond.classLink RX7 15 RX3 ∈ gtbl := (gt_in 103 (by decide +kernel) rfl)
theorem wl_X7_21 : Cond.classLink RX7 21 RJx4a65c ∈ gtbl := (gt_in 105 (by decide +kernel) rfl)
theorem wl_X7_38 : Cond.classLink RX7 38 RX4 ∈ gtbl := (gt_in 131 (by decide +kernel) rfl)
theorem wl_X7_87 : Cond.classLink RX7 87 RX5 ∈ gtbl := (gt_in 300 (by decide +kernel) rfl)
theorem wl_J7_110 : Cond.classLink RJ7 110 "[Ljava/lang/Object;" ∈ gtbl := (gt_in 380 (by decide +kernel) rfl)
theorem wl_J7_2 : Cond.classLink RJ7 2 "java/lang/Object" ∈ gtbl := (gt_in 382 (by decide +kernel) rfl)
theorem wl_Jx4a65c_7 : Cond.classLink RJx4a65c 7 "java/lang/Object" ∈ gtbl := (gt_in 390 (by decide +kernel) rfl)
theorem wl_X7_105 : Cond.classLink RX7 105 RX0 ∈ gtbl := (gt_in 417 (by decide +kernel) rfl)
theorem wl_X0_49 : Cond.classLink RX0 49 RX2 ∈ gtbl := (gt_in 423 (by decide +kernel) rfl)
theorem wl_X7_156 : Cond.classLink RX7 156 RX1 ∈ gtbl := (gt_in 542 (by decide +kernel) rfl)
theorem wl_L_10 : Cond.classLink RL 10 RX8 ∈ gtbl := (gt_in 838 (by decide +kernel) rfl)
theorem wk_X7_63 : Cond.constant RX7 63 (1000000) ∈ gtbl := (gt_in 271 (by decide +kernel) rfl)
theorem wk_J8_200 : Cond.constant RJ8 200 (2147483639) ∈ gtbl := (gt_in 356 (by decide +kernel) rfl)
theorem wk_X3_36 : Cond.constantLong RX3 36 (-1) ∈ gtbl := (gt_in 533 (by decide +kernel) rfl)
theorem wk_J6_265 : Cond.constant RJ6 265 (1431655765) ∈ gtbl := (gt_in 586 (by decide +kernel) rfl)
theorem wk_J6_266 : Cond.constant RJ6 266 (858993459) ∈ gtbl := (gt_in 587 (by decide +kernel) rfl)
theorem wk_J6_267 : Cond.constant RJ6 267 (252645135) ∈ gtbl := (gt_in 588 (by decide +kernel) rfl)
theorem wk_X8_143 : Cond.constant RX8 143 (1000000) ∈ gtbl := (gt_in 995 (by decide +kernel) rfl)
theorem wk_X8_151 : Cond.constantLong RX8 151 (-1) ∈ gtbl := (gt_in 1031 (by decide +kernel) rfl)
theorem wa_int : Cond.arrayClass .int ∈ gtbl := (gt_in 167 (by decide +kernel) rfl)
theorem wa_long : Cond.arrayClass .long ∈ gtbl := (gt_in 986 (by decide +kernel) rfl)
theorem wa_boolean : Cond.arrayClass .boolean ∈ gtbl := (gt_in 987 (by decide +kernel) rfl)
theorem wf_Jx4a65c_39 : Cond.fieldLink RJx4a65c 39 "java/util/ArrayList" "DEFAULTCAPACITY_EMPTY_ELEMENTDATA" "[Ljava/lang/Object;" ∈ gtbl := (gt_in 117 (by decide +kernel) rfl)
theorem wf_Jx4a65c_9 : Cond.fieldLink RJx4a65c 9 "java/util/ArrayList" "elementData" "[Ljava/lang/Object;" ∈ gtbl := (gt_in 119 (by decide +kernel) rfl)
theorem wf_Jx4a65c_48 : Cond.fieldLink RJx4a65c 48 "java/util/ArrayList" "size" "I" ∈ gtbl := (gt_in 120 (by decide +kernel) rfl)
theorem wf_Jxc12de_7 : Cond.fieldLink RJxc12de 7 "java/util/AbstractList" "modCount" "I" ∈ gtbl := (gt_in 121 (by decide +kernel) rfl)
theorem wf_Jx4a65c_63 : Cond.fieldLink RJx4a65c 63 "java/util/ArrayList" "modCount" "I" ∈ gtbl := (gt_in 122 (by decide +kernel) rfl)
theorem wf_X4_9 : Cond.fieldLink RX4 9 "ModeratorsBench$Ladder" "fade" "I" ∈ gtbl := (gt_in 137 (by decide +kernel) rfl)
theorem wf_X4_15 : Cond.fieldLink RX4 15 "ModeratorsBench$Ladder" "quiet" "I" ∈ gtbl := (gt_in 139 (by decide +kernel) rfl)
theorem wf_X4_18 : Cond.fieldLink RX4 18 "ModeratorsBench$Ladder" "strikeTicks" "[I" ∈ gtbl := (gt_in 141 (by decide +kernel) rfl)
theorem wf_X4_22 : Cond.fieldLink RX4 22 "ModeratorsBench$Ladder" "strikes" "I" ∈ gtbl := (gt_in 142 (by decide +kernel) rfl)
theorem wf_X4_25 : Cond.fieldLink RX4 25 "ModeratorsBench$Ladder" "faded" "I" ∈ gtbl := (gt_in 143 (by decide +kernel) rfl)
theorem wf_X4_28 : Cond.fieldLink RX4 28 "ModeratorsBench$Ladder" "level" "I" ∈ gtbl := (gt_in 144 (by decide +kernel) rfl)
theorem wf_X4_31 : Cond.fieldLink RX4 31 "ModeratorsBench$Ladder" "silent" "Z" ∈ gtbl := (gt_in 146 (by decide +kernel) rfl)
theorem wf_X4_35 : Cond.fieldLink RX4 35 "ModeratorsBench$Ladder" "goneFrom" "I" ∈ gtbl := (gt_in 148 (by decide +kernel) rfl)
theorem wf_X6_19 : Cond.fieldLink RX6 19 "ModeratorsBench$Rule" "number" "I" ∈ gtbl := (gt_in 173 (by decide +kernel) rfl)
theorem wf_X6_7 : Cond.fieldLink RX6 7 "ModeratorsBench$Rule" "grade" "I" ∈ gtbl := (gt_in 176 (by decide +kernel) rfl)
theorem wf_X6_13 : Cond.fieldLink RX6 13 "ModeratorsBench$Rule" "harm" "I" ∈ gtbl := (gt_in 179 (by decide +kernel) rfl)
theorem wf_X6_16 : Cond.fieldLink RX6 16 "ModeratorsBench$Rule" "follows" "I" ∈ gtbl := (gt_in 181 (by decide +kernel) rfl)
theorem wf_X3_33 : Cond.fieldLink RX3 33 "ModeratorsBench$Judge" "bit" "I" ∈ gtbl := (gt_in 198 (by decide +kernel) rfl)
theorem wf_X3_7 : Cond.fieldLink RX3 7 "ModeratorsBench$Judge" "skills" "I" ∈ gtbl := (gt_in 202 (by decide +kernel) rfl)
theorem wf_X3_13 : Cond.fieldLink RX3 13 "ModeratorsBench$Judge" "kinBits" "J" ∈ gtbl := (gt_in 204 (by decide +kernel) rfl)
theorem wf_X3_17 : Cond.fieldLink RX3 17 "ModeratorsBench$Judge" "load" "I" ∈ gtbl := (gt_in 205 (by decide +kernel) rfl)
theorem wf_X3_20 : Cond.fieldLink RX3 20 "ModeratorsBench$Judge" "weight" "I" ∈ gtbl := (gt_in 207 (by decide +kernel) rfl)
theorem wf_X3_23 : Cond.fieldLink RX3 23 "ModeratorsBench$Judge" "rests" "Z" ∈ gtbl := (gt_in 210 (by decide +kernel) rfl)
theorem wf_X3_27 : Cond.fieldLink RX3 27 "ModeratorsBench$Judge" "gifts" "I" ∈ gtbl := (gt_in 212 (by decide +kernel) rfl)
theorem wf_X3_30 : Cond.fieldLink RX3 30 "ModeratorsBench$Judge" "votes" "I" ∈ gtbl := (gt_in 214 (by decide +kernel) rfl)
theorem wf_X7_11 : Cond.fieldLink RX7 11 "ModeratorsBench" "rules" "[LModeratorsBench$Rule;" ∈ gtbl := (gt_in 233 (by decide +kernel) rfl)
theorem wf_X7_17 : Cond.fieldLink RX7 17 "ModeratorsBench" "judges" "[LModeratorsBench$Judge;" ∈ gtbl := (gt_in 234 (by decide +kernel) rfl)
theorem wf_X7_24 : Cond.fieldLink RX7 24 "ModeratorsBench" "posts" "Ljava/util/ArrayList;" ∈ gtbl := (gt_in 235 (by decide +kernel) rfl)
theorem wf_X7_28 : Cond.fieldLink RX7 28 "ModeratorsBench" "cases" "Ljava/util/ArrayList;" ∈ gtbl := (gt_in 236 (by decide +kernel) rfl)
theorem wf_X7_31 : Cond.fieldLink RX7 31 "ModeratorsBench" "gifts" "Ljava/util/ArrayList;" ∈ gtbl := (gt_in 237 (by decide +kernel) rfl)
theorem wf_X7_34 : Cond.fieldLink RX7 34 "ModeratorsBench" "dueOfGrade" "[I" ∈ gtbl := (gt_in 238 (by decide +kernel) rfl)
theorem wf_X7_41 : Cond.fieldLink RX7 41 "ModeratorsBench" "ladder" "LModeratorsBench$Ladder;" ∈ gtbl := (gt_in 239 (by decide +kernel) rfl)
theorem wf_X7_45 : Cond.fieldLink RX7 45 "ModeratorsBench" "now" "I" ∈ gtbl := (gt_in 240 (by decide +kernel) rfl)
theorem wf_X7_49 : Cond.fieldLink RX7 49 "ModeratorsBench" "doubtLimit" "I" ∈ gtbl := (gt_in 241 (by decide +kernel) rfl)
theorem wf_X7_52 : Cond.fieldLink RX7 52 "ModeratorsBench" "judgements" "I" ∈ gtbl := (gt_in 242 (by decide +kernel) rfl)
theorem wf_X5_16 : Cond.fieldLink RX5 16 "ModeratorsBench$Post" "number" "I" ∈ gtbl := (gt_in 306 (by decide +kernel) rfl)
theorem wf_X5_20 : Cond.fieldLink RX5 20 "ModeratorsBench$Post" "author" "I" ∈ gtbl := (gt_in 308 (by decide +kernel) rfl)
theorem wf_X5_23 : Cond.fieldLink RX5 23 "ModeratorsBench$Post" "reach" "I" ∈ gtbl := (gt_in 310 (by decide +kernel) rfl)
theorem wf_X5_26 : Cond.fieldLink RX5 26 "ModeratorsBench$Post" "marks" "I" ∈ gtbl := (gt_in 312 (by decide +kernel) rfl)
theorem wf_X5_29 : Cond.fieldLink RX5 29 "ModeratorsBench$Post" "came" "I" ∈ gtbl := (gt_in 314 (by decide +kernel) rfl)
theorem wf_X5_7 : Cond.fieldLink RX5 7 "ModeratorsBench$Post" "firstCase" "LModeratorsBench$Case;" ∈ gtbl := (gt_in 316 (by decide +kernel) rfl)
theorem wf_X5_13 : Cond.fieldLink RX5 13 "ModeratorsBench$Post" "lastCase" "LModeratorsBench$Case;" ∈ gtbl := (gt_in 318 (by decide +kernel) rfl)
theorem wf_X2_31 : Cond.fieldLink RX2 31 "ModeratorsBench$Hearing" "asks" "I" ∈ gtbl := (gt_in 429 (by decide +kernel) rfl)
theorem wf_X2_9 : Cond.fieldLink RX2 9 "ModeratorsBench$Hearing" "timesMore" "I" ∈ gtbl := (gt_in 432 (by decide +kernel) rfl)
theorem wf_X2_15 : Cond.fieldLink RX2 15 "ModeratorsBench$Hearing" "voters" "I" ∈ gtbl := (gt_in 433 (by decide +kernel) rfl)
theorem wf_X2_18 : Cond.fieldLink RX2 18 "ModeratorsBench$Hearing" "guiltyVoters" "I" ∈ gtbl := (gt_in 435 (by decide +kernel) rfl)
theorem wf_X2_21 : Cond.fieldLink RX2 21 "ModeratorsBench$Hearing" "guiltyWeight" "I" ∈ gtbl := (gt_in 436 (by decide +kernel) rfl)
theorem wf_X2_24 : Cond.fieldLink RX2 24 "ModeratorsBench$Hearing" "otherWeight" "I" ∈ gtbl := (gt_in 438 (by decide +kernel) rfl)
theorem wf_X2_27 : Cond.fieldLink RX2 27 "ModeratorsBench$Hearing" "over" "Z" ∈ gtbl := (gt_in 440 (by decide +kernel) rfl)
theorem wf_X0_32 : Cond.fieldLink RX0 32 "ModeratorsBench$Case" "number" "I" ∈ gtbl := (gt_in 457 (by decide +kernel) rfl)
theorem wf_X0_35 : Cond.fieldLink RX0 35 "ModeratorsBench$Case" "post" "LModeratorsBench$Post;" ∈ gtbl := (gt_in 459 (by decide +kernel) rfl)
theorem wf_X0_39 : Cond.fieldLink RX0 39 "ModeratorsBench$Case" "rule" "LModeratorsBench$Rule;" ∈ gtbl := (gt_in 461 (by decide +kernel) rfl)
theorem wf_X0_48 : Cond.fieldLink RX0 48 "ModeratorsBench$Case" "grade" "I" ∈ gtbl := (gt_in 464 (by decide +kernel) rfl)
theorem wf_X0_54 : Cond.fieldLink RX0 54 "ModeratorsBench$Case" "first" "LModeratorsBench$Hearing;" ∈ gtbl := (gt_in 466 (by decide +kernel) rfl)
theorem wf_X0_9 : Cond.fieldLink RX0 9 "ModeratorsBench$Case" "second" "LModeratorsBench$Hearing;" ∈ gtbl := (gt_in 467 (by decide +kernel) rfl)
theorem wf_X0_57 : Cond.fieldLink RX0 57 "ModeratorsBench$Case" "since" "I" ∈ gtbl := (gt_in 468 (by decide +kernel) rfl)
theorem wf_X0_15 : Cond.fieldLink RX0 15 "ModeratorsBench$Case" "complaints" "I" ∈ gtbl := (gt_in 470 (by decide +kernel) rfl)
theorem wf_X0_19 : Cond.fieldLink RX0 19 "ModeratorsBench$Case" "state" "I" ∈ gtbl := (gt_in 472 (by decide +kernel) rfl)
theorem wf_X0_22 : Cond.fieldLink RX0 22 "ModeratorsBench$Case" "knownGuilt" "I" ∈ gtbl := (gt_in 474 (by decide +kernel) rfl)
theorem wf_X0_25 : Cond.fieldLink RX0 25 "ModeratorsBench$Case" "holders" "I" ∈ gtbl := (gt_in 476 (by decide +kernel) rfl)
theorem wf_X0_28 : Cond.fieldLink RX0 28 "ModeratorsBench$Case" "nextOfPost" "LModeratorsBench$Case;" ∈ gtbl := (gt_in 478 (by decide +kernel) rfl)
theorem wf_X1_7 : Cond.fieldLink RX1 7 "ModeratorsBench$Gift" "judge" "LModeratorsBench$Judge;" ∈ gtbl := (gt_in 623 (by decide +kernel) rfl)
theorem wf_X1_13 : Cond.fieldLink RX1 13 "ModeratorsBench$Gift" "held" "LModeratorsBench$Case;" ∈ gtbl := (gt_in 625 (by decide +kernel) rfl)
theorem wf_X8_140 : Cond.fieldLink RX8 140 "ModeratorsBenchModel" "tick" "I" ∈ gtbl := (gt_in 844 (by decide +kernel) rfl)
theorem wf_X8_9 : Cond.fieldLink RX8 9 "ModeratorsBenchModel" "grade" "[I" ∈ gtbl := (gt_in 845 (by decide +kernel) rfl)
theorem wf_X8_13 : Cond.fieldLink RX8 13 "ModeratorsBenchModel" "harm" "[I" ∈ gtbl := (gt_in 846 (by decide +kernel) rfl)
theorem wf_X8_16 : Cond.fieldLink RX8 16 "ModeratorsBenchModel" "follows" "[I" ∈ gtbl := (gt_in 847 (by decide +kernel) rfl)
theorem wf_X8_19 : Cond.fieldLink RX8 19 "ModeratorsBenchModel" "due" "[I" ∈ gtbl := (gt_in 848 (by decide +kernel) rfl)
theorem wf_X8_22 : Cond.fieldLink RX8 22 "ModeratorsBenchModel" "fade" "I" ∈ gtbl := (gt_in 849 (by decide +kernel) rfl)
theorem wf_X8_26 : Cond.fieldLink RX8 26 "ModeratorsBenchModel" "quiet" "I" ∈ gtbl := (gt_in 850 (by decide +kernel) rfl)
theorem wf_X8_29 : Cond.fieldLink RX8 29 "ModeratorsBenchModel" "limit" "I" ∈ gtbl := (gt_in 851 (by decide +kernel) rfl)
theorem wf_X8_32 : Cond.fieldLink RX8 32 "ModeratorsBenchModel" "writer" "[I" ∈ gtbl := (gt_in 852 (by decide +kernel) rfl)
theorem wf_X8_35 : Cond.fieldLink RX8 35 "ModeratorsBenchModel" "came" "[I" ∈ gtbl := (gt_in 853 (by decide +kernel) rfl)
theorem wf_X8_38 : Cond.fieldLink RX8 38 "ModeratorsBenchModel" "reach" "[I" ∈ gtbl := (gt_in 854 (by decide +kernel) rfl)
theorem wf_X8_41 : Cond.fieldLink RX8 41 "ModeratorsBenchModel" "marks" "[I" ∈ gtbl := (gt_in 855 (by decide +kernel) rfl)
theorem wf_X8_144 : Cond.fieldLink RX8 144 "ModeratorsBenchModel" "posts" "I" ∈ gtbl := (gt_in 856 (by decide +kernel) rfl)
theorem wf_X8_44 : Cond.fieldLink RX8 44 "ModeratorsBenchModel" "post" "[I" ∈ gtbl := (gt_in 857 (by decide +kernel) rfl)
theorem wf_X8_47 : Cond.fieldLink RX8 47 "ModeratorsBenchModel" "rule" "[I" ∈ gtbl := (gt_in 858 (by decide +kernel) rfl)
theorem wf_X8_50 : Cond.fieldLink RX8 50 "ModeratorsBenchModel" "state" "[I" ∈ gtbl := (gt_in 859 (by decide +kernel) rfl)
theorem wf_X8_53 : Cond.fieldLink RX8 53 "ModeratorsBenchModel" "complaints" "[I" ∈ gtbl := (gt_in 860 (by decide +kernel) rfl)
theorem wf_X8_56 : Cond.fieldLink RX8 56 "ModeratorsBenchModel" "caseGrade" "[I" ∈ gtbl := (gt_in 861 (by decide +kernel) rfl)
theorem wf_X8_59 : Cond.fieldLink RX8 59 "ModeratorsBenchModel" "waitsFrom" "[I" ∈ gtbl := (gt_in 862 (by decide +kernel) rfl)
theorem wf_X8_62 : Cond.fieldLink RX8 62 "ModeratorsBenchModel" "asks" "[I" ∈ gtbl := (gt_in 863 (by decide +kernel) rfl)
theorem wf_X8_65 : Cond.fieldLink RX8 65 "ModeratorsBenchModel" "mores" "[I" ∈ gtbl := (gt_in 864 (by decide +kernel) rfl)
theorem wf_X8_68 : Cond.fieldLink RX8 68 "ModeratorsBenchModel" "times" "[I" ∈ gtbl := (gt_in 865 (by decide +kernel) rfl)
theorem wf_X8_71 : Cond.fieldLink RX8 71 "ModeratorsBenchModel" "known" "[I" ∈ gtbl := (gt_in 866 (by decide +kernel) rfl)
theorem wf_X8_74 : Cond.fieldLink RX8 74 "ModeratorsBenchModel" "result" "[I" ∈ gtbl := (gt_in 867 (by decide +kernel) rfl)
theorem wf_X8_77 : Cond.fieldLink RX8 77 "ModeratorsBenchModel" "lastVotes" "[I" ∈ gtbl := (gt_in 868 (by decide +kernel) rfl)
theorem wf_X8_80 : Cond.fieldLink RX8 80 "ModeratorsBenchModel" "lastGuilty" "[I" ∈ gtbl := (gt_in 869 (by decide +kernel) rfl)
theorem wf_X8_83 : Cond.fieldLink RX8 83 "ModeratorsBenchModel" "lastOthers" "[I" ∈ gtbl := (gt_in 870 (by decide +kernel) rfl)
theorem wf_X8_133 : Cond.fieldLink RX8 133 "ModeratorsBenchModel" "cases" "I" ∈ gtbl := (gt_in 871 (by decide +kernel) rfl)
theorem wf_X8_197 : Cond.fieldLink RX8 197 "ModeratorsBenchModel" "judgements" "I" ∈ gtbl := (gt_in 872 (by decide +kernel) rfl)
theorem wf_X8_86 : Cond.fieldLink RX8 86 "ModeratorsBenchModel" "skills" "[I" ∈ gtbl := (gt_in 873 (by decide +kernel) rfl)
theorem wf_X8_89 : Cond.fieldLink RX8 89 "ModeratorsBenchModel" "kin" "[J" ∈ gtbl := (gt_in 874 (by decide +kernel) rfl)
theorem wf_X8_93 : Cond.fieldLink RX8 93 "ModeratorsBenchModel" "load" "[I" ∈ gtbl := (gt_in 875 (by decide +kernel) rfl)
theorem wf_X8_96 : Cond.fieldLink RX8 96 "ModeratorsBenchModel" "weight" "[I" ∈ gtbl := (gt_in 876 (by decide +kernel) rfl)
theorem wf_X8_99 : Cond.fieldLink RX8 99 "ModeratorsBenchModel" "rests" "[Z" ∈ gtbl := (gt_in 877 (by decide +kernel) rfl)
theorem wf_X8_103 : Cond.fieldLink RX8 103 "ModeratorsBenchModel" "giftJudge" "[I" ∈ gtbl := (gt_in 878 (by decide +kernel) rfl)
theorem wf_X8_106 : Cond.fieldLink RX8 106 "ModeratorsBenchModel" "giftCase" "[I" ∈ gtbl := (gt_in 879 (by decide +kernel) rfl)
theorem wf_X8_153 : Cond.fieldLink RX8 153 "ModeratorsBenchModel" "gifts" "I" ∈ gtbl := (gt_in 880 (by decide +kernel) rfl)
theorem wf_X8_109 : Cond.fieldLink RX8 109 "ModeratorsBenchModel" "voteJudge" "[I" ∈ gtbl := (gt_in 881 (by decide +kernel) rfl)
theorem wf_X8_112 : Cond.fieldLink RX8 112 "ModeratorsBenchModel" "voteCase" "[I" ∈ gtbl := (gt_in 882 (by decide +kernel) rfl)
theorem wf_X8_115 : Cond.fieldLink RX8 115 "ModeratorsBenchModel" "voteTime" "[I" ∈ gtbl := (gt_in 883 (by decide +kernel) rfl)
theorem wf_X8_118 : Cond.fieldLink RX8 118 "ModeratorsBenchModel" "voteGuilty" "[I" ∈ gtbl := (gt_in 884 (by decide +kernel) rfl)
theorem wf_X8_121 : Cond.fieldLink RX8 121 "ModeratorsBenchModel" "voteWeight" "[I" ∈ gtbl := (gt_in 885 (by decide +kernel) rfl)
theorem wf_X8_160 : Cond.fieldLink RX8 160 "ModeratorsBenchModel" "votes" "I" ∈ gtbl := (gt_in 886 (by decide +kernel) rfl)
theorem wf_X8_124 : Cond.fieldLink RX8 124 "ModeratorsBenchModel" "strikeCase" "[I" ∈ gtbl := (gt_in 887 (by decide +kernel) rfl)
theorem wf_X8_127 : Cond.fieldLink RX8 127 "ModeratorsBenchModel" "strikeTick" "[I" ∈ gtbl := (gt_in 888 (by decide +kernel) rfl)
theorem wf_X8_130 : Cond.fieldLink RX8 130 "ModeratorsBenchModel" "strikeLevel" "[I" ∈ gtbl := (gt_in 889 (by decide +kernel) rfl)
theorem wf_X8_210 : Cond.fieldLink RX8 210 "ModeratorsBenchModel" "strikes" "I" ∈ gtbl := (gt_in 890 (by decide +kernel) rfl)
theorem wn_X7_77 : Cond.fieldLinkNest RX7 77 "ModeratorsBench$Ladder" "fade" "I" "ModeratorsBench" ∈ lw_tbl := (List.mem_of_getElem? (i := 138) (by decide +kernel))
theorem wn_X7_80 : Cond.fieldLinkNest RX7 80 "ModeratorsBench$Ladder" "quiet" "I" "ModeratorsBench" ∈ lw_tbl := (List.mem_of_getElem? (i := 140) (by decide +kernel))
theorem wn_X7_301 : Cond.fieldLinkNest RX7 301 "ModeratorsBench$Ladder" "level" "I" "ModeratorsBench" ∈ lw_tbl := (List.mem_of_getElem? (i := 145) (by decide +kernel))
theorem wn_X7_282 : Cond.fieldLinkNest RX7 282 "ModeratorsBench$Ladder" "silent" "Z" "ModeratorsBench" ∈ lw_tbl := (List.mem_of_getElem? (i := 147) (by decide +kernel))
theorem wn_X7_285 : Cond.fieldLinkNest RX7 285 "ModeratorsBench$Ladder" "goneFrom" "I" "ModeratorsBench" ∈ lw_tbl := (List.mem_of_getElem? (i := 149) (by decide +kernel))
theorem wn_X5_41 : Cond.fieldLinkNest RX5 41 "ModeratorsBench$Rule" "number" "I" "ModeratorsBench" ∈ lw_tbl := (List.mem_of_getElem? (i := 174) (by decide +kernel))
theorem wn_X7_226 : Cond.fieldLinkNest RX7 226 "ModeratorsBench$Rule" "number" "I" "ModeratorsBench" ∈ lw_tbl := (List.mem_of_getElem? (i := 175) (by decide +kernel))
theorem wn_X0_43 : Cond.fieldLinkNest RX0 43 "ModeratorsBench$Rule" "grade" "I" "ModeratorsBench" ∈ lw_tbl := (List.mem_of_getElem? (i := 177) (by decide +kernel))
theorem wn_X7_68 : Cond.fieldLinkNest RX7 68 "ModeratorsBench$Rule" "grade" "I" "ModeratorsBench" ∈ lw_tbl := (List.mem_of_getElem? (i := 178) (by decide +kernel))
theorem wn_X7_71 : Cond.fieldLinkNest RX7 71 "ModeratorsBench$Rule" "harm" "I" "ModeratorsBench" ∈ lw_tbl := (List.mem_of_getElem? (i := 180) (by decide +kernel))
theorem wn_X7_74 : Cond.fieldLinkNest RX7 74 "ModeratorsBench$Rule" "follows" "I" "ModeratorsBench" ∈ lw_tbl := (List.mem_of_getElem? (i := 182) (by decide +kernel))
theorem wn_X0_64 : Cond.fieldLinkNest RX0 64 "ModeratorsBench$Rule" "follows" "I" "ModeratorsBench" ∈ lw_tbl := (List.mem_of_getElem? (i := 183) (by decide +kernel))
theorem wn_X2_40 : Cond.fieldLinkNest RX2 40 "ModeratorsBench$Judge" "bit" "I" "ModeratorsBench" ∈ lw_tbl := (List.mem_of_getElem? (i := 199) (by decide +kernel))
theorem wn_X0_87 : Cond.fieldLinkNest RX0 87 "ModeratorsBench$Judge" "bit" "I" "ModeratorsBench" ∈ lw_tbl := (List.mem_of_getElem? (i := 200) (by decide +kernel))
theorem wn_X7_166 : Cond.fieldLinkNest RX7 166 "ModeratorsBench$Judge" "bit" "I" "ModeratorsBench" ∈ lw_tbl := (List.mem_of_getElem? (i := 201) (by decide +kernel))
theorem wn_X7_123 : Cond.fieldLinkNest RX7 123 "ModeratorsBench$Judge" "skills" "I" "ModeratorsBench" ∈ lw_tbl := (List.mem_of_getElem? (i := 203) (by decide +kernel))
theorem wn_X7_126 : Cond.fieldLinkNest RX7 126 "ModeratorsBench$Judge" "load" "I" "ModeratorsBench" ∈ lw_tbl := (List.mem_of_getElem? (i := 206) (by decide +kernel))
theorem wn_X2_45 : Cond.fieldLinkNest RX2 45 "ModeratorsBench$Judge" "weight" "I" "ModeratorsBench" ∈ lw_tbl := (List.mem_of_getElem? (i := 208) (by decide +kernel))
theorem wn_X7_129 : Cond.fieldLinkNest RX7 129 "ModeratorsBench$Judge" "weight" "I" "ModeratorsBench" ∈ lw_tbl := (List.mem_of_getElem? (i := 209) (by decide +kernel))
theorem wn_X7_144 : Cond.fieldLinkNest RX7 144 "ModeratorsBench$Judge" "rests" "Z" "ModeratorsBench" ∈ lw_tbl := (List.mem_of_getElem? (i := 211) (by decide +kernel))
theorem wn_X7_161 : Cond.fieldLinkNest RX7 161 "ModeratorsBench$Judge" "gifts" "I" "ModeratorsBench" ∈ lw_tbl := (List.mem_of_getElem? (i := 213) (by decide +kernel))
theorem wn_X7_187 : Cond.fieldLinkNest RX7 187 "ModeratorsBench$Judge" "votes" "I" "ModeratorsBench" ∈ lw_tbl := (List.mem_of_getElem? (i := 215) (by decide +kernel))
theorem wn_X7_221 : Cond.fieldLinkNest RX7 221 "ModeratorsBench$Post" "number" "I" "ModeratorsBench" ∈ lw_tbl := (List.mem_of_getElem? (i := 307) (by decide +kernel))
theorem wn_X7_298 : Cond.fieldLinkNest RX7 298 "ModeratorsBench$Post" "author" "I" "ModeratorsBench" ∈ lw_tbl := (List.mem_of_getElem? (i := 309) (by decide +kernel))
theorem wn_X7_332 : Cond.fieldLinkNest RX7 332 "ModeratorsBench$Post" "reach" "I" "ModeratorsBench" ∈ lw_tbl := (List.mem_of_getElem? (i := 311) (by decide +kernel))
theorem wn_X0_116 : Cond.fieldLinkNest RX0 116 "ModeratorsBench$Post" "marks" "I" "ModeratorsBench" ∈ lw_tbl := (List.mem_of_getElem? (i := 313) (by decide +kernel))
theorem wn_X7_377 : Cond.fieldLinkNest RX7 377 "ModeratorsBench$Post" "came" "I" "ModeratorsBench" ∈ lw_tbl := (List.mem_of_getElem? (i := 315) (by decide +kernel))
theorem wn_X7_374 : Cond.fieldLinkNest RX7 374 "ModeratorsBench$Post" "firstCase" "LModeratorsBench$Case;" "ModeratorsBench" ∈ lw_tbl := (List.mem_of_getElem? (i := 317) (by decide +kernel))
theorem wn_X0_77 : Cond.fieldLinkNest RX0 77 "ModeratorsBench$Hearing" "asks" "I" "ModeratorsBench" ∈ lw_tbl := (List.mem_of_getElem? (i := 430) (by decide +kernel))
theorem wn_X7_231 : Cond.fieldLinkNest RX7 231 "ModeratorsBench$Hearing" "asks" "I" "ModeratorsBench" ∈ lw_tbl := (List.mem_of_getElem? (i := 431) (by decide +kernel))
theorem wn_X0_125 : Cond.fieldLinkNest RX0 125 "ModeratorsBench$Hearing" "voters" "I" "ModeratorsBench" ∈ lw_tbl := (List.mem_of_getElem? (i := 434) (by decide +kernel))
theorem wn_X7_249 : Cond.fieldLinkNest RX7 249 "ModeratorsBench$Hearing" "guiltyWeight" "I" "ModeratorsBench" ∈ lw_tbl := (List.mem_of_getElem? (i := 437) (by decide +kernel))
theorem wn_X7_252 : Cond.fieldLinkNest RX7 252 "ModeratorsBench$Hearing" "otherWeight" "I" "ModeratorsBench" ∈ lw_tbl := (List.mem_of_getElem? (i := 439) (by decide +kernel))
theorem wn_X0_102 : Cond.fieldLinkNest RX0 102 "ModeratorsBench$Hearing" "over" "Z" "ModeratorsBench" ∈ lw_tbl := (List.mem_of_getElem? (i := 441) (by decide +kernel))
theorem wn_X7_109 : Cond.fieldLinkNest RX7 109 "ModeratorsBench$Case" "number" "I" "ModeratorsBench" ∈ lw_tbl := (List.mem_of_getElem? (i := 458) (by decide +kernel))
theorem wn_X7_217 : Cond.fieldLinkNest RX7 217 "ModeratorsBench$Case" "post" "LModeratorsBench$Post;" "ModeratorsBench" ∈ lw_tbl := (List.mem_of_getElem? (i := 460) (by decide +kernel))
theorem wn_X5_37 : Cond.fieldLinkNest RX5 37 "ModeratorsBench$Case" "rule" "LModeratorsBench$Rule;" "ModeratorsBench" ∈ lw_tbl := (List.mem_of_getElem? (i := 462) (by decide +kernel))
theorem wn_X7_222 : Cond.fieldLinkNest RX7 222 "ModeratorsBench$Case" "rule" "LModeratorsBench$Rule;" "ModeratorsBench" ∈ lw_tbl := (List.mem_of_getElem? (i := 463) (by decide +kernel))
theorem wn_X7_357 : Cond.fieldLinkNest RX7 357 "ModeratorsBench$Case" "grade" "I" "ModeratorsBench" ∈ lw_tbl := (List.mem_of_getElem? (i := 465) (by decide +kernel))
theorem wn_X7_358 : Cond.fieldLinkNest RX7 358 "ModeratorsBench$Case" "since" "I" "ModeratorsBench" ∈ lw_tbl := (List.mem_of_getElem? (i := 469) (by decide +kernel))
theorem wn_X7_104 : Cond.fieldLinkNest RX7 104 "ModeratorsBench$Case" "complaints" "I" "ModeratorsBench" ∈ lw_tbl := (List.mem_of_getElem? (i := 471) (by decide +kernel))
theorem wn_X7_203 : Cond.fieldLinkNest RX7 203 "ModeratorsBench$Case" "state" "I" "ModeratorsBench" ∈ lw_tbl := (List.mem_of_getElem? (i := 473) (by decide +kernel))
theorem wn_X7_258 : Cond.fieldLinkNest RX7 258 "ModeratorsBench$Case" "knownGuilt" "I" "ModeratorsBench" ∈ lw_tbl := (List.mem_of_getElem? (i := 475) (by decide +kernel))
theorem wn_X7_163 : Cond.fieldLinkNest RX7 163 "ModeratorsBench$Case" "holders" "I" "ModeratorsBench" ∈ lw_tbl := (List.mem_of_getElem? (i := 477) (by decide +kernel))
theorem wn_X5_32 : Cond.fieldLinkNest RX5 32 "ModeratorsBench$Case" "nextOfPost" "LModeratorsBench$Case;" "ModeratorsBench" ∈ lw_tbl := (List.mem_of_getElem? (i := 479) (by decide +kernel))
theorem wn_X7_384 : Cond.fieldLinkNest RX7 384 "ModeratorsBench$Case" "nextOfPost" "LModeratorsBench$Case;" "ModeratorsBench" ∈ lw_tbl := (List.mem_of_getElem? (i := 480) (by decide +kernel))
theorem wn_X7_335 : Cond.fieldLinkNest RX7 335 "ModeratorsBench$Gift" "judge" "LModeratorsBench$Judge;" "ModeratorsBench" ∈ lw_tbl := (List.mem_of_getElem? (i := 624) (by decide +kernel))
theorem wn_X7_173 : Cond.fieldLinkNest RX7 173 "ModeratorsBench$Gift" "held" "LModeratorsBench$Case;" "ModeratorsBench" ∈ lw_tbl := (List.mem_of_getElem? (i := 626) (by decide +kernel))
theorem wu_Jx4a65c : ∀ w ∈ u_ws RJx4a65c TJx4a65c 3, w ∈ gtbl := by
  intro w hw
  obtain ⟨k, hk, rfl⟩ := List.mem_map.mp hw
  have hk := List.mem_range.mp hk
  match k, hk with
  | 0, _ => exact (gt_in 128 (by decide +kernel) rfl)
  | 1, _ => exact (gt_in 124 (by decide +kernel) rfl)
  | 2, _ => exact (gt_in 126 (by decide +kernel) rfl)
  | j + 3, h => exact absurd h (by omega)
theorem wu_X0 : ∀ w ∈ u_ws RX0 TX0 12, w ∈ gtbl := by
  intro w hw
  obtain ⟨k, hk, rfl⟩ := List.mem_map.mp hw
  have hk := List.mem_range.mp hk
  match k, hk with
  | 0, _ => exact (gt_in 481 (by decide +kernel) rfl)
  | 1, _ => exact (gt_in 483 (by decide +kernel) rfl)
  | 2, _ => exact (gt_in 485 (by decide +kernel) rfl)
  | 3, _ => exact (gt_in 487 (by decide +kernel) rfl)
  | 4, _ => exact (gt_in 489 (by decide +kernel) rfl)
  | 5, _ => exact (gt_in 491 (by decide +kernel) rfl)
  | 6, _ => exact (gt_in 493 (by decide +kernel) rfl)
  | 7, _ => exact (gt_in 495 (by decide +kernel) rfl)
  | 8, _ => exact (gt_in 497 (by decide +kernel) rfl)
  | 9, _ => exact (gt_in 499 (by decide +kernel) rfl)
  | 10, _ => exact (gt_in 501 (by decide +kernel) rfl)
  | 11, _ => exact (gt_in 503 (by decide +kernel) rfl)
  | j + 12, h => exact absurd h (by omega)
theorem wu_X1 : ∀ w ∈ u_ws RX1 TX1 2, w ∈ gtbl := by
  intro w hw
  obtain ⟨k, hk, rfl⟩ := List.mem_map.mp hw
  have hk := List.mem_range.mp hk
  match k, hk with
  | 0, _ => exact (gt_in 627 (by decide +kernel) rfl)
  | 1, _ => exact (gt_in 629 (by decide +kernel) rfl)
  | j + 2, h => exact absurd h (by omega)
theorem wu_X2 : ∀ w ∈ u_ws RX2 TX2 7, w ∈ gtbl := by
  intro w hw
  obtain ⟨k, hk, rfl⟩ := List.mem_map.mp hw
  have hk := List.mem_range.mp hk
  match k, hk with
  | 0, _ => exact (gt_in 442 (by decide +kernel) rfl)
  | 1, _ => exact (gt_in 444 (by decide +kernel) rfl)
  | 2, _ => exact (gt_in 446 (by decide +kernel) rfl)
  | 3, _ => exact (gt_in 448 (by decide +kernel) rfl)
  | 4, _ => exact (gt_in 450 (by decide +kernel) rfl)
  | 5, _ => exact (gt_in 452 (by decide +kernel) rfl)
  | 6, _ => exact (gt_in 454 (by decide +kernel) rfl)
  | j + 7, h => exact absurd h (by omega)
theorem wu_X3 : ∀ w ∈ u_ws RX3 TX3 8, w ∈ gtbl := by
  intro w hw
  obtain ⟨k, hk, rfl⟩ := List.mem_map.mp hw
  have hk := List.mem_range.mp hk
  match k, hk with
  | 0, _ => exact (gt_in 216 (by decide +kernel) rfl)
  | 1, _ => exact (gt_in 218 (by decide +kernel) rfl)
  | 2, _ => exact (gt_in 220 (by decide +kernel) rfl)
  | 3, _ => exact (gt_in 222 (by decide +kernel) rfl)
  | 4, _ => exact (gt_in 224 (by decide +kernel) rfl)
  | 5, _ => exact (gt_in 226 (by decide +kernel) rfl)
  | 6, _ => exact (gt_in 228 (by decide +kernel) rfl)
  | 7, _ => exact (gt_in 230 (by decide +kernel) rfl)
  | j + 8, h => exact absurd h (by omega)
theorem wu_X4 : ∀ w ∈ u_ws RX4 TX4 8, w ∈ gtbl := by
  intro w hw
  obtain ⟨k, hk, rfl⟩ := List.mem_map.mp hw
  have hk := List.mem_range.mp hk
  match k, hk with
  | 0, _ => exact (gt_in 150 (by decide +kernel) rfl)
  | 1, _ => exact (gt_in 152 (by decide +kernel) rfl)
  | 2, _ => exact (gt_in 154 (by decide +kernel) rfl)
  | 3, _ => exact (gt_in 156 (by decide +kernel) rfl)
  | 4, _ => exact (gt_in 158 (by decide +kernel) rfl)
  | 5, _ => exact (gt_in 160 (by decide +kernel) rfl)
  | 6, _ => exact (gt_in 162 (by decide +kernel) rfl)
  | 7, _ => exact (gt_in 164 (by decide +kernel) rfl)
  | j + 8, h => exact absurd h (by omega)
theorem wu_X5 : ∀ w ∈ u_ws RX5 TX5 7, w ∈ gtbl := by
  intro w hw
  obtain ⟨k, hk, rfl⟩ := List.mem_map.mp hw
  have hk := List.mem_range.mp hk
  match k, hk with
  | 0, _ => exact (gt_in 319 (by decide +kernel) rfl)
  | 1, _ => exact (gt_in 321 (by decide +kernel) rfl)
  | 2, _ => exact (gt_in 323 (by decide +kernel) rfl)
  | 3, _ => exact (gt_in 325 (by decide +kernel) rfl)
  | 4, _ => exact (gt_in 327 (by decide +kernel) rfl)
  | 5, _ => exact (gt_in 329 (by decide +kernel) rfl)
  | 6, _ => exact (gt_in 331 (by decide +kernel) rfl)
  | j + 7, h => exact absurd h (by omega)
theorem wu_X6 : ∀ w ∈ u_ws RX6 TX6 4, w ∈ gtbl := by
  intro w hw
  obtain ⟨k, hk, rfl⟩ := List.mem_map.mp hw
  have hk := List.mem_range.mp hk
  match k, hk with
  | 0, _ => exact (gt_in 184 (by decide +kernel) rfl)
  | 1, _ => exact (gt_in 186 (by decide +kernel) rfl)
  | 2, _ => exact (gt_in 188 (by decide +kernel) rfl)
  | 3, _ => exact (gt_in 190 (by decide +kernel) rfl)
  | j + 4, h => exact absurd h (by omega)
theorem wu_X7 : ∀ w ∈ u_ws RX7 TX7 10, w ∈ gtbl := by
  intro w hw
  obtain ⟨k, hk, rfl⟩ := List.mem_map.mp hw
  have hk := List.mem_range.mp hk
  match k, hk with
  | 0, _ => exact (gt_in 243 (by decide +kernel) rfl)
  | 1, _ => exact (gt_in 245 (by decide +kernel) rfl)
  | 2, _ => exact (gt_in 247 (by decide +kernel) rfl)
  | 3, _ => exact (gt_in 249 (by decide +kernel) rfl)
  | 4, _ => exact (gt_in 251 (by decide +kernel) rfl)
  | 5, _ => exact (gt_in 253 (by decide +kernel) rfl)
  | 6, _ => exact (gt_in 255 (by decide +kernel) rfl)
  | 7, _ => exact (gt_in 257 (by decide +kernel) rfl)
  | 8, _ => exact (gt_in 259 (by decide +kernel) rfl)
  | 9, _ => exact (gt_in 261 (by decide +kernel) rfl)
  | j + 10, h => exact absurd h (by omega)
theorem wu_X8 : ∀ w ∈ u_ws RX8 TX8 47, w ∈ gtbl := by
  intro w hw
  obtain ⟨k, hk, rfl⟩ := List.mem_map.mp hw
  have hk := List.mem_range.mp hk
  match k, hk with
  | 0, _ => exact (gt_in 891 (by decide +kernel) rfl)
  | 1, _ => exact (gt_in 893 (by decide +kernel) rfl)
  | 2, _ => exact (gt_in 895 (by decide +kernel) rfl)
  | 3, _ => exact (gt_in 897 (by decide +kernel) rfl)
  | 4, _ => exact (gt_in 899 (by decide +kernel) rfl)
  | 5, _ => exact (gt_in 901 (by decide +kernel) rfl)
  | 6, _ => exact (gt_in 903 (by decide +kernel) rfl)
  | 7, _ => exact (gt_in 905 (by decide +kernel) rfl)
  | 8, _ => exact (gt_in 907 (by decide +kernel) rfl)
  | 9, _ => exact (gt_in 909 (by decide +kernel) rfl)
  | 10, _ => exact (gt_in 911 (by decide +kernel) rfl)
  | 11, _ => exact (gt_in 913 (by decide +kernel) rfl)
  | 12, _ => exact (gt_in 915 (by decide +kernel) rfl)
  | 13, _ => exact (gt_in 917 (by decide +kernel) rfl)
  | 14, _ => exact (gt_in 919 (by decide +kernel) rfl)
  | 15, _ => exact (gt_in 921 (by decide +kernel) rfl)
  | 16, _ => exact (gt_in 923 (by decide +kernel) rfl)
  | 17, _ => exact (gt_in 925 (by decide +kernel) rfl)
  | 18, _ => exact (gt_in 927 (by decide +kernel) rfl)
  | 19, _ => exact (gt_in 929 (by decide +kernel) rfl)
  | 20, _ => exact (gt_in 931 (by decide +kernel) rfl)
  | 21, _ => exact (gt_in 933 (by decide +kernel) rfl)
  | 22, _ => exact (gt_in 935 (by decide +kernel) rfl)
  | 23, _ => exact (gt_in 937 (by decide +kernel) rfl)
  | 24, _ => exact (gt_in 939 (by decide +kernel) rfl)
  | 25, _ => exact (gt_in 941 (by decide +kernel) rfl)
  | 26, _ => exact (gt_in 943 (by decide +kernel) rfl)
  | 27, _ => exact (gt_in 945 (by decide +kernel) rfl)
  | 28, _ => exact (gt_in 947 (by decide +kernel) rfl)
  | 29, _ => exact (gt_in 949 (by decide +kernel) rfl)
  | 30, _ => exact (gt_in 951 (by decide +kernel) rfl)
  | 31, _ => exact (gt_in 953 (by decide +kernel) rfl)
  | 32, _ => exact (gt_in 955 (by decide +kernel) rfl)
  | 33, _ => exact (gt_in 957 (by decide +kernel) rfl)
  | 34, _ => exact (gt_in 959 (by decide +kernel) rfl)
  | 35, _ => exact (gt_in 961 (by decide +kernel) rfl)
  | 36, _ => exact (gt_in 963 (by decide +kernel) rfl)
  | 37, _ => exact (gt_in 965 (by decide +kernel) rfl)
  | 38, _ => exact (gt_in 967 (by decide +kernel) rfl)
  | 39, _ => exact (gt_in 969 (by decide +kernel) rfl)
  | 40, _ => exact (gt_in 971 (by decide +kernel) rfl)
  | 41, _ => exact (gt_in 973 (by decide +kernel) rfl)
  | 42, _ => exact (gt_in 975 (by decide +kernel) rfl)
  | 43, _ => exact (gt_in 977 (by decide +kernel) rfl)
  | 44, _ => exact (gt_in 979 (by decide +kernel) rfl)
  | 45, _ => exact (gt_in 981 (by decide +kernel) rfl)
  | 46, _ => exact (gt_in 983 (by decide +kernel) rfl)
  | j + 47, h => exact absurd h (by omega)
theorem lk_L_9 : LkI RL 9 yX7_init cX7_init 2 0 := ⟨lb_X7_init, (gt_in 95 (by decide +kernel) rfl), (gt_in 96 (by decide +kernel) rfl), rfl⟩
theorem lk_X7_23 : LkI RX7 23 yJx4a65c_init_da8c8 cJx4a65c_init_da8c8 1 0 := ⟨lb_Jx4a65c_init_da8c8, (gt_in 107 (by decide +kernel) rfl), (gt_in 108 (by decide +kernel) rfl), rfl⟩
theorem lk_Jx4a65c_1 : LkI RJx4a65c 1 yJxc12de_init_da8c8 cJxc12de_init_da8c8 1 0 := ⟨lb_Jxc12de_init_da8c8, (gt_in 110 (by decide +kernel) rfl), (gt_in 111 (by decide +kernel) rfl), rfl⟩
theorem lk_Jxc12de_1 : LkI RJxc12de 1 yJxa1e45_init_da8c8 cJxa1e45_init_da8c8 1 0 := ⟨lb_Jxa1e45_init_da8c8, (gt_in 113 (by decide +kernel) rfl), (gt_in 114 (by decide +kernel) rfl), rfl⟩
theorem lk_L_13 : LkV RL 13 yX7_tick cX7_tick 2 (some .int) 1 := ⟨lb_X7_tick, (gt_in 264 (by decide +kernel) rfl), (gt_in 265 (by decide +kernel) rfl), (gt_in 266 (by decide +kernel) rfl)⟩
theorem lk_X7_59 : LkS RX7 59 yX7_within cX7_within 3 (some .boolean) 3 := ⟨lb_X7_within, (gt_in 268 (by decide +kernel) rfl), (gt_in 269 (by decide +kernel) rfl)⟩
theorem lk_L_18 : LkV RL 18 yX7_rule cX7_rule 6 (some .int) 4 := ⟨lb_X7_rule, (gt_in 272 (by decide +kernel) rfl), (gt_in 273 (by decide +kernel) rfl), (gt_in 274 (by decide +kernel) rfl)⟩
theorem lk_X7_64 : LkV RX7 64 yX7_ruleAt cX7_ruleAt 2 (some (.object "ModeratorsBench$Rule")) 1 := ⟨lb_X7_ruleAt, (gt_in 276 (by decide +kernel) rfl), (gt_in 278 (by decide +kernel) rfl), (gt_in 0 (by decide +kernel) rfl)⟩
theorem lk_L_23 : LkV RL 23 yX7_ladder cX7_ladder 3 (some .int) 2 := ⟨lb_X7_ladder, (gt_in 280 (by decide +kernel) rfl), (gt_in 281 (by decide +kernel) rfl), (gt_in 282 (by decide +kernel) rfl)⟩
theorem lk_L_28 : LkV RL 28 yX7_due cX7_due 4 (some .int) 2 := ⟨lb_X7_due, (gt_in 284 (by decide +kernel) rfl), (gt_in 285 (by decide +kernel) rfl), (gt_in 286 (by decide +kernel) rfl)⟩
theorem lk_L_32 : LkV RL 32 yX7_limit cX7_limit 3 (some .int) 1 := ⟨lb_X7_limit, (gt_in 288 (by decide +kernel) rfl), (gt_in 289 (by decide +kernel) rfl), (gt_in 290 (by decide +kernel) rfl)⟩
theorem lk_L_36 : LkV RL 36 yX7_post cX7_post 5 (some .int) 3 := ⟨lb_X7_post, (gt_in 292 (by decide +kernel) rfl), (gt_in 293 (by decide +kernel) rfl), (gt_in 294 (by decide +kernel) rfl)⟩
theorem lk_X7_83 : LkV RX7 83 yJx4a65c_size_8abf5 cJx4a65c_size_8abf5 1 (some .int) 0 := ⟨lb_Jx4a65c_size_8abf5, (gt_in 296 (by decide +kernel) rfl), (gt_in 297 (by decide +kernel) rfl), (gt_in 298 (by decide +kernel) rfl)⟩
theorem lk_X7_92 : LkV RX7 92 yJx4a65c_add_9ea2d cJx4a65c_add_9ea2d 2 (some .boolean) 1 := ⟨lb_Jx4a65c_add_9ea2d, (gt_in 334 (by decide +kernel) rfl), (gt_in 335 (by decide +kernel) rfl), (gt_in 336 (by decide +kernel) rfl)⟩
theorem lk_Jx4a65c_131 : LkV RJx4a65c 131 yJx4a65c_add_72be8 cJx4a65c_add_72be8 4 none 3 := ⟨lb_Jx4a65c_add_72be8, (gt_in 338 (by decide +kernel) rfl), (gt_in 340 (by decide +kernel) rfl), (gt_in 1 (by decide +kernel) rfl)⟩
theorem lk_Jx4a65c_129 : LkV RJx4a65c 129 yJx4a65c_grow_d5877 cJx4a65c_grow_d5877 1 (some (.array (.object "java/lang/Object"))) 0 := ⟨lb_Jx4a65c_grow_d5877, (gt_in 342 (by decide +kernel) rfl), (gt_in 344 (by decide +kernel) rfl), (gt_in 2 (by decide +kernel) rfl)⟩
theorem lk_Jx4a65c_69 : LkV RJx4a65c 69 yJx4a65c_grow_92f84 cJx4a65c_grow_92f84 4 (some (.array (.object "java/lang/Object"))) 1 := ⟨lb_Jx4a65c_grow_92f84, (gt_in 346 (by decide +kernel) rfl), (gt_in 348 (by decide +kernel) rfl), (gt_in 3 (by decide +kernel) rfl)⟩
theorem lk_Jx4a65c_73 : LkS RJx4a65c 73 yJ8_newLength_cabcc cJ8_newLength_cabcc 4 (some .int) 3 := ⟨lb_J8_newLength_cabcc, (gt_in 350 (by decide +kernel) rfl), (gt_in 351 (by decide +kernel) rfl)⟩
theorem lk_J8_194 : LkS RJ8 194 yJ9_max_7cf53 cJ9_max_7cf53 2 (some .int) 2 := ⟨lb_J9_max_7cf53, (gt_in 353 (by decide +kernel) rfl), (gt_in 354 (by decide +kernel) rfl)⟩
theorem lk_J8_201 : LkS RJ8 201 yJ8_hugeLength_7cf53 cJ8_hugeLength_7cf53 3 (some .int) 2 := ⟨lb_J8_hugeLength_7cf53, (gt_in 357 (by decide +kernel) rfl), (gt_in 358 (by decide +kernel) rfl)⟩
theorem lk_Jx4a65c_66 : LkS RJx4a65c 66 yJ7_copyOf_1904c cJ7_copyOf_1904c 2 (some (.array (.object "java/lang/Object"))) 2 := ⟨lb_J7_copyOf_1904c, (gt_in 360 (by decide +kernel) rfl), (gt_in 361 (by decide +kernel) rfl)⟩
theorem lk_J7_300 : LkS RJ7 300 yJ7_copyOf_6403c cJ7_copyOf_6403c 4 (some (.array (.object "java/lang/Object"))) 3 := ⟨lb_J7_copyOf_6403c, (gt_in 377 (by decide +kernel) rfl), (gt_in 378 (by decide +kernel) rfl)⟩
theorem lk_J7_304 : LkS RJ7 304 yJ9_min_7cf53 cJ9_min_7cf53 2 (some .int) 2 := ⟨lb_J9_min_7cf53, (gt_in 383 (by decide +kernel) rfl), (gt_in 384 (by decide +kernel) rfl)⟩
theorem lk_Jx4a65c_79 : LkS RJx4a65c 79 yJ9_max_7cf53 cJ9_max_7cf53 2 (some .int) 2 := ⟨lb_J9_max_7cf53, (gt_in 389 (by decide +kernel) rfl), (gt_in 354 (by decide +kernel) rfl)⟩
theorem lk_L_41 : LkV RL 41 yX7_complain cX7_complain 8 (some .int) 2 := ⟨lb_X7_complain, (gt_in 391 (by decide +kernel) rfl), (gt_in 392 (by decide +kernel) rfl), (gt_in 393 (by decide +kernel) rfl)⟩
theorem lk_X7_96 : LkV RX7 96 yX7_postAt cX7_postAt 2 (some (.object "ModeratorsBench$Post")) 1 := ⟨lb_X7_postAt, (gt_in 395 (by decide +kernel) rfl), (gt_in 397 (by decide +kernel) rfl), (gt_in 4 (by decide +kernel) rfl)⟩
theorem lk_X7_169 : LkV RX7 169 yJx4a65c_get_915e3 cJx4a65c_get_915e3 2 (some (.object "java/lang/Object")) 1 := ⟨lb_Jx4a65c_get_915e3, (gt_in 399 (by decide +kernel) rfl), (gt_in 400 (by decide +kernel) rfl), (gt_in 401 (by decide +kernel) rfl)⟩
theorem lk_Jx4a65c_118 : LkS RJx4a65c 118 yJ15_checkIndex_7cf53 cJ15_checkIndex_7cf53 2 (some .int) 2 := ⟨lb_J15_checkIndex_7cf53, (gt_in 403 (by decide +kernel) rfl), (gt_in 404 (by decide +kernel) rfl)⟩
theorem lk_J15_105 : LkS RJ15 105 yJ3_checkIndex_8e157 cJ3_checkIndex_8e157 3 (some .int) 3 := ⟨lb_J3_checkIndex_8e157, (gt_in 406 (by decide +kernel) rfl), (gt_in 407 (by decide +kernel) rfl)⟩
theorem lk_Jx4a65c_123 : LkV RJx4a65c 123 yJx4a65c_elementData_915e3 cJx4a65c_elementData_915e3 2 (some (.object "java/lang/Object")) 1 := ⟨lb_Jx4a65c_elementData_915e3, (gt_in 409 (by decide +kernel) rfl), (gt_in 410 (by decide +kernel) rfl), (gt_in 411 (by decide +kernel) rfl)⟩
theorem lk_L_45 : LkV RL 45 yX7_judge cX7_judge 6 (some .int) 4 := ⟨lb_X7_judge, (gt_in 510 (by decide +kernel) rfl), (gt_in 511 (by decide +kernel) rfl), (gt_in 512 (by decide +kernel) rfl)⟩
theorem lk_X7_119 : LkV RX7 119 yX7_judgeAt cX7_judgeAt 2 (some (.object "ModeratorsBench$Judge")) 1 := ⟨lb_X7_judgeAt, (gt_in 514 (by decide +kernel) rfl), (gt_in 516 (by decide +kernel) rfl), (gt_in 7 (by decide +kernel) rfl)⟩
theorem lk_L_49 : LkV RL 49 yX7_kin cX7_kin 6 (some .int) 3 := ⟨lb_X7_kin, (gt_in 518 (by decide +kernel) rfl), (gt_in 519 (by decide +kernel) rfl), (gt_in 520 (by decide +kernel) rfl)⟩
theorem lk_X7_136 : LkS RX7 136 yX7_asNumber cX7_asNumber 1 (some .int) 1 := ⟨lb_X7_asNumber, (gt_in 526 (by decide +kernel) rfl), (gt_in 527 (by decide +kernel) rfl)⟩
theorem lk_L_53 : LkV RL 53 yX7_rest cX7_rest 5 (some .int) 2 := ⟨lb_X7_rest, (gt_in 534 (by decide +kernel) rfl), (gt_in 535 (by decide +kernel) rfl), (gt_in 536 (by decide +kernel) rfl)⟩
theorem lk_X7_148 : LkV RX7 148 yX7_layToRest cX7_layToRest 3 none 1 := ⟨lb_X7_layToRest, (gt_in 538 (by decide +kernel) rfl), (gt_in 540 (by decide +kernel) rfl), (gt_in 10 (by decide +kernel) rfl)⟩
theorem lk_X7_177 : LkV RX7 177 yX7_takeBack cX7_takeBack 3 none 1 := ⟨lb_X7_takeBack, (gt_in 543 (by decide +kernel) rfl), (gt_in 545 (by decide +kernel) rfl), (gt_in 11 (by decide +kernel) rfl)⟩
theorem lk_X7_339 : LkV RX7 339 yJx4a65c_remove_915e3 cJx4a65c_remove_915e3 4 (some (.object "java/lang/Object")) 1 := ⟨lb_Jx4a65c_remove_915e3, (gt_in 547 (by decide +kernel) rfl), (gt_in 548 (by decide +kernel) rfl), (gt_in 549 (by decide +kernel) rfl)⟩
theorem lk_Jx4a65c_144 : LkV RJx4a65c 144 yJx4a65c_fastRemove_b59b0 cJx4a65c_fastRemove_b59b0 4 none 2 := ⟨lb_Jx4a65c_fastRemove_b59b0, (gt_in 551 (by decide +kernel) rfl), (gt_in 553 (by decide +kernel) rfl), (gt_in 12 (by decide +kernel) rfl)⟩
theorem lk_L_57 : LkV RL 57 yX7_next cX7_next 4 (some .int) 1 := ⟨lb_X7_next, (gt_in 556 (by decide +kernel) rfl), (gt_in 557 (by decide +kernel) rfl), (gt_in 558 (by decide +kernel) rfl)⟩
theorem lk_X7_152 : LkV RX7 152 yX7_nextFor cX7_nextFor 7 (some (.object "ModeratorsBench$Case")) 1 := ⟨lb_X7_nextFor, (gt_in 560 (by decide +kernel) rfl), (gt_in 562 (by decide +kernel) rfl), (gt_in 13 (by decide +kernel) rfl)⟩
theorem lk_X7_206 : LkS RX7 206 yX7_mayHave cX7_mayHave 2 (some .boolean) 2 := ⟨lb_X7_mayHave, (gt_in 564 (by decide +kernel) rfl), (gt_in 565 (by decide +kernel) rfl)⟩
theorem lk_X0_73 : LkV RX0 73 yX0_hearing cX0_hearing 1 (some (.object "ModeratorsBench$Hearing")) 0 := ⟨lb_X0_hearing, (gt_in 575 (by decide +kernel) rfl), (gt_in 577 (by decide +kernel) rfl), (gt_in 16 (by decide +kernel) rfl)⟩
theorem lk_X2_34 : LkS RX2 34 yJ6_bitCount_0f7a4 cJ6_bitCount_0f7a4 1 (some .int) 1 := ⟨lb_J6_bitCount_0f7a4, (gt_in 583 (by decide +kernel) rfl), (gt_in 584 (by decide +kernel) rfl)⟩
theorem lk_X0_84 : LkV RX0 84 yX0_giftsOut cX0_giftsOut 1 (some .int) 0 := ⟨lb_X0_giftsOut, (gt_in 589 (by decide +kernel) rfl), (gt_in 591 (by decide +kernel) rfl), (gt_in 18 (by decide +kernel) rfl)⟩
theorem lk_X0_67 : LkS RX0 67 yJ6_bitCount_0f7a4 cJ6_bitCount_0f7a4 1 (some .int) 1 := ⟨lb_J6_bitCount_0f7a4, (gt_in 593 (by decide +kernel) rfl), (gt_in 584 (by decide +kernel) rfl)⟩
theorem lk_L_61 : LkV RL 61 yX7_give cX7_give 4 (some .int) 1 := ⟨lb_X7_give, (gt_in 614 (by decide +kernel) rfl), (gt_in 615 (by decide +kernel) rfl), (gt_in 616 (by decide +kernel) rfl)⟩
theorem lk_L_65 : LkV RL 65 yX7_undo cX7_undo 3 (some .int) 0 := ⟨lb_X7_undo, (gt_in 632 (by decide +kernel) rfl), (gt_in 633 (by decide +kernel) rfl), (gt_in 634 (by decide +kernel) rfl)⟩
theorem lk_L_70 : LkV RL 70 yX7_vote cX7_vote 7 (some .int) 3 := ⟨lb_X7_vote, (gt_in 636 (by decide +kernel) rfl), (gt_in 637 (by decide +kernel) rfl), (gt_in 638 (by decide +kernel) rfl)⟩
theorem lk_X7_180 : LkV RX7 180 yX7_caseAt cX7_caseAt 2 (some (.object "ModeratorsBench$Case")) 1 := ⟨lb_X7_caseAt, (gt_in 640 (by decide +kernel) rfl), (gt_in 642 (by decide +kernel) rfl), (gt_in 24 (by decide +kernel) rfl)⟩
theorem lk_X7_183 : LkV RX7 183 yX7_giftOf cX7_giftOf 5 (some .int) 2 := ⟨lb_X7_giftOf, (gt_in 644 (by decide +kernel) rfl), (gt_in 646 (by decide +kernel) rfl), (gt_in 25 (by decide +kernel) rfl)⟩
theorem lk_X7_200 : LkV RX7 200 yX7_settle cX7_settle 3 none 1 := ⟨lb_X7_settle, (gt_in 653 (by decide +kernel) rfl), (gt_in 655 (by decide +kernel) rfl), (gt_in 27 (by decide +kernel) rfl)⟩
theorem lk_X7_261 : LkV RX7 261 yX7_restDoubtedJudges cX7_restDoubtedJudges 6 none 0 := ⟨lb_X7_restDoubtedJudges, (gt_in 678 (by decide +kernel) rfl), (gt_in 680 (by decide +kernel) rfl), (gt_in 33 (by decide +kernel) rfl)⟩
theorem lk_X7_210 : LkV RX7 210 yX7_askedOf cX7_askedOf 4 (some .int) 1 := ⟨lb_X7_askedOf, (gt_in 682 (by decide +kernel) rfl), (gt_in 684 (by decide +kernel) rfl), (gt_in 34 (by decide +kernel) rfl)⟩
theorem lk_X2_48 : LkV RX2 48 yX2_hasVoter cX2_hasVoter 2 (some .boolean) 1 := ⟨lb_X2_hasVoter, (gt_in 694 (by decide +kernel) rfl), (gt_in 612 (by decide +kernel) rfl), (gt_in 23 (by decide +kernel) rfl)⟩
theorem lk_X2_52 : LkV RX2 52 yX2_findsGuilty cX2_findsGuilty 1 (some .boolean) 0 := ⟨lb_X2_findsGuilty, (gt_in 695 (by decide +kernel) rfl), (gt_in 676 (by decide +kernel) rfl), (gt_in 32 (by decide +kernel) rfl)⟩
theorem lk_X7_214 : LkV RX7 214 yX7_stoodAlone cX7_stoodAlone 4 (some .int) 1 := ⟨lb_X7_stoodAlone, (gt_in 696 (by decide +kernel) rfl), (gt_in 698 (by decide +kernel) rfl), (gt_in 37 (by decide +kernel) rfl)⟩
theorem lk_L_74 : LkV RL 74 yX7_may cX7_may 5 (some .int) 2 := ⟨lb_X7_may, (gt_in 700 (by decide +kernel) rfl), (gt_in 701 (by decide +kernel) rfl), (gt_in 702 (by decide +kernel) rfl)⟩
theorem lk_L_78 : LkV RL 78 yX7_told cX7_told 4 (some .int) 2 := ⟨lb_X7_told, (gt_in 704 (by decide +kernel) rfl), (gt_in 705 (by decide +kernel) rfl), (gt_in 706 (by decide +kernel) rfl)⟩
theorem lk_L_82 : LkV RL 82 yX7_about cX7_about 4 (some .int) 2 := ⟨lb_X7_about, (gt_in 708 (by decide +kernel) rfl), (gt_in 709 (by decide +kernel) rfl), (gt_in 710 (by decide +kernel) rfl)⟩
theorem lk_X7_237 : LkV RX7 237 yX7_lateBy cX7_lateBy 2 (some .int) 1 := ⟨lb_X7_lateBy, (gt_in 713 (by decide +kernel) rfl), (gt_in 715 (by decide +kernel) rfl), (gt_in 38 (by decide +kernel) rfl)⟩
theorem lk_X7_361 : LkS RX7 361 yJ9_max_7cf53 cJ9_max_7cf53 2 (some .int) 2 := ⟨lb_J9_max_7cf53, (gt_in 717 (by decide +kernel) rfl), (gt_in 354 (by decide +kernel) rfl)⟩
theorem lk_L_86 : LkV RL 86 yX7_judged cX7_judged 5 (some .int) 2 := ⟨lb_X7_judged, (gt_in 723 (by decide +kernel) rfl), (gt_in 724 (by decide +kernel) rfl), (gt_in 725 (by decide +kernel) rfl)⟩
theorem lk_L_90 : LkV RL 90 yX7_appeal cX7_appeal 3 (some .int) 1 := ⟨lb_X7_appeal, (gt_in 731 (by decide +kernel) rfl), (gt_in 732 (by decide +kernel) rfl), (gt_in 733 (by decide +kernel) rfl)⟩
theorem lk_X0_96 : LkS RX0 96 yJ9_min_7cf53 cJ9_min_7cf53 2 (some .int) 2 := ⟨lb_J9_min_7cf53, (gt_in 739 (by decide +kernel) rfl), (gt_in 384 (by decide +kernel) rfl)⟩
theorem lk_L_94 : LkV RL 94 yX7_known cX7_known 5 (some .int) 2 := ⟨lb_X7_known, (gt_in 740 (by decide +kernel) rfl), (gt_in 741 (by decide +kernel) rfl), (gt_in 742 (by decide +kernel) rfl)⟩
theorem lk_L_98 : LkV RL 98 yX7_late cX7_late 5 (some .int) 0 := ⟨lb_X7_late, (gt_in 744 (by decide +kernel) rfl), (gt_in 745 (by decide +kernel) rfl), (gt_in 746 (by decide +kernel) rfl)⟩
theorem lk_L_102 : LkV RL 102 yX7_like cX7_like 4 (some .int) 2 := ⟨lb_X7_like, (gt_in 748 (by decide +kernel) rfl), (gt_in 749 (by decide +kernel) rfl), (gt_in 750 (by decide +kernel) rfl)⟩
theorem lk_X7_264 : LkV RX7 264 yX7_alike cX7_alike 7 (some .int) 3 := ⟨lb_X7_alike, (gt_in 752 (by decide +kernel) rfl), (gt_in 754 (by decide +kernel) rfl), (gt_in 42 (by decide +kernel) rfl)⟩
theorem lk_X0_113 : LkV RX0 113 yX0_isUndecided cX0_isUndecided 1 (some .boolean) 0 := ⟨lb_X0_isUndecided, (gt_in 760 (by decide +kernel) rfl), (gt_in 569 (by decide +kernel) rfl), (gt_in 14 (by decide +kernel) rfl)⟩
theorem lk_L_106 : LkV RL 106 yX7_unlike cX7_unlike 6 (some .int) 2 := ⟨lb_X7_unlike, (gt_in 765 (by decide +kernel) rfl), (gt_in 766 (by decide +kernel) rfl), (gt_in 767 (by decide +kernel) rfl)⟩
theorem lk_X7_268 : LkS RX7 268 yJ9_min_7cf53 cJ9_min_7cf53 2 (some .int) 2 := ⟨lb_J9_min_7cf53, (gt_in 769 (by decide +kernel) rfl), (gt_in 384 (by decide +kernel) rfl)⟩
theorem lk_L_110 : LkV RL 110 yX7_writer cX7_writer 3 (some .int) 2 := ⟨lb_X7_writer, (gt_in 770 (by decide +kernel) rfl), (gt_in 771 (by decide +kernel) rfl), (gt_in 772 (by decide +kernel) rfl)⟩
theorem lk_X7_274 : LkV RX7 274 yX7_climbLadder cX7_climbLadder 6 none 2 := ⟨lb_X7_climbLadder, (gt_in 774 (by decide +kernel) rfl), (gt_in 776 (by decide +kernel) rfl), (gt_in 45 (by decide +kernel) rfl)⟩
theorem lk_X0_60 : LkV RX0 60 yX0_guiltStands cX0_guiltStands 1 (some .boolean) 0 := ⟨lb_X0_guiltStands, (gt_in 786 (by decide +kernel) rfl), (gt_in 763 (by decide +kernel) rfl), (gt_in 44 (by decide +kernel) rfl)⟩
theorem lk_X4_38 : LkV RX4 38 yX4_holdingAt cX4_holdingAt 2 (some .int) 1 := ⟨lb_X4_holdingAt, (gt_in 791 (by decide +kernel) rfl), (gt_in 793 (by decide +kernel) rfl), (gt_in 49 (by decide +kernel) rfl)⟩
theorem lk_X4_42 : LkS RX4 42 yJ9_min_7cf53 cJ9_min_7cf53 2 (some .int) 2 := ⟨lb_J9_min_7cf53, (gt_in 795 (by decide +kernel) rfl), (gt_in 384 (by decide +kernel) rfl)⟩
theorem lk_X7_288 : LkV RX7 288 yX7_timesWarned cX7_timesWarned 5 (some .int) 1 := ⟨lb_X7_timesWarned, (gt_in 797 (by decide +kernel) rfl), (gt_in 799 (by decide +kernel) rfl), (gt_in 50 (by decide +kernel) rfl)⟩
theorem lk_X7_291 : LkV RX7 291 yX7_postsOf cX7_postsOf 6 (some .int) 2 := ⟨lb_X7_postsOf, (gt_in 801 (by decide +kernel) rfl), (gt_in 803 (by decide +kernel) rfl), (gt_in 51 (by decide +kernel) rfl)⟩
theorem lk_L_114 : LkV RL 114 yX7_level cX7_level 3 (some .int) 1 := ⟨lb_X7_level, (gt_in 810 (by decide +kernel) rfl), (gt_in 811 (by decide +kernel) rfl), (gt_in 812 (by decide +kernel) rfl)⟩
theorem lk_L_118 : LkV RL 118 yX7_hidden cX7_hidden 3 (some .int) 1 := ⟨lb_X7_hidden, (gt_in 814 (by decide +kernel) rfl), (gt_in 815 (by decide +kernel) rfl), (gt_in 816 (by decide +kernel) rfl)⟩
theorem lk_L_122 : LkV RL 122 yX7_count cX7_count 2 (some .int) 1 := ⟨lb_X7_count, (gt_in 818 (by decide +kernel) rfl), (gt_in 819 (by decide +kernel) rfl), (gt_in 820 (by decide +kernel) rfl)⟩
theorem lk_X7_307 : LkV RX7 307 yX7_undecidedCases cX7_undecidedCases 3 (some .int) 0 := ⟨lb_X7_undecidedCases, (gt_in 822 (by decide +kernel) rfl), (gt_in 824 (by decide +kernel) rfl), (gt_in 53 (by decide +kernel) rfl)⟩
theorem lk_L_126 : LkV RL 126 yX7_check cX7_check 8 (some .int) 0 := ⟨lb_X7_check, (gt_in 826 (by decide +kernel) rfl), (gt_in 827 (by decide +kernel) rfl), (gt_in 828 (by decide +kernel) rfl)⟩
theorem lk_L_12 : LkI RL 12 yX8_init cX8_init 2 0 := ⟨lb_X8_init, (gt_in 840 (by decide +kernel) rfl), (gt_in 841 (by decide +kernel) rfl), rfl⟩
theorem lk_L_17 : LkV RL 17 yX8_tick cX8_tick 2 (some .int) 1 := ⟨lb_X8_tick, (gt_in 988 (by decide +kernel) rfl), (gt_in 989 (by decide +kernel) rfl), (gt_in 990 (by decide +kernel) rfl)⟩
theorem lk_X8_136 : LkS RX8 136 yX8_within cX8_within 3 (some .boolean) 3 := ⟨lb_X8_within, (gt_in 992 (by decide +kernel) rfl), (gt_in 993 (by decide +kernel) rfl)⟩
theorem lk_L_22 : LkV RL 22 yX8_rule cX8_rule 5 (some .int) 4 := ⟨lb_X8_rule, (gt_in 996 (by decide +kernel) rfl), (gt_in 997 (by decide +kernel) rfl), (gt_in 998 (by decide +kernel) rfl)⟩
theorem lk_L_27 : LkV RL 27 yX8_ladder cX8_ladder 3 (some .int) 2 := ⟨lb_X8_ladder, (gt_in 1000 (by decide +kernel) rfl), (gt_in 1001 (by decide +kernel) rfl), (gt_in 1002 (by decide +kernel) rfl)⟩
theorem lk_L_31 : LkV RL 31 yX8_due cX8_due 4 (some .int) 2 := ⟨lb_X8_due, (gt_in 1004 (by decide +kernel) rfl), (gt_in 1005 (by decide +kernel) rfl), (gt_in 1006 (by decide +kernel) rfl)⟩
theorem lk_L_35 : LkV RL 35 yX8_limit cX8_limit 3 (some .int) 1 := ⟨lb_X8_limit, (gt_in 1008 (by decide +kernel) rfl), (gt_in 1009 (by decide +kernel) rfl), (gt_in 1010 (by decide +kernel) rfl)⟩
theorem lk_L_40 : LkV RL 40 yX8_post cX8_post 4 (some .int) 3 := ⟨lb_X8_post, (gt_in 1012 (by decide +kernel) rfl), (gt_in 1013 (by decide +kernel) rfl), (gt_in 1014 (by decide +kernel) rfl)⟩
theorem lk_L_44 : LkV RL 44 yX8_complain cX8_complain 4 (some .int) 2 := ⟨lb_X8_complain, (gt_in 1016 (by decide +kernel) rfl), (gt_in 1017 (by decide +kernel) rfl), (gt_in 1018 (by decide +kernel) rfl)⟩
theorem lk_L_48 : LkV RL 48 yX8_judge cX8_judge 5 (some .int) 4 := ⟨lb_X8_judge, (gt_in 1020 (by decide +kernel) rfl), (gt_in 1021 (by decide +kernel) rfl), (gt_in 1022 (by decide +kernel) rfl)⟩
theorem lk_X8_147 : LkS RX8 147 yX8_isJudge cX8_isJudge 1 (some .boolean) 1 := ⟨lb_X8_isJudge, (gt_in 1024 (by decide +kernel) rfl), (gt_in 1025 (by decide +kernel) rfl)⟩
theorem lk_L_52 : LkV RL 52 yX8_kin cX8_kin 5 (some .int) 3 := ⟨lb_X8_kin, (gt_in 1027 (by decide +kernel) rfl), (gt_in 1028 (by decide +kernel) rfl), (gt_in 1029 (by decide +kernel) rfl)⟩
theorem lk_L_56 : LkV RL 56 yX8_rest cX8_rest 4 (some .int) 2 := ⟨lb_X8_rest, (gt_in 1032 (by decide +kernel) rfl), (gt_in 1033 (by decide +kernel) rfl), (gt_in 1034 (by decide +kernel) rfl)⟩
theorem lk_X8_156 : LkV RX8 156 yX8_giveBack cX8_giveBack 4 none 1 := ⟨lb_X8_giveBack, (gt_in 1036 (by decide +kernel) rfl), (gt_in 1038 (by decide +kernel) rfl), (gt_in 56 (by decide +kernel) rfl)⟩
theorem lk_L_60 : LkV RL 60 yX8_next cX8_next 2 (some .int) 1 := ⟨lb_X8_next, (gt_in 1040 (by decide +kernel) rfl), (gt_in 1041 (by decide +kernel) rfl), (gt_in 1042 (by decide +kernel) rfl)⟩
theorem lk_X8_181 : LkV RX8 181 yX8_nextOf cX8_nextOf 4 (some .int) 1 := ⟨lb_X8_nextOf, (gt_in 1044 (by decide +kernel) rfl), (gt_in 1046 (by decide +kernel) rfl), (gt_in 57 (by decide +kernel) rfl)⟩
theorem lk_X8_177 : LkV RX8 177 yX8_mayHave cX8_mayHave 4 (some .boolean) 2 := ⟨lb_X8_mayHave, (gt_in 1048 (by decide +kernel) rfl), (gt_in 1050 (by decide +kernel) rfl), (gt_in 58 (by decide +kernel) rfl)⟩
theorem lk_X8_167 : LkV RX8 167 yX8_isAsking cX8_isAsking 2 (some .boolean) 1 := ⟨lb_X8_isAsking, (gt_in 1052 (by decide +kernel) rfl), (gt_in 1054 (by decide +kernel) rfl), (gt_in 59 (by decide +kernel) rfl)⟩
theorem lk_X8_170 : LkV RX8 170 yX8_giftsOf cX8_giftsOf 5 (some .int) 2 := ⟨lb_X8_giftsOf, (gt_in 1056 (by decide +kernel) rfl), (gt_in 1058 (by decide +kernel) rfl), (gt_in 60 (by decide +kernel) rfl)⟩
theorem lk_X8_174 : LkV RX8 174 yX8_votesOf cX8_votesOf 4 (some .int) 1 := ⟨lb_X8_votesOf, (gt_in 1060 (by decide +kernel) rfl), (gt_in 1062 (by decide +kernel) rfl), (gt_in 61 (by decide +kernel) rfl)⟩
theorem lk_X8_163 : LkV RX8 163 yX8_timeOf cX8_timeOf 2 (some .int) 1 := ⟨lb_X8_timeOf, (gt_in 1064 (by decide +kernel) rfl), (gt_in 1066 (by decide +kernel) rfl), (gt_in 62 (by decide +kernel) rfl)⟩
theorem lk_L_64 : LkV RL 64 yX8_give cX8_give 3 (some .int) 1 := ⟨lb_X8_give, (gt_in 1068 (by decide +kernel) rfl), (gt_in 1069 (by decide +kernel) rfl), (gt_in 1070 (by decide +kernel) rfl)⟩
theorem lk_L_69 : LkV RL 69 yX8_undo cX8_undo 1 (some .int) 0 := ⟨lb_X8_undo, (gt_in 1072 (by decide +kernel) rfl), (gt_in 1073 (by decide +kernel) rfl), (gt_in 1074 (by decide +kernel) rfl)⟩
theorem lk_L_77 : LkV RL 77 yX8_may cX8_may 3 (some .int) 2 := ⟨lb_X8_may, (gt_in 1076 (by decide +kernel) rfl), (gt_in 1077 (by decide +kernel) rfl), (gt_in 1078 (by decide +kernel) rfl)⟩
theorem lk_X8_184 : LkV RX8 184 yX8_isCase cX8_isCase 2 (some .boolean) 1 := ⟨lb_X8_isCase, (gt_in 1080 (by decide +kernel) rfl), (gt_in 1082 (by decide +kernel) rfl), (gt_in 63 (by decide +kernel) rfl)⟩
theorem lk_L_73 : LkV RL 73 yX8_vote cX8_vote 6 (some .int) 3 := ⟨lb_X8_vote, (gt_in 1084 (by decide +kernel) rfl), (gt_in 1085 (by decide +kernel) rfl), (gt_in 1086 (by decide +kernel) rfl)⟩
theorem lk_X8_194 : LkV RX8 194 yX8_settle cX8_settle 6 none 1 := ⟨lb_X8_settle, (gt_in 1088 (by decide +kernel) rfl), (gt_in 1090 (by decide +kernel) rfl), (gt_in 64 (by decide +kernel) rfl)⟩
theorem lk_X8_200 : LkV RX8 200 yX8_lookAtJudges cX8_lookAtJudges 3 none 0 := ⟨lb_X8_lookAtJudges, (gt_in 1092 (by decide +kernel) rfl), (gt_in 1094 (by decide +kernel) rfl), (gt_in 65 (by decide +kernel) rfl)⟩
theorem lk_X8_190 : LkV RX8 190 yX8_doubt cX8_doubt 6 (some .int) 2 := ⟨lb_X8_doubt, (gt_in 1096 (by decide +kernel) rfl), (gt_in 1098 (by decide +kernel) rfl), (gt_in 66 (by decide +kernel) rfl)⟩
theorem lk_X8_187 : LkV RX8 187 yX8_against cX8_against 3 (some .int) 1 := ⟨lb_X8_against, (gt_in 1100 (by decide +kernel) rfl), (gt_in 1102 (by decide +kernel) rfl), (gt_in 67 (by decide +kernel) rfl)⟩
theorem lk_L_81 : LkV RL 81 yX8_told cX8_told 5 (some .int) 2 := ⟨lb_X8_told, (gt_in 1104 (by decide +kernel) rfl), (gt_in 1105 (by decide +kernel) rfl), (gt_in 1106 (by decide +kernel) rfl)⟩
theorem lk_L_85 : LkV RL 85 yX8_about cX8_about 3 (some .int) 2 := ⟨lb_X8_about, (gt_in 1108 (by decide +kernel) rfl), (gt_in 1109 (by decide +kernel) rfl), (gt_in 1110 (by decide +kernel) rfl)⟩
theorem lk_X8_203 : LkV RX8 203 yX8_lateBy cX8_lateBy 3 (some .int) 1 := ⟨lb_X8_lateBy, (gt_in 1112 (by decide +kernel) rfl), (gt_in 1114 (by decide +kernel) rfl), (gt_in 68 (by decide +kernel) rfl)⟩
theorem lk_L_89 : LkV RL 89 yX8_judged cX8_judged 3 (some .int) 2 := ⟨lb_X8_judged, (gt_in 1116 (by decide +kernel) rfl), (gt_in 1117 (by decide +kernel) rfl), (gt_in 1118 (by decide +kernel) rfl)⟩
theorem lk_L_93 : LkV RL 93 yX8_appeal cX8_appeal 2 (some .int) 1 := ⟨lb_X8_appeal, (gt_in 1120 (by decide +kernel) rfl), (gt_in 1121 (by decide +kernel) rfl), (gt_in 1122 (by decide +kernel) rfl)⟩
theorem lk_L_97 : LkV RL 97 yX8_known cX8_known 4 (some .int) 2 := ⟨lb_X8_known, (gt_in 1124 (by decide +kernel) rfl), (gt_in 1125 (by decide +kernel) rfl), (gt_in 1126 (by decide +kernel) rfl)⟩
theorem lk_L_101 : LkV RL 101 yX8_late cX8_late 3 (some .int) 0 := ⟨lb_X8_late, (gt_in 1128 (by decide +kernel) rfl), (gt_in 1129 (by decide +kernel) rfl), (gt_in 1130 (by decide +kernel) rfl)⟩
theorem lk_L_105 : LkV RL 105 yX8_like cX8_like 3 (some .int) 2 := ⟨lb_X8_like, (gt_in 1132 (by decide +kernel) rfl), (gt_in 1133 (by decide +kernel) rfl), (gt_in 1134 (by decide +kernel) rfl)⟩
theorem lk_X8_206 : LkV RX8 206 yX8_likeOnes cX8_likeOnes 11 (some .int) 3 := ⟨lb_X8_likeOnes, (gt_in 1136 (by decide +kernel) rfl), (gt_in 1138 (by decide +kernel) rfl), (gt_in 69 (by decide +kernel) rfl)⟩
theorem lk_L_109 : LkV RL 109 yX8_unlike cX8_unlike 5 (some .int) 2 := ⟨lb_X8_unlike, (gt_in 1140 (by decide +kernel) rfl), (gt_in 1141 (by decide +kernel) rfl), (gt_in 1142 (by decide +kernel) rfl)⟩
theorem lk_L_113 : LkV RL 113 yX8_writer cX8_writer 10 (some .int) 2 := ⟨lb_X8_writer, (gt_in 1144 (by decide +kernel) rfl), (gt_in 1145 (by decide +kernel) rfl), (gt_in 1146 (by decide +kernel) rfl)⟩
theorem lk_X8_216 : LkV RX8 216 yX8_findStrikes cX8_findStrikes 6 none 1 := ⟨lb_X8_findStrikes, (gt_in 1148 (by decide +kernel) rfl), (gt_in 1150 (by decide +kernel) rfl), (gt_in 70 (by decide +kernel) rfl)⟩
theorem lk_X8_213 : LkV RX8 213 yX8_stands cX8_stands 2 (some .boolean) 1 := ⟨lb_X8_stands, (gt_in 1152 (by decide +kernel) rfl), (gt_in 1154 (by decide +kernel) rfl), (gt_in 71 (by decide +kernel) rfl)⟩
theorem lk_X8_219 : LkV RX8 219 yX8_isHidden cX8_isHidden 4 (some .boolean) 1 := ⟨lb_X8_isHidden, (gt_in 1156 (by decide +kernel) rfl), (gt_in 1158 (by decide +kernel) rfl), (gt_in 72 (by decide +kernel) rfl)⟩
theorem lk_L_117 : LkV RL 117 yX8_level cX8_level 3 (some .int) 1 := ⟨lb_X8_level, (gt_in 1160 (by decide +kernel) rfl), (gt_in 1161 (by decide +kernel) rfl), (gt_in 1162 (by decide +kernel) rfl)⟩
theorem lk_L_121 : LkV RL 121 yX8_hidden cX8_hidden 2 (some .int) 1 := ⟨lb_X8_hidden, (gt_in 1164 (by decide +kernel) rfl), (gt_in 1165 (by decide +kernel) rfl), (gt_in 1166 (by decide +kernel) rfl)⟩
theorem lk_L_125 : LkV RL 125 yX8_count cX8_count 4 (some .int) 1 := ⟨lb_X8_count, (gt_in 1168 (by decide +kernel) rfl), (gt_in 1169 (by decide +kernel) rfl), (gt_in 1170 (by decide +kernel) rfl)⟩
theorem lk_L_129 : LkV RL 129 yX8_check cX8_check 6 (some .int) 0 := ⟨lb_X8_check, (gt_in 1172 (by decide +kernel) rfl), (gt_in 1173 (by decide +kernel) rfl), (gt_in 1174 (by decide +kernel) rfl)⟩
theorem lk_X7_40 : LkIN RX7 40 yX4_init "ModeratorsBench" cX4_init 1 0 := ⟨lb_X4_init, (List.mem_of_getElem? (i := 133) (by decide +kernel)), (gt_in 134 (by decide +kernel) rfl), rfl⟩
theorem lk_X7_55 : LkIN RX7 55 yX6_init "ModeratorsBench" cX6_init 2 1 := ⟨lb_X6_init, (List.mem_of_getElem? (i := 169) (by decide +kernel)), (gt_in 170 (by decide +kernel) rfl), rfl⟩
theorem lk_X7_58 : LkIN RX7 58 yX3_init "ModeratorsBench" cX3_init 2 1 := ⟨lb_X3_init, (List.mem_of_getElem? (i := 194) (by decide +kernel)), (gt_in 195 (by decide +kernel) rfl), rfl⟩
theorem lk_X7_89 : LkIN RX7 89 yX5_init "ModeratorsBench" cX5_init 6 5 := ⟨lb_X5_init, (List.mem_of_getElem? (i := 302) (by decide +kernel)), (gt_in 303 (by decide +kernel) rfl), rfl⟩
theorem lk_X7_100 : LkVN RX7 100 yX5_caseUnder "ModeratorsBench" cX5_caseUnder 3 (some (.object "ModeratorsBench$Case")) 1 := ⟨lb_X5_caseUnder, (List.mem_of_getElem? (i := 413) (by decide +kernel)), (gt_in 415 (by decide +kernel) rfl), (gt_in 5 (by decide +kernel) rfl)⟩
theorem lk_X7_112 : LkIN RX7 112 yX0_init "ModeratorsBench" cX0_init 5 4 := ⟨lb_X0_init, (List.mem_of_getElem? (i := 419) (by decide +kernel)), (gt_in 420 (by decide +kernel) rfl), rfl⟩
theorem lk_X0_51 : LkIN RX0 51 yX2_init "ModeratorsBench" cX2_init 2 1 := ⟨lb_X2_init, (List.mem_of_getElem? (i := 425) (by decide +kernel)), (gt_in 426 (by decide +kernel) rfl), rfl⟩
theorem lk_X7_115 : LkVN RX7 115 yX5_addCase "ModeratorsBench" cX5_addCase 2 none 1 := ⟨lb_X5_addCase, (List.mem_of_getElem? (i := 506) (by decide +kernel)), (gt_in 508 (by decide +kernel) rfl), (gt_in 6 (by decide +kernel) rfl)⟩
theorem lk_X7_132 : LkVN RX7 132 yX3_isKinOf "ModeratorsBench" cX3_isKinOf 2 (some .boolean) 1 := ⟨lb_X3_isKinOf, (List.mem_of_getElem? (i := 522) (by decide +kernel)), (gt_in 524 (by decide +kernel) rfl), (gt_in 8 (by decide +kernel) rfl)⟩
theorem lk_X7_140 : LkVN RX7 140 yX3_setKin "ModeratorsBench" cX3_setKin 3 none 2 := ⟨lb_X3_setKin, (List.mem_of_getElem? (i := 529) (by decide +kernel)), (gt_in 531 (by decide +kernel) rfl), (gt_in 9 (by decide +kernel) rfl)⟩
theorem lk_X7_227 : LkVN RX7 227 yX0_isUndecided "ModeratorsBench" cX0_isUndecided 1 (some .boolean) 0 := ⟨lb_X0_isUndecided, (List.mem_of_getElem? (i := 567) (by decide +kernel)), (gt_in 569 (by decide +kernel) rfl), (gt_in 14 (by decide +kernel) rfl)⟩
theorem lk_X7_316 : LkVN RX7 316 yX0_wantsJudges "ModeratorsBench" cX0_wantsJudges 1 (some .boolean) 0 := ⟨lb_X0_wantsJudges, (List.mem_of_getElem? (i := 571) (by decide +kernel)), (gt_in 573 (by decide +kernel) rfl), (gt_in 15 (by decide +kernel) rfl)⟩
theorem lk_X0_80 : LkVN RX0 80 yX2_votes "ModeratorsBench" cX2_votes 1 (some .int) 0 := ⟨lb_X2_votes, (List.mem_of_getElem? (i := 579) (by decide +kernel)), (gt_in 581 (by decide +kernel) rfl), (gt_in 17 (by decide +kernel) rfl)⟩
theorem lk_X7_319 : LkVN RX7 319 yX3_isFree "ModeratorsBench" cX3_isFree 1 (some .boolean) 0 := ⟨lb_X3_isFree, (List.mem_of_getElem? (i := 594) (by decide +kernel)), (gt_in 596 (by decide +kernel) rfl), (gt_in 19 (by decide +kernel) rfl)⟩
theorem lk_X7_322 : LkVN RX7 322 yX3_isSkilledIn "ModeratorsBench" cX3_isSkilledIn 2 (some .boolean) 1 := ⟨lb_X3_isSkilledIn, (List.mem_of_getElem? (i := 598) (by decide +kernel)), (gt_in 600 (by decide +kernel) rfl), (gt_in 20 (by decide +kernel) rfl)⟩
theorem lk_X7_325 : LkVN RX7 325 yX0_isHeldBy "ModeratorsBench" cX0_isHeldBy 2 (some .boolean) 1 := ⟨lb_X0_isHeldBy, (List.mem_of_getElem? (i := 602) (by decide +kernel)), (gt_in 604 (by decide +kernel) rfl), (gt_in 21 (by decide +kernel) rfl)⟩
theorem lk_X7_329 : LkVN RX7 329 yX0_hasVoteOf "ModeratorsBench" cX0_hasVoteOf 2 (some .boolean) 1 := ⟨lb_X0_hasVoteOf, (List.mem_of_getElem? (i := 606) (by decide +kernel)), (gt_in 608 (by decide +kernel) rfl), (gt_in 22 (by decide +kernel) rfl)⟩
theorem lk_X0_92 : LkVN RX0 92 yX2_hasVoter "ModeratorsBench" cX2_hasVoter 2 (some .boolean) 1 := ⟨lb_X2_hasVoter, (List.mem_of_getElem? (i := 610) (by decide +kernel)), (gt_in 612 (by decide +kernel) rfl), (gt_in 23 (by decide +kernel) rfl)⟩
theorem lk_X7_158 : LkIN RX7 158 yX1_init "ModeratorsBench" cX1_init 3 2 := ⟨lb_X1_init, (List.mem_of_getElem? (i := 619) (by decide +kernel)), (gt_in 620 (by decide +kernel) rfl), rfl⟩
theorem lk_X7_190 : LkVN RX7 190 yX0_hearing "ModeratorsBench" cX0_hearing 1 (some (.object "ModeratorsBench$Hearing")) 0 := ⟨lb_X0_hearing, (List.mem_of_getElem? (i := 648) (by decide +kernel)), (gt_in 577 (by decide +kernel) rfl), (gt_in 16 (by decide +kernel) rfl)⟩
theorem lk_X7_194 : LkVN RX7 194 yX2_cast "ModeratorsBench" cX2_cast 3 none 2 := ⟨lb_X2_cast, (List.mem_of_getElem? (i := 649) (by decide +kernel)), (gt_in 651 (by decide +kernel) rfl), (gt_in 26 (by decide +kernel) rfl)⟩
theorem lk_X7_247 : LkVN RX7 247 yX2_votes "ModeratorsBench" cX2_votes 1 (some .int) 0 := ⟨lb_X2_votes, (List.mem_of_getElem? (i := 657) (by decide +kernel)), (gt_in 581 (by decide +kernel) rfl), (gt_in 17 (by decide +kernel) rfl)⟩
theorem lk_X7_342 : LkVN RX7 342 yX2_isAgreed "ModeratorsBench" cX2_isAgreed 2 (some .boolean) 0 := ⟨lb_X2_isAgreed, (List.mem_of_getElem? (i := 658) (by decide +kernel)), (gt_in 660 (by decide +kernel) rfl), (gt_in 28 (by decide +kernel) rfl)⟩
theorem lk_X7_345 : LkVN RX7 345 yX2_mayAskMore "ModeratorsBench" cX2_mayAskMore 1 (some .boolean) 0 := ⟨lb_X2_mayAskMore, (List.mem_of_getElem? (i := 662) (by decide +kernel)), (gt_in 664 (by decide +kernel) rfl), (gt_in 29 (by decide +kernel) rfl)⟩
theorem lk_X7_348 : LkVN RX7 348 yX2_askMore "ModeratorsBench" cX2_askMore 1 none 0 := ⟨lb_X2_askMore, (List.mem_of_getElem? (i := 666) (by decide +kernel)), (gt_in 668 (by decide +kernel) rfl), (gt_in 30 (by decide +kernel) rfl)⟩
theorem lk_X7_351 : LkVN RX7 351 yX0_close "ModeratorsBench" cX0_close 2 none 0 := ⟨lb_X0_close, (List.mem_of_getElem? (i := 670) (by decide +kernel)), (gt_in 672 (by decide +kernel) rfl), (gt_in 31 (by decide +kernel) rfl)⟩
theorem lk_X0_106 : LkVN RX0 106 yX2_findsGuilty "ModeratorsBench" cX2_findsGuilty 1 (some .boolean) 0 := ⟨lb_X2_findsGuilty, (List.mem_of_getElem? (i := 674) (by decide +kernel)), (gt_in 676 (by decide +kernel) rfl), (gt_in 32 (by decide +kernel) rfl)⟩
theorem lk_X7_354 : LkVN RX7 354 yX0_standOf "ModeratorsBench" cX0_standOf 3 (some .int) 1 := ⟨lb_X0_standOf, (List.mem_of_getElem? (i := 686) (by decide +kernel)), (gt_in 688 (by decide +kernel) rfl), (gt_in 35 (by decide +kernel) rfl)⟩
theorem lk_X0_121 : LkVN RX0 121 yX2_standAgainst "ModeratorsBench" cX2_standAgainst 5 (some .int) 2 := ⟨lb_X2_standAgainst, (List.mem_of_getElem? (i := 690) (by decide +kernel)), (gt_in 692 (by decide +kernel) rfl), (gt_in 36 (by decide +kernel) rfl)⟩
theorem lk_X7_234 : LkVN RX7 234 yX0_giftsOut "ModeratorsBench" cX0_giftsOut 1 (some .int) 0 := ⟨lb_X0_giftsOut, (List.mem_of_getElem? (i := 712) (by decide +kernel)), (gt_in 591 (by decide +kernel) rfl), (gt_in 18 (by decide +kernel) rfl)⟩
theorem lk_X7_241 : LkVN RX7 241 yX0_timesJudged "ModeratorsBench" cX0_timesJudged 1 (some .int) 0 := ⟨lb_X0_timesJudged, (List.mem_of_getElem? (i := 718) (by decide +kernel)), (gt_in 720 (by decide +kernel) rfl), (gt_in 39 (by decide +kernel) rfl)⟩
theorem lk_X0_109 : LkSN RX0 109 yX7_asNumber "ModeratorsBench" cX7_asNumber 1 (some .int) 1 := ⟨lb_X7_asNumber, (List.mem_of_getElem? (i := 722) (by decide +kernel)), (gt_in 527 (by decide +kernel) rfl)⟩
theorem lk_X7_244 : LkVN RX7 244 yX0_latestJudgement "ModeratorsBench" cX0_latestJudgement 1 (some (.object "ModeratorsBench$Hearing")) 0 := ⟨lb_X0_latestJudgement, (List.mem_of_getElem? (i := 727) (by decide +kernel)), (gt_in 729 (by decide +kernel) rfl), (gt_in 40 (by decide +kernel) rfl)⟩
theorem lk_X7_255 : LkVN RX7 255 yX0_hearAgain "ModeratorsBench" cX0_hearAgain 2 none 1 := ⟨lb_X0_hearAgain, (List.mem_of_getElem? (i := 735) (by decide +kernel)), (gt_in 737 (by decide +kernel) rfl), (gt_in 41 (by decide +kernel) rfl)⟩
theorem lk_X7_364 : LkVN RX7 364 yX0_isAlike "ModeratorsBench" cX0_isAlike 3 (some .boolean) 2 := ⟨lb_X0_isAlike, (List.mem_of_getElem? (i := 756) (by decide +kernel)), (gt_in 758 (by decide +kernel) rfl), (gt_in 43 (by decide +kernel) rfl)⟩
theorem lk_X7_368 : LkVN RX7 368 yX0_guiltStands "ModeratorsBench" cX0_guiltStands 1 (some .boolean) 0 := ⟨lb_X0_guiltStands, (List.mem_of_getElem? (i := 761) (by decide +kernel)), (gt_in 763 (by decide +kernel) rfl), (gt_in 44 (by decide +kernel) rfl)⟩
theorem lk_X7_371 : LkVN RX7 371 yX4_restart "ModeratorsBench" cX4_restart 1 none 0 := ⟨lb_X4_restart, (List.mem_of_getElem? (i := 778) (by decide +kernel)), (gt_in 780 (by decide +kernel) rfl), (gt_in 46 (by decide +kernel) rfl)⟩
theorem lk_X7_295 : LkVN RX7 295 yX0_bringsStrike "ModeratorsBench" cX0_bringsStrike 1 (some .boolean) 0 := ⟨lb_X0_bringsStrike, (List.mem_of_getElem? (i := 782) (by decide +kernel)), (gt_in 784 (by decide +kernel) rfl), (gt_in 47 (by decide +kernel) rfl)⟩
theorem lk_X7_380 : LkVN RX7 380 yX4_climb "ModeratorsBench" cX4_climb 3 none 2 := ⟨lb_X4_climb, (List.mem_of_getElem? (i := 787) (by decide +kernel)), (gt_in 789 (by decide +kernel) rfl), (gt_in 48 (by decide +kernel) rfl)⟩
theorem lk_X7_278 : LkVN RX7 278 yX4_holdingAt "ModeratorsBench" cX4_holdingAt 2 (some .int) 1 := ⟨lb_X4_holdingAt, (List.mem_of_getElem? (i := 796) (by decide +kernel)), (gt_in 793 (by decide +kernel) rfl), (gt_in 49 (by decide +kernel) rfl)⟩
theorem lk_X7_304 : LkVN RX7 304 yX5_isHidden "ModeratorsBench" cX5_isHidden 2 (some .boolean) 0 := ⟨lb_X5_isHidden, (List.mem_of_getElem? (i := 805) (by decide +kernel)), (gt_in 807 (by decide +kernel) rfl), (gt_in 52 (by decide +kernel) rfl)⟩
theorem lk_X5_44 : LkVN RX5 44 yX0_guiltStands "ModeratorsBench" cX0_guiltStands 1 (some .boolean) 0 := ⟨lb_X0_guiltStands, (List.mem_of_getElem? (i := 809) (by decide +kernel)), (gt_in 763 (by decide +kernel) rfl), (gt_in 44 (by decide +kernel) rfl)⟩
theorem lk_X7_310 : LkVN RX7 310 yX0_staysWithinAsked "ModeratorsBench" cX0_staysWithinAsked 1 (some .boolean) 0 := ⟨lb_X0_staysWithinAsked, (List.mem_of_getElem? (i := 830) (by decide +kernel)), (gt_in 832 (by decide +kernel) rfl), (gt_in 54 (by decide +kernel) rfl)⟩
theorem lk_X7_313 : LkVN RX7 313 yX0_everyJudgeOnce "ModeratorsBench" cX0_everyJudgeOnce 2 (some .boolean) 0 := ⟨lb_X0_everyJudgeOnce, (List.mem_of_getElem? (i := 834) (by decide +kernel)), (gt_in 836 (by decide +kernel) rfl), (gt_in 55 (by decide +kernel) rfl)⟩
theorem oi_i : Cond.instanceMethod Lib.objectInit ∈ gtbl := (gt_in 99 (by decide +kernel) rfl)
theorem oi_c : Cond.code Lib.objectInit ⟨#[0xb1]⟩ 1 none ∈ gtbl := (gt_in 100 (by decide +kernel) rfl)
theorem oi_X7_1 : Cond.methodLink RX7 1 Lib.objectInit ∈ gtbl := (gt_in 98 (by decide +kernel) rfl)
theorem oi_Jxa1e45_1 : Cond.methodLink RJxa1e45 1 Lib.objectInit ∈ gtbl := (gt_in 116 (by decide +kernel) rfl)
theorem oi_X4_3 : Cond.methodLink RX4 3 Lib.objectInit ∈ gtbl := (gt_in 136 (by decide +kernel) rfl)
theorem oi_X6_1 : Cond.methodLink RX6 1 Lib.objectInit ∈ gtbl := (gt_in 172 (by decide +kernel) rfl)
theorem oi_X3_1 : Cond.methodLink RX3 1 Lib.objectInit ∈ gtbl := (gt_in 197 (by decide +kernel) rfl)
theorem oi_X5_1 : Cond.methodLink RX5 1 Lib.objectInit ∈ gtbl := (gt_in 305 (by decide +kernel) rfl)
theorem oi_X0_3 : Cond.methodLink RX0 3 Lib.objectInit ∈ gtbl := (gt_in 422 (by decide +kernel) rfl)
theorem oi_X2_3 : Cond.methodLink RX2 3 Lib.objectInit ∈ gtbl := (gt_in 428 (by decide +kernel) rfl)
theorem oi_X1_1 : Cond.methodLink RX1 1 Lib.objectInit ∈ gtbl := (gt_in 622 (by decide +kernel) rfl)
theorem oi_X8_1 : Cond.methodLink RX8 1 Lib.objectInit ∈ gtbl := (gt_in 843 (by decide +kernel) rfl)
end
section
/-! THE BASE: one context for every walk, contracts of readers and writers, rows over single cells -/
abbrev GG : Type := va_G × (Nat → ClassId)
def tysG (G : GG) : List (ClassId × FieldType) := [(G.2 0, .int), (G.2 1, .long), (G.2 2, .boolean), (G.2 3, .object "ModeratorsBench$Rule"), (G.2 4, .object "ModeratorsBench$Judge"), (G.2 5, .object "java/lang/Object")]
/-- what the tables say and calls keep -/
def NW (U : State) : Prop := ∀ w ∈ lw_tbl, (w.onTables && w.keepsH) = true → w.before #[] U = true
def NC (U : State) : Prop := ∀ C T : String, Cond.castable C T ∈ lw_tbl → va_Nw (.castable C T) U
def NO (U : State) : Prop := ∀ C : String, Cond.arrayOver (.object C) ∈ lw_tbl → va_AO C U
def KK (G : GG) (U : State) : Prop := va_K G.1 vwCl (tysG G) U ∧ NW U ∧ NC U ∧ NO U
theorem NW.warm {s U : State} (hW : s.WarmedH U.vm) (h : NW s) : NW U := by
  intro w hw hk
  have hk2 := hk
  simp only [Bool.and_eq_true] at hk2
  have h1 := Cond.onTables_warmH (T := U) (args' := #[]) hW hk2.1 hk2.2 (h w hw hk)
  rwa [State.setVm_self] at h1
theorem NW.same {u U : State} (e : u.vm = U.vm) (h : NW u) : NW U := by
  intro w hw hk
  have hk2 := hk
  simp only [Bool.and_eq_true] at hk2
  exact va_tabs hk2.1 e (h w hw hk)
theorem NW.get {U : State} (h : NW U) {w : Cond} (hw : w ∈ lw_tbl) (hk : (w.onTables && w.keepsH) = true) {A : Array Value} : w.before A U = true := by
  have hk2 := hk
  simp only [Bool.and_eq_true] at hk2
  exact va_tabs hk2.1 rfl (h w hw hk)
theorem KK.warm {G : GG} {s U : State} (hW : s.WarmedH U.vm) (h : KK G s) : KK G U := ⟨va_K.moved hW.alike h.1, h.2.1.warm hW, fun C T hm => va_Nw.warmC hW (h.2.2.1 C T hm), fun C hm => va_AO.moved hW.alike (h.2.2.2 C hm)⟩
theorem KK.calling {G : GG} {U : State} {g : JFrame} {mk : MethodId} {a : Array Value} (h : KK G U) : KK G (U.calling g mk a) :=
  ⟨va_K.moved (u := U) (U := U.calling g mk a) (Vm.Alike.refl U.vm) h.1, NW.same (u := U) (U := U.calling g mk a) rfl h.2.1, fun C T hm => va_Nw.same (w := .castable C T) (u := U) (U := U.calling g mk a) rfl rfl (h.2.2.1 C T hm), fun C hm => va_AO.moved (u := U) (U := U.calling g mk a) (Vm.Alike.refl U.vm) (h.2.2.2 C hm)⟩
/-- a walk's fixed context -/
def CX (G : GG) (p : Program) (s : State) (m : MethodId) (args : Array Value) (meth : Method) (c : Code) (own : String) (cc : ByteArray) (nL : Nat) : Prop :=
  CallFix p m c cc nL s args gtbl own ∧ KK G s ∧ meth.locks = false
def Rd (V : Option Value) : Array Value → State → Outcome → State → Prop := fun _ st o t => o = .returned V ∧ t.heap = st.heap
def Wr (V : Option Value) (P : Heap → Prop) (A : Nat → Prop) : Array Value → State → Outcome → State → Prop := fun _ st o t => o = .returned V ∧ P t.heap ∧ va_F A st t
def Pk (G : GG) (av : List Value) (P : Heap → Prop) : Array Value → State → Prop := va_Pc av (fun U => P U.heap ∧ KK G U)
theorem Pk.blind {G : GG} {av : List Value} {P : Heap → Prop} : FrameBlind (Pk G av P) := fun _ _ _ _ q => ⟨q.1, q.2.1, q.2.2.calling⟩
abbrev rmk (k mc ms : Nat) : Room := { frames := k, cells := mc, slots := ms, locals := 40 * k }
def MR (l : Launch) (G : GG) (y : MethodName) (cc : ByteArray) (n : Nat) (ret : Option FieldType) (k : Nat) (av : List Value) (P : Heap → Prop) (V : Option Value) : Prop :=
  Met l y (wd y cc n ret) (rmk k 0 0) (Pk G av P) (Rd V) 0 0 (fun _ => False)
def MW (l : Launch) (G : GG) (y : MethodName) (cc : ByteArray) (n : Nat) (ret : Option FieldType) (k : Nat) (av : List Value) (P : Heap → Prop) (V : Option Value) (P' : Heap → Prop) (A : Nat → Prop) (mc ms : Nat) : Prop :=
  Met l y (wd y cc n ret) (rmk k mc ms) (Pk G av P) (Wr V P' A) mc ms A
theorem MR.of {l : Launch} {G : GG} {y : MethodName} {cc : ByteArray} {n : Nat} {ret : Option FieldType} {k : Nat} {av : List Value} {P : Heap → Prop} {V : Option Value} (own : String) (ho : y.cls = own) (hy : plainName y.cls = true) (hn : (lg_sl av).length ≤ n)
    (body : ∀ (p : Program) (e : Env) (s : State) (m : MethodId) (args : Array Value) (below : List Frame) (meth : Method) (c : Code) (ls : Array Slot), args = av.toArray → CX G p s m args meth c own cc n → meth.sig.returnType = ret → meth.name = y.name → P s.heap → lv_has ls n (lv_args 0 av) →
      W p l e (rmk k 0 0) s m args below meth c s.heap [] 0 0 (MQ below (Rd V) args s 0 0 (fun _ => False)) (F0 m 0 ls [])) : MR l G y cc n ret k av P V := by
  refine Met.ofW (cc := cc) (maxL := n) (ret := ret) hy rfl ?_
  intro p e s m args below meth c s₁ B hml hv
  obtain ⟨rfl, hP, hK⟩ := hv
  have hts := atoms_spec (ws := wd y cc n ret) B.pre
  have hown : s.vm.findClass own = some m.cls := by rw [← ho]; exact findClass_of_methodNamed B.named
  have hl := lv_entry av (n := n) hn
  rw [lg_entry_eq]
  exact body p e s m _ below meth c _ rfl ⟨⟨B.exec, B.bytes, hml, hown, fun w h => hts w (List.mem_cons_of_mem _ h)⟩, hK, B.notSynchronized⟩ B.returns (name_of_methodNamed B.named B.method).1 hP hl
theorem MW.of {l : Launch} {G : GG} {y : MethodName} {cc : ByteArray} {n : Nat} {ret : Option FieldType} {k : Nat} {av : List Value} {P : Heap → Prop} {V : Option Value} {P' : Heap → Prop} {A : Nat → Prop} {mc ms : Nat} (own : String) (ho : y.cls = own) (hy : plainName y.cls = true) (hn : (lg_sl av).length ≤ n)
    (body : ∀ (p : Program) (e : Env) (s : State) (m : MethodId) (args : Array Value) (below : List Frame) (meth : Method) (c : Code) (ls : Array Slot), args = av.toArray → CX G p s m args meth c own cc n → meth.sig.returnType = ret → meth.name = y.name → P s.heap → va_S A s.heap s.heap [] → lv_has ls n (lv_args 0 av) →
      W p l e (rmk k mc ms) s m args below meth c s.heap [] 0 0 (MQ below (Wr V P' A) args s mc ms A) (F0 m 0 ls [])) : MW l G y cc n ret k av P V P' A mc ms := by
  refine Met.ofW (cc := cc) (maxL := n) (ret := ret) hy rfl ?_
  intro p e s m args below meth c s₁ B hml hv
  obtain ⟨rfl, hP, hK⟩ := hv
  have hts := atoms_spec (ws := wd y cc n ret) B.pre
  have hown : s.vm.findClass own = some m.cls := by rw [← ho]; exact findClass_of_methodNamed B.named
  have hl := lv_entry av (n := n) hn
  rw [lg_entry_eq]
  exact body p e s m _ below meth c _ rfl ⟨⟨B.exec, B.bytes, hml, hown, fun w h => hts w (List.mem_cons_of_mem _ h)⟩, hK, B.notSynchronized⟩ B.returns (name_of_methodNamed B.named B.method).1 hP va_S.rf hl
section BW
variable {p : Program} {l : Launch} {e : Env} {R : Room} {s : State} {m : MethodId} {args : Array Value} {below : List Frame} {meth : Method} {c : Code} {H : Heap} {locs : List Loc} {cells slots : Nat} {Q : State → Prop}
variable {G : GG} {own : String} {cc : ByteArray} {nL : Nat} {pc : Nat} {ls : Array Slot} {rest : List Value} {A : Nat → Prop} {H0 : Heap}
theorem CX.hx (C : CX G p s m args meth c own cc nL) : p.tables.exec = Jvm.exec := C.1.1
theorem CX.hb (C : CX G p s m args meth c own cc nL) : c.code = cc := C.1.2.1
theorem CX.hml (C : CX G p s m args meth c own cc nL) : c.maxLocals = nL := C.1.2.2.1
theorem CX.hown (C : CX G p s m args meth c own cc nL) : s.vm.findClass own = some m.cls := C.1.2.2.2.1
theorem CX.hT (C : CX G p s m args meth c own cc nL) : ∀ w ∈ gtbl, w.before args s = true := C.1.2.2.2.2
theorem CX.hK (C : CX G p s m args meth c own cc nL) : KK G s := C.2.1
theorem CX.nw (C : CX G p s m args meth c own cc nL) {w : Cond} (hw : w ∈ lw_tbl) (hk : (w.onTables && w.keepsH) = true) : w.before args s = true := C.2.1.2.1.get hw hk
-- joins: the goal behind a branching stretch, once
theorem W.joinI {P : Int32 → Prop} (pcj : Nat) (lsj : Array Slot) (rj : List Value) {g : JFrame} (h : (∀ v : Int32, P v → W p l e R s m args below meth c H locs cells slots Q (F0 m pcj lsj (.int v :: rj))) → W p l e R s m args below meth c H locs cells slots Q g)
    (k : ∀ v : Int32, P v → W p l e R s m args below meth c H locs cells slots Q (F0 m pcj lsj (.int v :: rj))) : W p l e R s m args below meth c H locs cells slots Q g := h k
theorem W.joinL {P : Array Slot → Prop} (pcj : Nat) (rj : List Value) {g : JFrame} (h : (∀ ls' : Array Slot, P ls' → W p l e R s m args below meth c H locs cells slots Q (F0 m pcj ls' rj)) → W p l e R s m args below meth c H locs cells slots Q g)
    (k : ∀ ls' : Array Slot, P ls' → W p l e R s m args below meth c H locs cells slots Q (F0 m pcj ls' rj)) : W p l e R s m args below meth c H locs cells slots Q g := h k
theorem W.joinH {P : Array Slot → Heap → List Loc → Prop} (pcj : Nat) (rj : List Value) {g : JFrame} (h : (∀ (ls' : Array Slot) (H' : Heap) (locs' : List Loc), P ls' H' locs' → W p l e R s m args below meth c H' locs' cells slots Q (F0 m pcj ls' rj)) → W p l e R s m args below meth c H locs cells slots Q g)
    (k : ∀ (ls' : Array Slot) (H' : Heap) (locs' : List Loc), P ls' H' locs' → W p l e R s m args below meth c H' locs' cells slots Q (F0 m pcj ls' rj)) : W p l e R s m args below meth c H locs cells slots Q g := h k
-- loops
theorem W.loopR {N : Nat} {Inv : Nat → Array Slot → Prop} (pch : Nat) (rj : List Value) (step : ∀ (i : Nat) (ls' : Array Slot), i < N → Inv i ls' → (∀ ls2 : Array Slot, Inv (i + 1) ls2 → W p l e R s m args below meth c H locs cells slots Q (F0 m pch ls2 rj)) → W p l e R s m args below meth c H locs cells slots Q (F0 m pch ls' rj))
    (exit : ∀ ls' : Array Slot, Inv N ls' → W p l e R s m args below meth c H locs cells slots Q (F0 m pch ls' rj)) : ∀ (i : Nat) (ls' : Array Slot), i ≤ N → Inv i ls' → W p l e R s m args below meth c H locs cells slots Q (F0 m pch ls' rj) := by
  have key : ∀ (d i : Nat) (ls' : Array Slot), i + d = N → Inv i ls' → W p l e R s m args below meth c H locs cells slots Q (F0 m pch ls' rj) := by
    intro d
    induction d with
    | zero => intro i ls' hi h; have : i = N := by omega
              subst this; exact exit ls' h
    | succ d ih => intro i ls' hi h; exact step i ls' (by omega) h (fun ls2 h2 => ih (i + 1) ls2 (by omega) h2)
  intro i ls' hi h
  exact key (N - i) i ls' (by omega) h
theorem W.loopD {Inv : Nat → Array Slot → Prop} (pch : Nat) (rj : List Value) (step : ∀ (i : Nat) (ls' : Array Slot), Inv (i + 1) ls' → (∀ ls2 : Array Slot, Inv i ls2 → W p l e R s m args below meth c H locs cells slots Q (F0 m pch ls2 rj)) → W p l e R s m args below meth c H locs cells slots Q (F0 m pch ls' rj))
    (exit : ∀ ls' : Array Slot, Inv 0 ls' → W p l e R s m args below meth c H locs cells slots Q (F0 m pch ls' rj)) : ∀ (i : Nat) (ls' : Array Slot), Inv i ls' → W p l e R s m args below meth c H locs cells slots Q (F0 m pch ls' rj) := by
  intro i
  induction i with
  | zero => exact exit
  | succ i ih => intro ls' h; exact step i ls' h (fun ls2 h2 => ih ls2 h2)
theorem W.loopW {N : Nat} {Inv : Nat → Array Slot → Heap → List Loc → Nat → Nat → Prop} (pch : Nat) (rj : List Value) (step : ∀ (i : Nat) (ls' : Array Slot) (H' : Heap) (locs' : List Loc) (ce sl : Nat), i < N → Inv i ls' H' locs' ce sl → (∀ (ls2 : Array Slot) (H2 : Heap) (locs2 : List Loc) (ce2 sl2 : Nat), Inv (i + 1) ls2 H2 locs2 ce2 sl2 → W p l e R s m args below meth c H2 locs2 ce2 sl2 Q (F0 m pch ls2 rj)) → W p l e R s m args below meth c H' locs' ce sl Q (F0 m pch ls' rj))
    (exit : ∀ (ls' : Array Slot) (H' : Heap) (locs' : List Loc) (ce sl : Nat), Inv N ls' H' locs' ce sl → W p l e R s m args below meth c H' locs' ce sl Q (F0 m pch ls' rj)) : ∀ (i : Nat) (ls' : Array Slot) (H' : Heap) (locs' : List Loc) (ce sl : Nat), i ≤ N → Inv i ls' H' locs' ce sl → W p l e R s m args below meth c H' locs' ce sl Q (F0 m pch ls' rj) := by
  have key : ∀ (d i : Nat) (ls' : Array Slot) (H' : Heap) (locs' : List Loc) (ce sl : Nat), i + d = N → Inv i ls' H' locs' ce sl → W p l e R s m args below meth c H' locs' ce sl Q (F0 m pch ls' rj) := by
    intro d
    induction d with
    | zero => intro i ls' H' locs' ce sl hi h; have : i = N := by omega
              subst this; exact exit ls' H' locs' ce sl h
    | succ d ih => intro i ls' H' locs' ce sl hi h; exact step i ls' H' locs' ce sl (by omega) h (fun ls2 H2 locs2 ce2 sl2 h2 => ih (i + 1) ls2 H2 locs2 ce2 sl2 (by omega) h2)
  intro i ls' H' locs' ce sl hi h
  exact key (N - i) i ls' H' locs' ce sl (by omega) h
theorem W.loopWD {Inv : Nat → Array Slot → Heap → List Loc → Prop} (pch : Nat) (rj : List Value) (step : ∀ (i : Nat) (ls' : Array Slot) (H' : Heap) (locs' : List Loc), Inv (i + 1) ls' H' locs' → (∀ (ls2 : Array Slot) (H2 : Heap) (locs2 : List Loc), Inv i ls2 H2 locs2 → W p l e R s m args below meth c H2 locs2 cells slots Q (F0 m pch ls2 rj)) → W p l e R s m args below meth c H' locs' cells slots Q (F0 m pch ls' rj))
    (exit : ∀ (ls' : Array Slot) (H' : Heap) (locs' : List Loc), Inv 0 ls' H' locs' → W p l e R s m args below meth c H' locs' cells slots Q (F0 m pch ls' rj)) : ∀ (i : Nat) (ls' : Array Slot) (H' : Heap) (locs' : List Loc), Inv i ls' H' locs' → W p l e R s m args below meth c H' locs' cells slots Q (F0 m pch ls' rj) := by
  intro i
  induction i with
  | zero => exact exit
  | succ i ih => intro ls' H' locs' h; exact step i ls' H' locs' h (fun ls2 H2 locs2 h2 => ih ls2 H2 locs2 h2)
-- ends
theorem rI {v v' : Int32} (C : CX G p s m args meth c own cc nL) (hr : meth.sig.returnType = some .int) (hdg : decode cc pc = .ok (.ireturn, 1)) (h : v = v') :
    W p l e R s m args below meth c s.heap [] cells slots (MQ below (Rd (some (.int v'))) args s cells slots (fun _ => False)) (F0 m pc ls [.int v]) := by
  subst h
  exact W.iret C.hx C.hb hr (fun t ht _ => ⟨rfl, ht⟩) (fun q h => by cases h) hdg C.2.2
theorem rZ {v v' : Int32} (C : CX G p s m args meth c own cc nL) (hr : meth.sig.returnType = some .boolean) (hdg : decode cc pc = .ok (.ireturn, 1)) (h : v = v') (hn : narrow .boolean (.int v) = .int v) :
    W p l e R s m args below meth c s.heap [] cells slots (MQ below (Rd (some (.int v'))) args s cells slots (fun _ => False)) (F0 m pc ls [.int v]) := by
  subst h
  exact W.zret C.hx C.hb hr hn (fun t ht _ => ⟨rfl, ht⟩) (fun q h => by cases h) hdg C.2.2
theorem rA {v : Value} {V : Value} {rt : FieldType} (C : CX G p s m args meth c own cc nL) (hr : meth.sig.returnType = some rt) (hrt : (∃ n, rt = .object n) ∨ ∃ t, rt = .array t) (hv : v = .null ∨ ∃ a, v = .ref a) (hdg : decode cc pc = .ok (.areturn, 1)) (h : v = V) :
    W p l e R s m args below meth c s.heap [] cells slots (MQ below (Rd (some V)) args s cells slots (fun _ => False)) (F0 m pc ls [v]) := by
  subst h
  exact W.aret C.hx C.hb hr hrt hv (fun t ht _ => ⟨rfl, ht⟩) (fun q h => by cases h) hdg C.2.2
theorem rV (C : CX G p s m args meth c own cc nL) (hr : meth.sig.returnType = none) (hdg : decode cc pc = .ok (.return_, 1)) :
    W p l e R s m args below meth c s.heap [] cells slots (MQ below (Rd none) args s cells slots (fun _ => False)) (F0 m pc ls []) :=
  W.vret C.hx C.hb hr (fun t ht _ => ⟨rfl, ht⟩) (fun q h => by cases h) hdg C.2.2
theorem wI {v v' : Int32} {P' : Heap → Prop} (C : CX G p s m args meth c own cc nL) (hr : meth.sig.returnType = some .int) (hdg : decode cc pc = .ok (.ireturn, 1)) (hS : va_S A s.heap H locs) (h : v = v') (hP : P' H) :
    W p l e R s m args below meth c H locs cells slots (MQ below (Wr (some (.int v')) P' A) args s cells slots A) (F0 m pc ls [.int v]) := by
  subst h
  exact W.iret C.hx C.hb hr (fun t ht _ => ⟨rfl, by rw [ht]; exact hP, hS.F ht⟩) hS.2.2 hdg C.2.2
theorem wZ {v v' : Int32} {P' : Heap → Prop} (C : CX G p s m args meth c own cc nL) (hr : meth.sig.returnType = some .boolean) (hdg : decode cc pc = .ok (.ireturn, 1)) (hS : va_S A s.heap H locs) (h : v = v') (hP : P' H) (hn : narrow .boolean (.int v) = .int v) :
    W p l e R s m args below meth c H locs cells slots (MQ below (Wr (some (.int v')) P' A) args s cells slots A) (F0 m pc ls [.int v]) := by
  subst h
  exact W.zret C.hx C.hb hr hn (fun t ht _ => ⟨rfl, by rw [ht]; exact hP, hS.F ht⟩) hS.2.2 hdg C.2.2
theorem wA {v V : Value} {P' : Heap → Prop} {rt : FieldType} (C : CX G p s m args meth c own cc nL) (hr : meth.sig.returnType = some rt) (hrt : (∃ n, rt = .object n) ∨ ∃ t, rt = .array t) (hv : v = .null ∨ ∃ a, v = .ref a) (hdg : decode cc pc = .ok (.areturn, 1)) (hS : va_S A s.heap H locs) (h : v = V) (hP : P' H) :
    W p l e R s m args below meth c H locs cells slots (MQ below (Wr (some V) P' A) args s cells slots A) (F0 m pc ls [v]) := by
  subst h
  exact W.aret C.hx C.hb hr hrt hv (fun t ht _ => ⟨rfl, by rw [ht]; exact hP, hS.F ht⟩) hS.2.2 hdg C.2.2
theorem wV {P' : Heap → Prop} (C : CX G p s m args meth c own cc nL) (hr : meth.sig.returnType = none) (hdg : decode cc pc = .ok (.return_, 1)) (hS : va_S A s.heap H locs) (hP : P' H) :
    W p l e R s m args below meth c H locs cells slots (MQ below (Wr none P' A) args s cells slots A) (F0 m pc ls []) :=
  W.vret C.hx C.hb hr (fun t ht _ => ⟨rfl, by rw [ht]; exact hP, hS.F ht⟩) hS.2.2 hdg C.2.2
-- fields, one cell at a time
theorem va_one {D : va_G} {q : Nat × va_E} (h : va_at D vwCl q H) : va_P D vwCl [q] H := by
  intro k x hk
  match k, hk with
  | 0, hk => cases hk; exact h
theorem g_get {a ci k index N : Nat} {fs : List Value} {Cn ref : String} {T : u_T} {v : Value} (C : CX G p s m args meth c own cc nL) (h : va_at G.1 vwCl (a, .inr (ci, fs)) H) (hc : vwCl[ci]? = some (Cn, T, N)) (hu : ∀ w ∈ u_ws Cn T N, w ∈ gtbl) (hk : k < N) (hl : Cond.fieldLink own index ref (T k).2.1 (T k).2.2.1 ∈ gtbl) (hr : (T k).1 = ref) (hv : fs[k]? = some v) (hdg : decode cc pc = .ok (.getfield index, 3))
    (kk : W p l e R s m args below meth c H locs cells slots Q (F0 m (pc + 3) ls (v :: rest))) : W p l e R s m args below meth c H locs cells slots Q (F0 m pc ls (.ref a :: rest)) := by
  subst hr
  exact va_get C.hx C.hb C.hT hu C.hown C.hK.1 (va_one h) 0 rfl hc k hk (C.hT _ hl) (fun _ h9 => h9) hv hdg kk
theorem g_getN {a ci k index N : Nat} {fs : List Value} {Cn ref host : String} {T : u_T} {v : Value} (C : CX G p s m args meth c own cc nL) (h : va_at G.1 vwCl (a, .inr (ci, fs)) H) (hc : vwCl[ci]? = some (Cn, T, N)) (hu : ∀ w ∈ u_ws Cn T N, w ∈ gtbl) (hk : k < N) (hl : Cond.fieldLinkNest own index ref (T k).2.1 (T k).2.2.1 host ∈ lw_tbl) (hr : (T k).1 = ref) (hv : fs[k]? = some v) (hdg : decode cc pc = .ok (.getfield index, 3))
    (kk : W p l e R s m args below meth c H locs cells slots Q (F0 m (pc + 3) ls (v :: rest))) : W p l e R s m args below meth c H locs cells slots Q (F0 m pc ls (.ref a :: rest)) := by
  subst hr
  exact va_getN C.hx C.hb C.hT hu C.hown C.hK.1 (va_one h) 0 rfl hc k hk (C.nw hl rfl) (fun _ h9 => h9) hv hdg kk
theorem g_put {a ci k index N : Nat} {fs : List Value} {Cn ref : String} {T : u_T} {v : Value} {ty : FieldType} (ty0 : Nat → FieldType) (C : CX G p s m args meth c own cc nL) (hS : va_S A H0 H locs) (h : va_at G.1 vwCl (a, .inr (ci, fs)) H) (ha : A a) (hc : vwCl[ci]? = some (Cn, T, N)) (hu : ∀ w ∈ u_ws Cn T N, w ∈ gtbl) (hty : ∀ k, k < N → parseFieldDescriptor (T k).2.2.1 = some (ty0 k)) (hnm : ∀ a, a < N → ∀ b, b < N → a ≠ b → (T a).2.1 ≠ (T b).2.1) (hk : k < N) (hl : Cond.fieldLink own index ref (T k).2.1 (T k).2.2.1 ∈ gtbl) (hr : (T k).1 = ref) (hfin : (T k).2.2.2 = false) (hd : ty0 k = ty) (hn : narrow ty v = v) (hfit : fits ty v = true) (hlen : k < fs.length) (hdg : decode cc pc = .ok (.putfield index, 3))
    (kk : ∀ (H1 : Heap) (locs1 : List Loc), va_at G.1 vwCl (a, .inr (ci, fs.set k v)) H1 → (∀ q, q ≠ a → H1[q]? = H[q]?) → H1.size = H.size → va_S A H0 H1 locs1 → W p l e R s m args below meth c H1 locs1 cells slots Q (F0 m (pc + 3) ls rest)) : W p l e R s m args below meth c H locs cells slots Q (F0 m pc ls (v :: .ref a :: rest)) := by
  subst hr
  have hK := C.hK.1
  have hap := va_apart (own := own) C.hT hu ty0 hty hnm hK hc
  obtain ⟨r, h1, cell, q1, q2, q3, q4⟩ := h
  have hr : r = (Cn, T, N) := Option.some.inj (h1.symm.trans hc)
  subst hr
  obtain ⟨hSl, hfc, kC, hkC, hkind⟩ := hK.1 ci _ hc
  obtain ⟨cf, kf, fi, f, hi, hsl⟩ := hSl k hk
  have hlay := C.hT _ (hu _ (u_in_lay hk))
  unfold u_lay at hlay
  rw [if_neg (by rw [hfin]; decide)] at hlay
  have hst := (u_facts hfc hkC (u_lays C.hT hu hk) hi).1
  have h6 := u_store hfc hkC hkind hlay hi ((hty k hk).trans (congrArg some hd)) hn hfit
  refine W.putK C.hx C.hb (f := f) ⟨C.hown, C.hT _ hl, ⟨_, _, _, hi⟩, hst⟩ (by rw [q2]; exact h6) q1 q3 (by rw [hsl]; exact k2_hasslot (q4 k hk)) rfl rfl hdg fun H' e1 e2 e3 => ?_
  rw [hsl] at e1 ⊢
  exact kk H' _ ⟨_, hc, t_OB.to (V := updV (vp_V fs) k v) ⟨_, e1, q2, q3, t_set q4 hap hk v⟩ (fun j _ => vp_updV_set hlen v j)⟩ e3 e2 (hS.put e2 e3 ha)
theorem g_putN {a ci k index N : Nat} {fs : List Value} {Cn ref host : String} {T : u_T} {v : Value} {ty : FieldType} (ty0 : Nat → FieldType) (C : CX G p s m args meth c own cc nL) (hS : va_S A H0 H locs) (h : va_at G.1 vwCl (a, .inr (ci, fs)) H) (ha : A a) (hc : vwCl[ci]? = some (Cn, T, N)) (hu : ∀ w ∈ u_ws Cn T N, w ∈ gtbl) (hty : ∀ k, k < N → parseFieldDescriptor (T k).2.2.1 = some (ty0 k)) (hnm : ∀ a, a < N → ∀ b, b < N → a ≠ b → (T a).2.1 ≠ (T b).2.1) (hk : k < N) (hl : Cond.fieldLinkNest own index ref (T k).2.1 (T k).2.2.1 host ∈ lw_tbl) (hr : (T k).1 = ref) (hfin : (T k).2.2.2 = false) (hd : ty0 k = ty) (hn : narrow ty v = v) (hfit : fits ty v = true) (hlen : k < fs.length) (hdg : decode cc pc = .ok (.putfield index, 3))
    (kk : ∀ (H1 : Heap) (locs1 : List Loc), va_at G.1 vwCl (a, .inr (ci, fs.set k v)) H1 → (∀ q, q ≠ a → H1[q]? = H[q]?) → H1.size = H.size → va_S A H0 H1 locs1 → W p l e R s m args below meth c H1 locs1 cells slots Q (F0 m (pc + 3) ls rest)) : W p l e R s m args below meth c H locs cells slots Q (F0 m pc ls (v :: .ref a :: rest)) := by
  subst hr
  have hK := C.hK.1
  have hap := va_apart (own := own) C.hT hu ty0 hty hnm hK hc
  obtain ⟨r, h1, cell, q1, q2, q3, q4⟩ := h
  have hr : r = (Cn, T, N) := Option.some.inj (h1.symm.trans hc)
  subst hr
  obtain ⟨hSl, hfc, kC, hkC, hkind⟩ := hK.1 ci _ hc
  obtain ⟨cf, kf, fi, f, hi, hsl⟩ := hSl k hk
  have hlay := C.hT _ (hu _ (u_in_lay hk))
  unfold u_lay at hlay
  rw [if_neg (by rw [hfin]; decide)] at hlay
  have hst := (u_facts hfc hkC (u_lays C.hT hu hk) hi).1
  have h6 := u_store hfc hkC hkind hlay hi ((hty k hk).trans (congrArg some hd)) hn hfit
  refine va_WputK C.hx C.hb (f := f) C.hown (C.nw hl rfl) hi hst (by rw [q2]; exact h6) q1 q3 (by rw [hsl]; exact k2_hasslot (q4 k hk)) rfl rfl hdg fun H' e1 e2 e3 => ?_
  rw [hsl] at e1 ⊢
  exact kk H' _ ⟨_, hc, t_OB.to (V := updV (vp_V fs) k v) ⟨_, e1, q2, q3, t_set q4 hap hk v⟩ (fun j _ => vp_updV_set hlen v j)⟩ e3 e2 (hS.put e2 e3 ha)
theorem g_putF {a ci k index N : Nat} {fs : List Value} {Cn : String} {T : u_T} {v : Value} {ty : FieldType} (ty0 : Nat → FieldType) (C : CX G p s m args meth c own cc nL) (hS : va_S A H0 H locs) (h : va_at G.1 vwCl (a, .inr (ci, fs)) H) (ha : A a) (hc : vwCl[ci]? = some (Cn, T, N)) (hu : ∀ w ∈ u_ws Cn T N, w ∈ gtbl) (hty : ∀ k, k < N → parseFieldDescriptor (T k).2.2.1 = some (ty0 k)) (hnm : ∀ a, a < N → ∀ b, b < N → a ≠ b → (T a).2.1 ≠ (T b).2.1) (hk : k < N) (hl : Cond.fieldLink own index own (T k).2.1 (T k).2.2.1 ∈ gtbl) (hr : (T k).1 = own) (hfin : (T k).2.2.2 = true) (hin2 : meth.name = "<init>") (hd : ty0 k = ty) (hn : narrow ty v = v) (hfit : fits ty v = true) (hlen : k < fs.length) (hdg : decode cc pc = .ok (.putfield index, 3))
    (kk : ∀ (H1 : Heap) (locs1 : List Loc), va_at G.1 vwCl (a, .inr (ci, fs.set k v)) H1 → (∀ q, q ≠ a → H1[q]? = H[q]?) → H1.size = H.size → va_S A H0 H1 locs1 → W p l e R s m args below meth c H1 locs1 cells slots Q (F0 m (pc + 3) ls rest)) : W p l e R s m args below meth c H locs cells slots Q (F0 m pc ls (v :: .ref a :: rest)) := by
  have hK := C.hK.1
  have hap := va_apart (own := own) C.hT hu ty0 hty hnm hK hc
  obtain ⟨r, h1, cell, q1, q2, q3, q4⟩ := h
  have hr2 : r = (Cn, T, N) := Option.some.inj (h1.symm.trans hc)
  subst hr2
  obtain ⟨hSl, hfc, kC, hkC, hkind⟩ := hK.1 ci _ hc
  obtain ⟨cf, kf, fi, f, hi, hsl⟩ := hSl k hk
  have hlay := C.hT _ (hu _ (u_in_lay hk))
  unfold u_lay at hlay
  rw [if_pos hfin] at hlay
  have hst := (u_facts hfc hkC (u_lays C.hT hu hk) hi).1
  have hcf : m.cls = cf := by
    obtain ⟨_, _, c', _, _, _, -, -, hf', -, -, -, hown2, -⟩ := Cond.laysFinal_spec hlay
    have e1 : c' = cf := by have := hi.symm.trans hf'; simp at this; exact this.1.symm
    rw [hr] at hown2
    rw [← e1]; exact Option.some.inj (C.hown.symm.trans hown2)
  have h6 := u_fits hfc hkC hkind (Or.inr hlay) hi ((hty k hk).trans (congrArg some hd)) hn hfit
  refine W.putFinK C.hx C.hb C.hown (C.hT _ hl) (by rw [hr] at hi; exact hi) hst hcf hin2 (by rw [q2]; exact h6) q1 q3 (by rw [hsl]; exact k2_hasslot (q4 k hk)) rfl rfl hdg fun H' e1 e2 e3 => ?_
  rw [hsl] at e1 ⊢
  exact kk H' _ ⟨_, hc, t_OB.to (V := updV (vp_V fs) k v) ⟨_, e1, q2, q3, t_set q4 hap hk v⟩ (fun j _ => vp_updV_set hlen v j)⟩ e3 e2 (hS.put e2 e3 ha)
end BW
end
section
section RW
variable {p : Program} {l : Launch} {e : Env} {R : Room} {s : State} {m : MethodId} {args : Array Value} {below : List Frame} {meth : Method} {c : Code} {H : Heap} {locs : List Loc} {cells slots : Nat} {Q : State → Prop}
variable {G : GG} {own : String} {cc : ByteArray} {nL : Nat} {pc : Nat} {ls : Array Slot} {rest : List Value} {A : Nat → Prop} {H0 : Heap}
theorem ix_in {i : Int32} {k n : Nat} (hi : i = nI k) (hk : k < n) (hn : n < 2 ^ 31) : vp_in i n ∧ i.toNatClampNeg = k := by
  subst hi
  exact ⟨vp_in_nI hk hn, nI_clamp (by omega)⟩
theorem g_iald {a n k : Nat} {f : Nat → Int32} {i : Int32} (C : CX G p s m args meth c own cc nL) (h : va_at G.1 vwCl (a, .inl (G.2 0, n, .inl f)) H) (hi : i = nI k) (hk : k < n) (hn : n < 2 ^ 31) (hdg : decode cc pc = .ok (.iaload, 1))
    (kk : W p l e R s m args below meth c H locs cells slots Q (F0 m (pc + 1) ls (.int (f k) :: rest))) : W p l e R s m args below meth c H locs cells slots Q (F0 m pc ls (.int i :: .ref a :: rest)) := by
  obtain ⟨h1, h2⟩ := ix_in hi hk hn
  refine va_iald C.hx C.hb C.hK.1 (va_one h) 0 0 rfl rfl h1 hdg ?_
  rw [h2]
  exact kk
theorem g_zald {a n k : Nat} {f : Nat → Int32} {i : Int32} (C : CX G p s m args meth c own cc nL) (h : va_at G.1 vwCl (a, .inl (G.2 2, n, .inl f)) H) (hi : i = nI k) (hk : k < n) (hn : n < 2 ^ 31) (hdg : decode cc pc = .ok (.baload, 1))
    (kk : W p l e R s m args below meth c H locs cells slots Q (F0 m (pc + 1) ls (.int (f k) :: rest))) : W p l e R s m args below meth c H locs cells slots Q (F0 m pc ls (.int i :: .ref a :: rest)) := by
  obtain ⟨h1, h2⟩ := ix_in hi hk hn
  refine va_zald C.hx C.hb C.hK.1 (va_one h) 0 2 rfl rfl h1 hdg ?_
  rw [h2]
  exact kk
theorem g_lald {a n k : Nat} {f : Nat → Int64} {i : Int32} (C : CX G p s m args meth c own cc nL) (h : va_at G.1 vwCl (a, .inl (G.2 1, n, .inr (.inl f))) H) (hi : i = nI k) (hk : k < n) (hn : n < 2 ^ 31) (hdg : decode cc pc = .ok (.laload, 1))
    (kk : W p l e R s m args below meth c H locs cells slots Q (F0 m (pc + 1) ls (.long (f k) :: rest))) : W p l e R s m args below meth c H locs cells slots Q (F0 m pc ls (.int i :: .ref a :: rest)) := by
  obtain ⟨h1, h2⟩ := ix_in hi hk hn
  refine va_lald C.hx C.hb C.hK.1 (va_one h) 0 1 rfl rfl h1 hdg ?_
  rw [h2]
  exact kk
theorem g_alen {a t : Nat} {y : vp_A} {cA : ClassId} {ty : FieldType} (C : CX G p s m args meth c own cc nL) (h : va_at G.1 vwCl (a, .inl (cA, y)) H) (t0 : Nat) (ht : (tysG G)[t0]? = some (cA, ty)) (hdg : decode cc pc = .ok (.arraylength, 1))
    (kk : W p l e R s m args below meth c H locs cells slots Q (F0 m (pc + 1) ls (.int (nI y.1) :: rest))) : W p l e R s m args below meth c H locs cells slots Q (F0 m pc ls (.ref a :: rest)) :=
  va_alen C.hx C.hb C.hK.1 (va_one h) 0 t0 rfl ht rfl hdg kk
theorem g_iast {a n k : Nat} {f : Nat → Int32} {i x : Int32} (C : CX G p s m args meth c own cc nL) (hS : va_S A H0 H locs) (h : va_at G.1 vwCl (a, .inl (G.2 0, n, .inl f)) H) (ha : A a) (hi : i = nI k) (hk : k < n) (hn : n < 2 ^ 31) (hdg : decode cc pc = .ok (.iastore, 1))
    (kk : ∀ (H1 : Heap) (locs1 : List Loc), va_at G.1 vwCl (a, .inl (G.2 0, n, .inl (upd f k x))) H1 → (∀ q, q ≠ a → H1[q]? = H[q]?) → H1.size = H.size → va_S A H0 H1 locs1 → W p l e R s m args below meth c H1 locs1 cells slots Q (F0 m (pc + 1) ls rest)) : W p l e R s m args below meth c H locs cells slots Q (F0 m pc ls (.int x :: .int i :: .ref a :: rest)) := by
  obtain ⟨h1, h2⟩ := ix_in hi hk hn
  have hcell : H[a]? = some (vp_cell (G.2 0) (n, .inl f)) := h
  refine W.iast C.hx C.hb hcell ((C.hK.1.2 0 _ rfl).1 n (fun j => .int (f j))) (fun q => by cases q) (by show ¬ (i < 0 ∨ (arrV _ _ _).slots.size ≤ _); rw [arrV_size]; exact h1) rfl rfl hdg fun H1 e1 z1 o1 => ?_
  refine kk H1 _ ?_ o1 z1 (hS.put z1 o1 ha)
  show H1[a]? = some (vp_cell _ _)
  rw [e1, vp_cell_i, vp_cell_i, arrV_store, h2]
  congr 2
  funext q
  by_cases hq : q = k
  · subst hq
    simp [updV, upd]
  · simp [updV, upd, hq]
theorem g_zast {a n k : Nat} {f : Nat → Int32} {i x : Int32} (C : CX G p s m args meth c own cc nL) (hS : va_S A H0 H locs) (h : va_at G.1 vwCl (a, .inl (G.2 2, n, .inl f)) H) (ha : A a) (hi : i = nI k) (hk : k < n) (hn : n < 2 ^ 31) (hx1 : vp_nar .boolean x = x) (hdg : decode cc pc = .ok (.bastore, 1))
    (kk : ∀ (H1 : Heap) (locs1 : List Loc), va_at G.1 vwCl (a, .inl (G.2 2, n, .inl (upd f k x))) H1 → (∀ q, q ≠ a → H1[q]? = H[q]?) → H1.size = H.size → va_S A H0 H1 locs1 → W p l e R s m args below meth c H1 locs1 cells slots Q (F0 m (pc + 1) ls rest)) : W p l e R s m args below meth c H locs cells slots Q (F0 m pc ls (.int x :: .int i :: .ref a :: rest)) := by
  obtain ⟨h1, h2⟩ := ix_in hi hk hn
  have hcell : H[a]? = some (vp_cell (G.2 2) (n, .inl f)) := h
  refine W.zast C.hx C.hb hcell ((C.hK.1.2 2 _ rfl).1 n (fun j => .int (f j))) (fun q => by cases q) (by show ¬ (i < 0 ∨ (arrV _ _ _).slots.size ≤ _); rw [arrV_size]; exact h1) rfl rfl hdg fun H1 e1 z1 o1 => ?_
  refine kk H1 _ ?_ o1 z1 (hS.put z1 o1 ha)
  show H1[a]? = some (vp_cell _ _)
  rw [e1, vp_cell_i, vp_cell_i, arrV_store, h2]
  have hnar : narrow .boolean (.int x) = .int x := by
    have h9 := hx1
    simp only [vp_nar, narrow] at h9 ⊢
    rw [h9]
  congr 2
  funext q
  by_cases hq : q = k
  · subst hq
    simp [updV, upd, hnar]
  · simp [updV, upd, hq]
theorem g_last {a n k : Nat} {f : Nat → Int64} {i : Int32} {x : Int64} (C : CX G p s m args meth c own cc nL) (hS : va_S A H0 H locs) (h : va_at G.1 vwCl (a, .inl (G.2 1, n, .inr (.inl f))) H) (ha : A a) (hi : i = nI k) (hk : k < n) (hn : n < 2 ^ 31) (hdg : decode cc pc = .ok (.lastore, 1))
    (kk : ∀ (H1 : Heap) (locs1 : List Loc), va_at G.1 vwCl (a, .inl (G.2 1, n, .inr (.inl (vp_updL f k x)))) H1 → (∀ q, q ≠ a → H1[q]? = H[q]?) → H1.size = H.size → va_S A H0 H1 locs1 → W p l e R s m args below meth c H1 locs1 cells slots Q (F0 m (pc + 1) ls rest)) : W p l e R s m args below meth c H locs cells slots Q (F0 m pc ls (.long x :: .int i :: .ref a :: rest)) := by
  obtain ⟨h1, h2⟩ := ix_in hi hk hn
  have hcell : H[a]? = some (vp_cell (G.2 1) (n, .inr (.inl f))) := h
  refine W.last C.hx C.hb hcell ((C.hK.1.2 1 _ rfl).1 n (fun j => .long (f j))) (fun q => by cases q) (by show ¬ (i < 0 ∨ (arrV _ _ _).slots.size ≤ _); rw [arrV_size]; exact h1) rfl rfl hdg fun H1 e1 z1 o1 => ?_
  refine kk H1 _ ?_ o1 z1 (hS.put z1 o1 ha)
  show H1[a]? = some (vp_cell _ _)
  rw [e1, vp_cell_l, vp_cell_l, arrV_store, h2]
  congr 2
  funext q
  by_cases hq : q = k
  · subst hq
    simp [updV, vp_updL]
  · simp [updV, vp_updL, hq]
theorem g_newa {atype : ArrayType} {ty : FieldType} {t0 N : Nat} {cA : ClassId} {n : Int32} {a0 : vp_A} (C : CX G p s m args meth c own cc nL) (hS : va_S A H0 H locs) (hty : newarray.typeOf atype = ty) (hw : Cond.arrayClass ty ∈ gtbl) (ht : (tysG G)[t0]? = some (cA, ty)) (hra : va_RA s cA ty → s.vm.findClass ("[" ++ ty.toString) = some cA) (hn : n = nI N) (hN : N < 2 ^ 31) (h0 : vp_cell cA a0 = arrV cA N (fun _ => defaultValue ty)) (hby : N * componentBytes ty ≤ 536870912) (hc1 : cells + 1 ≤ R.cells) (hs1 : slots + N ≤ R.slots) (hdg : decode cc pc = .ok (.newarray atype, 2))
    (kk : ∀ H1 : Heap, va_at G.1 vwCl (H.size, .inl (cA, a0)) H1 → (∀ q, q < H.size → H1[q]? = H[q]?) → H1.size = H.size + 1 → va_S A H0 H1 locs → W p l e R s m args below meth c H1 locs (cells + 1) (slots + N) Q (F0 m (pc + 2) ls (.ref H.size :: rest))) : W p l e R s m args below meth c H locs cells slots Q (F0 m pc ls (.int n :: rest)) := by
  subst hty; subst hn
  refine va_newaK C.hx C.hb (C.hT _ hw) rfl hdg rfl (nI_pos hN) (nI_clamp hN) hby hc1 hs1 rfl fun H1 cB e1 z1 o1 hAr hNm => ?_
  have h9 := hra (C.hK.1.2 t0 _ ht).2
  have hcc : cB = cA := Option.some.inj (hNm.symm.trans h9)
  subst hcc
  refine kk H1 ?_ o1 z1 ⟨Nat.le_trans hS.1 (by omega), fun x h1 h2 => (o1 x (Nat.lt_of_lt_of_le h1 hS.1)).trans (hS.2.1 x h1 h2), hS.2.2⟩
  show H1[H.size]? = some (vp_cell _ _)
  rw [h0]
  exact e1
theorem g_new {ci index N : Nat} {Cn : String} {T : u_T} {fs : List Value} (ty0 : Nat → FieldType) (C : CX G p s m args meth c own cc nL) (hS : va_S A H0 H locs) (hc : vwCl[ci]? = some (Cn, T, N)) (hu : ∀ w ∈ u_ws Cn T N, w ∈ gtbl) (hty : ∀ k, k < N → parseFieldDescriptor (T k).2.2.1 = some (ty0 k)) (hl : Cond.classLink own index Cn ∈ gtbl) (hi : Cond.instantiable Cn N ∈ gtbl) (hz : Cond.initialized Cn ∈ gtbl) (hfs : ∀ j, j < N → defaultValue (ty0 j) = vp_V fs j) (hc1 : cells + 1 ≤ R.cells) (hs1 : slots + N ≤ R.slots) (hdg : decode cc pc = .ok (.new index, 3))
    (kk : ∀ H1 : Heap, va_at G.1 vwCl (H.size, .inr (ci, fs)) H1 → (∀ q, q < H.size → H1[q]? = H[q]?) → H1.size = H.size + 1 → va_S A H0 H1 locs → W p l e R s m args below meth c H1 locs (cells + 1) (slots + N) Q (F0 m (pc + 3) ls (.ref H.size :: rest))) : W p l e R s m args below meth c H locs cells slots Q (F0 m pc ls rest) := by
  have hKn := C.hK.1.1 ci _ hc
  refine W.newcK C.hx C.hb C.hown (C.hT _ hl) (C.hT _ hi) (C.hT _ hz) rfl hdg hc1 hs1 hKn.2.1 rfl fun H1 kC hkC e1 z1 o1 => ?_
  exact kk H1 ⟨_, hc, (u_born ty0 C.hT hu hKn hkC e1 hty).to hfs⟩ o1 z1 ⟨Nat.le_trans hS.1 (by omega), fun x h1 h2 => (o1 x (Nat.lt_of_lt_of_le h1 hS.1)).trans (hS.2.1 x h1 h2), hS.2.2⟩
-- calls
theorem g_callR {V : Option Value} {a : Array Value} {st0 : List Value} (hr : va_Run p l e R s m args below meth c H locs cells slots 0 0 (F0 m pc ls st0) rest (Rd V a) (fun _ => False))
    (kk : W p l e R s m args below meth c H locs cells slots Q (F0 m (pc + 3) ls (V.toList ++ rest))) : W p l e R s m args below meth c H locs cells slots Q (F0 m pc ls st0) := by
  intro T hT X
  obtain ⟨v, st₀, t, T', L, h0, X', hL, e1, e2, ⟨hv, hh⟩, st⟩ := hr T hT X
  cases hv
  obtain ⟨t2, a1, b1⟩ := kk T' (by rw [e1, hh, h0]) (Stand.forget X' (fun q h => (hL q h).elim))
  exact ⟨t2, st t2 a1, b1⟩
theorem g_callW {V : Option Value} {P' : Heap → Prop} {a : Array Value} {st0 : List Value} {A1 : Nat → Prop} {mc ms : Nat} (hr : va_Run p l e R s m args below meth c H locs cells slots mc ms (F0 m pc ls st0) rest (Wr V P' A1 a) A1) (hS : va_S A H0 H locs) (hA : ∀ q, A1 q → A q)
    (kk : ∀ (H1 : Heap) (locs1 : List Loc), P' H1 → H.size ≤ H1.size → (∀ q : Nat, q < H.size → ¬ A1 q → H1[q]? = H[q]?) → va_S A H0 H1 locs1 → W p l e R s m args below meth c H1 locs1 (cells + mc) (slots + ms) Q (F0 m (pc + 3) ls (V.toList ++ rest))) : W p l e R s m args below meth c H locs cells slots Q (F0 m pc ls st0) := by
  intro T hT X
  obtain ⟨v, st₀, t, T', L, h0, X', hL, e1, e2, ⟨hv, hP, hz, hk⟩, st⟩ := hr T hT X
  cases hv
  rw [h0] at hz hk
  obtain ⟨t2, a1, b1⟩ := kk T'.heap (locs ++ L) (by rw [e1]; exact hP) (by rw [e1]; exact hz) (fun q h1 h2 => by rw [e1]; exact hk q h1 h2)
    ⟨Nat.le_trans hS.1 (by rw [e1]; exact hz), fun q h1 h2 => by rw [e1, hk q (Nat.lt_of_lt_of_le h1 hS.1) (fun z => h2 (hA q z))]; exact hS.2.1 q h1 h2, fun q hq => by
      rcases List.mem_append.mp hq with h | h
      · exact hS.2.2 q h
      · exact hA _ (hL q h)⟩ T' rfl X'
  exact ⟨t2, st t2 a1, b1⟩
variable {lvs : List (Nat × Value)} {y : MethodName} {bytes : ByteArray} {n np k idx : Nat} {ret : Option FieldType} {As : List Value} {b : Nat} {P P' : Heap → Prop} {V : Option Value} {host : String} {mc ms : Nat} {A1 : Nat → Prop} {st : List Value}
theorem LkB.good (lb : LkB y bytes n ret np) : GoodIn gtbl (wd y bytes n ret) := gt_sub (fun w h => by
  rcases List.mem_cons.mp h with h | h
  · rw [h]; exact lb.1
  · exact h)
theorem LkB.B (C : CX G p s m args meth c own cc nL) (lb : LkB y bytes n ret np) (hl : Cond.methodLink own idx y ∈ gtbl) (hR : k + 1 ≤ R.frames ∧ 8 + (n + 11) + 40 * k ≤ R.locals) : CallB R s args own idx y bytes n ret (wd y bytes n ret) (rmk k mc ms) mc ms np :=
  callB_of np C.hT lb.good rfl rfl rfl (C.hT _ lb.2.1) (C.hT _ hl) lb.2.2 hR
theorem LkB.N (C : CX G p s m args meth c own cc nL) (lb : LkB y bytes n ret np) (hl : Cond.methodLinkNest own idx y host ∈ lw_tbl) (hR : k + 1 ≤ R.frames ∧ 8 + (n + 11) + 40 * k ≤ R.locals) : va_CN R s args own idx y host bytes n ret (wd y bytes n ret) (rmk k mc ms) mc ms np :=
  va_cnB np C.hT lb.good rfl rfl rfl (C.hK.2.1 _ hl rfl) (C.hT _ lb.2.1) lb.2.2 hR
theorem Pk.preS (C : CX G p s m args meth c own cc nL) (hP : P H) : PreS s H (Pk G As P) As := ⟨Pk.blind, fun U hU hW => ⟨rfl, by rw [hU]; exact hP, C.hK.warm hW⟩⟩
theorem Pk.preV (C : CX G p s m args meth c own cc nL) {Cr : String} (hrec : ∃ cell : Cell, H[b]? = some cell ∧ cell.vm.isStatics = false ∧ s.vm.findClass Cr = some cell.cls) (hP : P H) : PreV s H Cr b (Pk G (.ref b :: As) P) As := ⟨Pk.blind, hrec, fun U hU hW => ⟨rfl, by rw [hU]; exact hP, C.hK.warm hW⟩⟩
theorem g_recv {ci : Nat} {fs : List Value} {q : vw_C} (C : CX G p s m args meth c own cc nL) (h : va_at G.1 vwCl (b, .inr (ci, fs)) H) (hc : vwCl[ci]? = some q) : ∃ cell : Cell, H[b]? = some cell ∧ cell.vm.isStatics = false ∧ s.vm.findClass q.1 = some cell.cls := va_recv C.hK.1 (va_one h) (q0 := 0) hc rfl
theorem kVR {v : Value} (C : CX G p s m args meth c own cc nL) (hM : MR l G y bytes n ret k (.ref b :: As) P (some v)) (lk : LkV own idx y bytes n ret np) (hrec : ∃ cell : Cell, H[b]? = some cell ∧ cell.vm.isStatics = false ∧ s.vm.findClass y.cls = some cell.cls) (hP : P H) (hst : st = As.reverse ++ .ref b :: rest) (hn : As.length = np) (hsz : lv_has ls nL lvs) (hcat : (rest.map fun v => v.category).sum ≤ 8) (hdg : decode cc pc = .ok (.invokevirtual idx, 3)) (hR : (k + 1 ≤ R.frames ∧ 8 + (n + 11) + 40 * k ≤ R.locals) ∧ cells ≤ R.cells ∧ slots ≤ R.slots)
    (kk : W p l e R s m args below meth c H locs cells slots Q (F0 m (pc + 3) ls (v :: rest))) : W p l e R s m args below meth c H locs cells slots Q (F0 m pc ls st) :=
  g_callR (va_runV (As := As) (rest := rest) C.1 hM ⟨LkB.B C lk.1 lk.2.1 hR.1, C.hT _ lk.2.2.1, C.hT _ lk.2.2.2⟩ (Pk.preV C hrec hP) rfl hn hsz.1 hst (lv_room hcat) hdg hR.2) kk
theorem kSR {v : Value} (C : CX G p s m args meth c own cc nL) (hM : MR l G y bytes n ret k As P (some v)) (lk : LkS own idx y bytes n ret np) (hP : P H) (hst : st = As.reverse ++ rest) (hn : As.length = np) (hsz : lv_has ls nL lvs) (hcat : (rest.map fun v => v.category).sum ≤ 8) (hdg : decode cc pc = .ok (.invokestatic idx, 3)) (hR : (k + 1 ≤ R.frames ∧ 8 + (n + 11) + 40 * k ≤ R.locals) ∧ cells ≤ R.cells ∧ slots ≤ R.slots)
    (kk : W p l e R s m args below meth c H locs cells slots Q (F0 m (pc + 3) ls (v :: rest))) : W p l e R s m args below meth c H locs cells slots Q (F0 m pc ls st) :=
  g_callR (va_runS (As := As) (rest := rest) C.1 hM ⟨LkB.B C lk.1 lk.2.1 hR.1, C.hT _ lk.2.2⟩ (Pk.preS C hP) rfl hn hsz.1 hst (lv_room hcat) hdg hR.2) kk
theorem kVNR {v : Value} (C : CX G p s m args meth c own cc nL) (hM : MR l G y bytes n ret k (.ref b :: As) P (some v)) (lk : LkVN own idx y host bytes n ret np) (hrec : ∃ cell : Cell, H[b]? = some cell ∧ cell.vm.isStatics = false ∧ s.vm.findClass y.cls = some cell.cls) (hP : P H) (hst : st = As.reverse ++ .ref b :: rest) (hn : As.length = np) (hsz : lv_has ls nL lvs) (hcat : (rest.map fun v => v.category).sum ≤ 8) (hdg : decode cc pc = .ok (.invokevirtual idx, 3)) (hR : (k + 1 ≤ R.frames ∧ 8 + (n + 11) + 40 * k ≤ R.locals) ∧ cells ≤ R.cells ∧ slots ≤ R.slots)
    (kk : W p l e R s m args below meth c H locs cells slots Q (F0 m (pc + 3) ls (v :: rest))) : W p l e R s m args below meth c H locs cells slots Q (F0 m pc ls st) :=
  g_callR (va_runVN (As := As) (rest := rest) C.1 hM ⟨LkB.N C lk.1 lk.2.1 hR.1, C.hT _ lk.2.2.1, C.hT _ lk.2.2.2⟩ (Pk.preV C hrec hP) rfl hn hsz.1 hst (lv_room hcat) hdg hR.2) kk
theorem kSNR {v : Value} (C : CX G p s m args meth c own cc nL) (hM : MR l G y bytes n ret k As P (some v)) (lk : LkSN own idx y host bytes n ret np) (hP : P H) (hst : st = As.reverse ++ rest) (hn : As.length = np) (hsz : lv_has ls nL lvs) (hcat : (rest.map fun v => v.category).sum ≤ 8) (hdg : decode cc pc = .ok (.invokestatic idx, 3)) (hR : (k + 1 ≤ R.frames ∧ 8 + (n + 11) + 40 * k ≤ R.locals) ∧ cells ≤ R.cells ∧ slots ≤ R.slots)
    (kk : W p l e R s m args below meth c H locs cells slots Q (F0 m (pc + 3) ls (v :: rest))) : W p l e R s m args below meth c H locs cells slots Q (F0 m pc ls st) :=
  g_callR (va_runSN (As := As) (rest := rest) C.1 hM ⟨LkB.N C lk.1 lk.2.1 hR.1, C.hT _ lk.2.2, trivial⟩ (Pk.preS C hP) rfl hn hsz.1 hst (lv_room hcat) hdg hR.2) kk
theorem kVW {v : Value} (C : CX G p s m args meth c own cc nL) (hM : MW l G y bytes n ret k (.ref b :: As) P (some v) P' A1 mc ms) (lk : LkV own idx y bytes n ret np) (hrec : ∃ cell : Cell, H[b]? = some cell ∧ cell.vm.isStatics = false ∧ s.vm.findClass y.cls = some cell.cls) (hP : P H) (hst : st = As.reverse ++ .ref b :: rest) (hn : As.length = np) (hsz : lv_has ls nL lvs) (hcat : (rest.map fun v => v.category).sum ≤ 8) (hdg : decode cc pc = .ok (.invokevirtual idx, 3)) (hR : (k + 1 ≤ R.frames ∧ 8 + (n + 11) + 40 * k ≤ R.locals) ∧ cells + mc ≤ R.cells ∧ slots + ms ≤ R.slots) (hS : va_S A H0 H locs) (hA : ∀ q, A1 q → A q)
    (kk : ∀ (H1 : Heap) (locs1 : List Loc), P' H1 → H.size ≤ H1.size → (∀ q : Nat, q < H.size → ¬ A1 q → H1[q]? = H[q]?) → va_S A H0 H1 locs1 → W p l e R s m args below meth c H1 locs1 (cells + mc) (slots + ms) Q (F0 m (pc + 3) ls (v :: rest))) : W p l e R s m args below meth c H locs cells slots Q (F0 m pc ls st) :=
  g_callW (va_runV (As := As) (rest := rest) C.1 hM ⟨LkB.B C lk.1 lk.2.1 hR.1, C.hT _ lk.2.2.1, C.hT _ lk.2.2.2⟩ (Pk.preV C hrec hP) rfl hn hsz.1 hst (lv_room hcat) hdg hR.2) hS hA kk
theorem kVWn (C : CX G p s m args meth c own cc nL) (hM : MW l G y bytes n ret k (.ref b :: As) P none P' A1 mc ms) (lk : LkV own idx y bytes n ret np) (hrec : ∃ cell : Cell, H[b]? = some cell ∧ cell.vm.isStatics = false ∧ s.vm.findClass y.cls = some cell.cls) (hP : P H) (hst : st = As.reverse ++ .ref b :: rest) (hn : As.length = np) (hsz : lv_has ls nL lvs) (hcat : (rest.map fun v => v.category).sum ≤ 8) (hdg : decode cc pc = .ok (.invokevirtual idx, 3)) (hR : (k + 1 ≤ R.frames ∧ 8 + (n + 11) + 40 * k ≤ R.locals) ∧ cells + mc ≤ R.cells ∧ slots + ms ≤ R.slots) (hS : va_S A H0 H locs) (hA : ∀ q, A1 q → A q)
    (kk : ∀ (H1 : Heap) (locs1 : List Loc), P' H1 → H.size ≤ H1.size → (∀ q : Nat, q < H.size → ¬ A1 q → H1[q]? = H[q]?) → va_S A H0 H1 locs1 → W p l e R s m args below meth c H1 locs1 (cells + mc) (slots + ms) Q (F0 m (pc + 3) ls rest)) : W p l e R s m args below meth c H locs cells slots Q (F0 m pc ls st) :=
  g_callW (va_runV (As := As) (rest := rest) C.1 hM ⟨LkB.B C lk.1 lk.2.1 hR.1, C.hT _ lk.2.2.1, C.hT _ lk.2.2.2⟩ (Pk.preV C hrec hP) rfl hn hsz.1 hst (lv_room hcat) hdg hR.2) hS hA kk
theorem kVNW {v : Value} (C : CX G p s m args meth c own cc nL) (hM : MW l G y bytes n ret k (.ref b :: As) P (some v) P' A1 mc ms) (lk : LkVN own idx y host bytes n ret np) (hrec : ∃ cell : Cell, H[b]? = some cell ∧ cell.vm.isStatics = false ∧ s.vm.findClass y.cls = some cell.cls) (hP : P H) (hst : st = As.reverse ++ .ref b :: rest) (hn : As.length = np) (hsz : lv_has ls nL lvs) (hcat : (rest.map fun v => v.category).sum ≤ 8) (hdg : decode cc pc = .ok (.invokevirtual idx, 3)) (hR : (k + 1 ≤ R.frames ∧ 8 + (n + 11) + 40 * k ≤ R.locals) ∧ cells + mc ≤ R.cells ∧ slots + ms ≤ R.slots) (hS : va_S A H0 H locs) (hA : ∀ q, A1 q → A q)
    (kk : ∀ (H1 : Heap) (locs1 : List Loc), P' H1 → H.size ≤ H1.size → (∀ q : Nat, q < H.size → ¬ A1 q → H1[q]? = H[q]?) → va_S A H0 H1 locs1 → W p l e R s m args below meth c H1 locs1 (cells + mc) (slots + ms) Q (F0 m (pc + 3) ls (v :: rest))) : W p l e R s m args below meth c H locs cells slots Q (F0 m pc ls st) :=
  g_callW (va_runVN (As := As) (rest := rest) C.1 hM ⟨LkB.N C lk.1 lk.2.1 hR.1, C.hT _ lk.2.2.1, C.hT _ lk.2.2.2⟩ (Pk.preV C hrec hP) rfl hn hsz.1 hst (lv_room hcat) hdg hR.2) hS hA kk
theorem kVNWn (C : CX G p s m args meth c own cc nL) (hM : MW l G y bytes n ret k (.ref b :: As) P none P' A1 mc ms) (lk : LkVN own idx y host bytes n ret np) (hrec : ∃ cell : Cell, H[b]? = some cell ∧ cell.vm.isStatics = false ∧ s.vm.findClass y.cls = some cell.cls) (hP : P H) (hst : st = As.reverse ++ .ref b :: rest) (hn : As.length = np) (hsz : lv_has ls nL lvs) (hcat : (rest.map fun v => v.category).sum ≤ 8) (hdg : decode cc pc = .ok (.invokevirtual idx, 3)) (hR : (k + 1 ≤ R.frames ∧ 8 + (n + 11) + 40 * k ≤ R.locals) ∧ cells + mc ≤ R.cells ∧ slots + ms ≤ R.slots) (hS : va_S A H0 H locs) (hA : ∀ q, A1 q → A q)
    (kk : ∀ (H1 : Heap) (locs1 : List Loc), P' H1 → H.size ≤ H1.size → (∀ q : Nat, q < H.size → ¬ A1 q → H1[q]? = H[q]?) → va_S A H0 H1 locs1 → W p l e R s m args below meth c H1 locs1 (cells + mc) (slots + ms) Q (F0 m (pc + 3) ls rest)) : W p l e R s m args below meth c H locs cells slots Q (F0 m pc ls st) :=
  g_callW (va_runVN (As := As) (rest := rest) C.1 hM ⟨LkB.N C lk.1 lk.2.1 hR.1, C.hT _ lk.2.2.1, C.hT _ lk.2.2.2⟩ (Pk.preV C hrec hP) rfl hn hsz.1 hst (lv_room hcat) hdg hR.2) hS hA kk
theorem kIWn (C : CX G p s m args meth c own cc nL) (hM : MW l G y bytes n none k (.ref b :: As) P none P' A1 mc ms) (lk : LkI own idx y bytes n np) (hP : P H) (hst : st = As.reverse ++ .ref b :: rest) (hn : As.length = np) (hsz : lv_has ls nL lvs) (hcat : (rest.map fun v => v.category).sum ≤ 8) (hdg : decode cc pc = .ok (.invokespecial idx, 3)) (hR : (k + 1 ≤ R.frames ∧ 8 + (n + 11) + 40 * k ≤ R.locals) ∧ cells + mc ≤ R.cells ∧ slots + ms ≤ R.slots) (hS : va_S A H0 H locs) (hA : ∀ q, A1 q → A q)
    (kk : ∀ (H1 : Heap) (locs1 : List Loc), P' H1 → H.size ≤ H1.size → (∀ q : Nat, q < H.size → ¬ A1 q → H1[q]? = H[q]?) → va_S A H0 H1 locs1 → W p l e R s m args below meth c H1 locs1 (cells + mc) (slots + ms) Q (F0 m (pc + 3) ls rest)) : W p l e R s m args below meth c H locs cells slots Q (F0 m pc ls st) :=
  g_callW (va_runI (As := As) (rest := rest) C.1 hM ⟨LkB.B C lk.1 lk.2.1 hR.1, lk.2.2.2, C.hT _ lk.2.2.1⟩ (Pk.preS (As := .ref b :: As) C hP) rfl hn hsz.1 hst (lv_room hcat) hdg hR.2) hS hA kk
theorem kINWn (C : CX G p s m args meth c own cc nL) (hM : MW l G y bytes n none k (.ref b :: As) P none P' A1 mc ms) (lk : LkIN own idx y host bytes n np) (hP : P H) (hst : st = As.reverse ++ .ref b :: rest) (hn : As.length = np) (hsz : lv_has ls nL lvs) (hcat : (rest.map fun v => v.category).sum ≤ 8) (hdg : decode cc pc = .ok (.invokespecial idx, 3)) (hR : (k + 1 ≤ R.frames ∧ 8 + (n + 11) + 40 * k ≤ R.locals) ∧ cells + mc ≤ R.cells ∧ slots + ms ≤ R.slots) (hS : va_S A H0 H locs) (hA : ∀ q, A1 q → A q)
    (kk : ∀ (H1 : Heap) (locs1 : List Loc), P' H1 → H.size ≤ H1.size → (∀ q : Nat, q < H.size → ¬ A1 q → H1[q]? = H[q]?) → va_S A H0 H1 locs1 → W p l e R s m args below meth c H1 locs1 (cells + mc) (slots + ms) Q (F0 m (pc + 3) ls rest)) : W p l e R s m args below meth c H locs cells slots Q (F0 m pc ls st) :=
  g_callW (va_runIN (As := As) (rest := rest) C.1 hM ⟨LkB.N C lk.1 lk.2.1 hR.1, lk.2.2.2, C.hT _ lk.2.2.1⟩ (Pk.preS (As := .ref b :: As) C hP) rfl hn hsz.1 hst (lv_room hcat) hdg hR.2) hS hA kk
end RW
end
section
/-! THE REFERENCE'S WORLD: one object, its arrays behind it; x k j: place j of array k (fields by their number), a scalar k is x k 0; z: kin -/
def up2 (x : Nat → Nat → Int32) (k j : Nat) (v : Int32) : Nat → Nat → Int32 := fun k' => if k' = k then upd (x k) j v else x k'
def rkL : List Nat := [0, 0, 1, 2, 3, 0, 0, 0, 4, 5, 6, 7, 0, 8, 9, 10, 11, 12, 13, 14, 15, 16, 17, 18, 19, 20, 21, 0, 0, 22, 23, 24, 25, 26, 27, 28, 0, 29, 30, 31, 32, 33, 0, 34, 35, 36, 0]
def lnL : List Nat := [0, 8, 8, 8, 3, 0, 0, 0, 300, 300, 300, 300, 0, 400, 400, 400, 400, 400, 400, 400, 400, 400, 400, 800, 400, 400, 400, 0, 0, 20, 20, 20, 20, 20, 400, 400, 0, 8000, 8000, 8000, 8000, 8000, 0, 400, 400, 400, 0]
def inL : List Bool := [false, true, true, true, true, false, false, false, true, true, true, true, false, true, true, true, true, true, true, true, true, true, true, true, true, true, true, false, false, true, false, true, true, false, true, true, false, true, true, true, true, true, false, true, true, true, false]
def am (m0 k : Nat) : Nat := m0 + 1 + rkL.getD k 0
def ln (k : Nat) : Nat := lnL.getD k 0
def isI (k : Nat) : Bool := inL.getD k false
def MA (m0 : Nat) : Nat → Prop := fun q => m0 ≤ q ∧ q < m0 + 38
def mfs (m0 : Nat) (x : Nat → Nat → Int32) : List Value := [.int (x 0 0), .ref (am m0 1), .ref (am m0 2), .ref (am m0 3), .ref (am m0 4), .int (x 5 0), .int (x 6 0), .int (x 7 0), .ref (am m0 8), .ref (am m0 9), .ref (am m0 10), .ref (am m0 11), .int (x 12 0), .ref (am m0 13), .ref (am m0 14), .ref (am m0 15), .ref (am m0 16), .ref (am m0 17), .ref (am m0 18), .ref (am m0 19), .ref (am m0 20), .ref (am m0 21), .ref (am m0 22), .ref (am m0 23), .ref (am m0 24), .ref (am m0 25), .ref (am m0 26), .int (x 27 0), .int (x 28 0), .ref (am m0 29), .ref (am m0 30), .ref (am m0 31), .ref (am m0 32), .ref (am m0 33), .ref (am m0 34), .ref (am m0 35), .int (x 36 0), .ref (am m0 37), .ref (am m0 38), .ref (am m0 39), .ref (am m0 40), .ref (am m0 41), .int (x 42 0), .ref (am m0 43), .ref (am m0 44), .ref (am m0 45), .int (x 46 0)]
def MWd (G : GG) (m0 : Nat) (x : Nat → Nat → Int32) (z : Nat → Int64) (H : Heap) : Prop :=
  va_at G.1 vwCl (m0, .inr (9, mfs m0 x)) H ∧ (∀ k, isI k = true → va_at G.1 vwCl (am m0 k, .inl (G.2 0, ln k, .inl (x k))) H) ∧ va_at G.1 vwCl (am m0 30, .inl (G.2 1, 20, .inr (.inl z))) H ∧ va_at G.1 vwCl (am m0 33, .inl (G.2 2, 20, .inl (x 33))) H
def isAr (k : Nat) : Bool := isI k || k == 30 || k == 33
theorem am_inj0 : (List.range 47).all (fun k => (List.range 47).all (fun k' => !(isAr k) || !(isAr k') || k' == k || !(rkL.getD k' 0 == rkL.getD k 0))) = true := by decide +kernel
theorem isAr_of {k : Nat} (h : isI k = true ∨ k = 30 ∨ k = 33) : isAr k = true := by
  rcases h with h | h | h
  · simp [isAr, h]
  · subst h; rfl
  · subst h; rfl
theorem am_inj (k : Nat) (hk : k < 47) (k' : Nat) (hk' : k' < 47) (h1 : isI k = true ∨ k = 30 ∨ k = 33) (h2 : isI k' = true ∨ k' = 30 ∨ k' = 33) (n : k' ≠ k) : rkL.getD k' 0 ≠ rkL.getD k 0 := by
  have h := List.all_eq_true.mp (List.all_eq_true.mp am_inj0 k (List.mem_range.mpr hk)) k' (List.mem_range.mpr hk')
  simpa [isAr_of h1, isAr_of h2, n] using h
theorem isI_lt {k : Nat} (h : isI k = true) : k < 47 := by
  rcases Nat.lt_or_ge k 47 with q | q
  · exact q
  · have e : inL.getD k false = false := by
      unfold inL
      rw [List.getD_eq_getElem?_getD, List.getElem?_eq_none (by simpa using q)]
      rfl
    unfold isI at h
    rw [e] at h
    cases h
theorem am_ne {m0 k k' : Nat} (hk : isI k = true ∨ k = 30 ∨ k = 33) (hk' : isI k' = true ∨ k' = 30 ∨ k' = 33) (n : k' ≠ k) : am m0 k' ≠ am m0 k := by
  have l1 : k < 47 := by rcases hk with h | h | h; exact isI_lt h; omega; omega
  have l2 : k' < 47 := by rcases hk' with h | h | h; exact isI_lt h; omega; omega
  have h := am_inj k l1 k' l2 hk hk' n
  unfold am
  omega
theorem am_rk : ∀ k, k < 47 → rkL.getD k 0 < 37 := by decide
theorem am_A {m0 k : Nat} (hk : isI k = true ∨ k = 30 ∨ k = 33) : MA m0 (am m0 k) := by
  have l1 : k < 47 := by rcases hk with h | h | h; exact isI_lt h; omega; omega
  have h := am_rk k l1
  unfold MA am
  omega
theorem am_m0 {m0 k : Nat} : am m0 k ≠ m0 := by unfold am; omega
theorem MA_0 {m0 : Nat} : MA m0 m0 := by unfold MA; omega
theorem up2_ne {x : Nat → Nat → Int32} {k j k' : Nat} {v : Int32} (h : k' ≠ k) : up2 x k j v k' = x k' := by unfold up2; rw [if_neg h]
theorem up2_eq {x : Nat → Nat → Int32} {k j : Nat} {v : Int32} : up2 x k j v k = upd (x k) j v := by unfold up2; rw [if_pos rfl]
section MWS
variable {G : GG} {m0 : Nat} {x : Nat → Nat → Int32} {z : Nat → Int64} {H H1 : Heap}
theorem MWd.kept (h : MWd G m0 x z H) (o : ∀ q, MA m0 q → H1[q]? = H[q]?) : MWd G m0 x z H1 :=
  ⟨h.1.kept (o _ MA_0), fun k hk => (h.2.1 k hk).kept (o _ (am_A (Or.inl hk))), h.2.2.1.kept (o _ (am_A (Or.inr (Or.inl rfl)))), h.2.2.2.kept (o _ (am_A (Or.inr (Or.inr rfl))))⟩
theorem MWd.putS (k : Nat) {v : Int32} (h : MWd G m0 x z H) (e : va_at G.1 vwCl (m0, .inr (9, (mfs m0 x).set k (.int v))) H1) (o : ∀ q, q ≠ m0 → H1[q]? = H[q]?) (hs : (mfs m0 x).set k (.int v) = mfs m0 (up2 x k 0 v)) (hk : isI k = false) (hk2 : (33 : Nat) ≠ k) : MWd G m0 (up2 x k 0 v) z H1 := by
  refine ⟨by rw [← hs]; exact e, fun k' hk' => ?_, h.2.2.1.kept (o _ am_m0), ?_⟩
  · rw [up2_ne (fun e => by rw [e, hk] at hk'; cases hk')]
    exact (h.2.1 k' hk').kept (o _ am_m0)
  · rw [up2_ne hk2]
    exact h.2.2.2.kept (o _ am_m0)
theorem MWd.putA (k : Nat) {j : Nat} {v : Int32} (h : MWd G m0 x z H) (hk : isI k = true) (e : va_at G.1 vwCl (am m0 k, .inl (G.2 0, ln k, .inl (upd (x k) j v))) H1) (o : ∀ q, q ≠ am m0 k → H1[q]? = H[q]?) (hs : mfs m0 (up2 x k j v) = mfs m0 x) (hk2 : (33 : Nat) ≠ k) (hk3 : (30 : Nat) ≠ k) : MWd G m0 (up2 x k j v) z H1 := by
  refine ⟨by rw [hs]; exact h.1.kept (o _ (Ne.symm am_m0)), fun k' hk' => ?_, h.2.2.1.kept (o _ (am_ne (Or.inl hk) (Or.inr (Or.inl rfl)) hk3)), ?_⟩
  · by_cases q : k' = k
    · subst q
      rw [up2_eq]
      exact e
    · rw [up2_ne q]
      exact (h.2.1 k' hk').kept (o _ (am_ne (Or.inl hk) (Or.inl hk') q))
  · rw [up2_ne hk2]
    exact h.2.2.2.kept (o _ (am_ne (Or.inl hk) (Or.inr (Or.inr rfl)) hk2))
theorem MWd.putZ {j : Nat} {v : Int32} (h : MWd G m0 x z H) (e : va_at G.1 vwCl (am m0 33, .inl (G.2 2, 20, .inl (upd (x 33) j v))) H1) (o : ∀ q, q ≠ am m0 33 → H1[q]? = H[q]?) : MWd G m0 (up2 x 33 j v) z H1 := by
  refine ⟨h.1.kept (o _ (Ne.symm am_m0)), fun k' hk' => ?_, h.2.2.1.kept (o _ (am_ne (Or.inr (Or.inr rfl)) (Or.inr (Or.inl rfl)) (by decide))), e⟩
  have q : k' ≠ 33 := fun q => by rw [q] at hk'; cases hk'
  rw [up2_ne q]
  exact (h.2.1 k' hk').kept (o _ (am_ne (Or.inr (Or.inr rfl)) (Or.inl hk') q))
theorem MWd.putL {j : Nat} {v : Int64} (h : MWd G m0 x z H) (e : va_at G.1 vwCl (am m0 30, .inl (G.2 1, 20, .inr (.inl (vp_updL z j v)))) H1) (o : ∀ q, q ≠ am m0 30 → H1[q]? = H[q]?) : MWd G m0 x (vp_updL z j v) H1 := by
  refine ⟨h.1.kept (o _ (Ne.symm am_m0)), fun k' hk' => ?_, e, h.2.2.2.kept (o _ (am_ne (Or.inr (Or.inl rfl)) (Or.inr (Or.inr rfl)) (by decide)))⟩
  have q : k' ≠ 30 := fun q => by rw [q] at hk'; cases hk'
  exact (h.2.1 k' hk').kept (o _ (am_ne (Or.inr (Or.inl rfl)) (Or.inl hk') q))
end MWS
theorem nb0 : narrow .boolean (.int 0) = .int 0 := rfl
theorem nb1 : narrow .boolean (.int 1) = .int 1 := rfl
end
section
/-! THE REFERENCE'S METHODS, by program: s_X8_f is what f answers, sx_X8_f the state behind it -/
abbrev tn (i : Int32) : Nat := i.toNatClampNeg
abbrev nP (x : Nat → Nat → Int32) : Nat := tn (x 12 0)
abbrev nC (x : Nat → Nat → Int32) : Nat := tn (x 27 0)
abbrev nG (x : Nat → Nat → Int32) : Nat := tn (x 36 0)
abbrev nV (x : Nat → Nat → Int32) : Nat := tn (x 42 0)
def MI (x : Nat → Nat → Int32) : Prop := (x 12 0 = nI (nP x) ∧ nP x ≤ 300) ∧ (x 27 0 = nI (nC x) ∧ nC x ≤ 400) ∧ (x 36 0 = nI (nG x) ∧ nG x ≤ 400) ∧ (x 42 0 = nI (nV x) ∧ nV x ≤ 8000) ∧
  (∀ c, c < nC x → (x 13 c = nI (tn (x 13 c)) ∧ tn (x 13 c) < nP x) ∧ (x 14 c = nI (tn (x 14 c)) ∧ tn (x 14 c) < 8) ∧ (x 17 c = nI (tn (x 17 c)) ∧ tn (x 17 c) < 3)) ∧
  (∀ v, v < nV x → (x 38 v = nI (tn (x 38 v)) ∧ tn (x 38 v) < nC x) ∧ (x 39 v = nI (tn (x 39 v)) ∧ tn (x 39 v) < 2))
theorem MI.po {x : Nat → Nat → Int32} (h : MI x) {c : Nat} (hc : c < nC x) : x 13 c = nI (tn (x 13 c)) ∧ tn (x 13 c) < nP x := (h.2.2.2.2.1 c hc).1
theorem MI.ru {x : Nat → Nat → Int32} (h : MI x) {c : Nat} (hc : c < nC x) : x 14 c = nI (tn (x 14 c)) ∧ tn (x 14 c) < 8 := (h.2.2.2.2.1 c hc).2.1
theorem MI.cg {x : Nat → Nat → Int32} (h : MI x) {c : Nat} (hc : c < nC x) : x 17 c = nI (tn (x 17 c)) ∧ tn (x 17 c) < 3 := (h.2.2.2.2.1 c hc).2.2
theorem MI.vc {x : Nat → Nat → Int32} (h : MI x) {v : Nat} (hv : v < nV x) : x 38 v = nI (tn (x 38 v)) ∧ tn (x 38 v) < nC x := (h.2.2.2.2.2 v hv).1
theorem MI.vt {x : Nat → Nat → Int32} (h : MI x) {v : Nat} (hv : v < nV x) : x 39 v = nI (tn (x 39 v)) ∧ tn (x 39 v) < 2 := (h.2.2.2.2.2 v hv).2
theorem nI_addE {x y : Int32} {a b : Nat} (h : x = nI a) (k : y = nI b) : x + y = nI (a + b) := by rw [h, k]; exact nI_add a b
theorem nI_subE {x y : Int32} {a b : Nat} (h : x = nI a) (k : y = nI b) (q : b ≤ a) : x - y = nI (a - b) := by rw [h, k]; exact pk_sub q
theorem pos_ne {b : Int32} {N : Nat} (e : b = nI N) (h : ¬ b = 0) : 0 < N := Nat.pos_of_ne_zero (fun q => h (by rw [e, q]; rfl))
theorem nI_mulE {x y : Int32} {a b : Nat} (h : x = nI a) (k : y = nI b) : x * y = nI (a * b) := by rw [h, k]; exact pk_mul a b
theorem nb01 {v : Int32} (h : v = 0 ∨ v = 1) : narrow .boolean (.int v) = .int v := by rcases h with h | h <;> subst h <;> rfl
theorem lt_nle {b : Int32} {N i : Nat} (e : b = nI N) (h : i < N) (hN : N < 2 ^ 31) : ¬ b ≤ nI i := by rw [e]; exact nI_ge h hN
theorem le_eqn {b : Int32} {N : Nat} (e : b = nI N) : b ≤ nI N := by rw [e]; exact Int32.le_refl _
def isS (k : Nat) : Bool := k == 0 || k == 5 || k == 6 || k == 7 || k == 12 || k == 27 || k == 28 || k == 36 || k == 42 || k == 46
theorem mfs_up {m0 k j : Nat} {x : Nat → Nat → Int32} {v : Int32} (h : isS k = false) : mfs m0 (up2 x k j v) = mfs m0 x := by
  simp only [isS, Bool.or_eq_false_iff, beq_eq_false_iff_ne, ne_eq] at h
  obtain ⟨⟨⟨⟨⟨⟨⟨⟨⟨h0, h5⟩, h6⟩, h7⟩, h12⟩, h27⟩, h28⟩, h36⟩, h42⟩, h46⟩ := h
  unfold mfs
  rw [up2_ne (Ne.symm h0), up2_ne (Ne.symm h5), up2_ne (Ne.symm h6), up2_ne (Ne.symm h7), up2_ne (Ne.symm h12), up2_ne (Ne.symm h27), up2_ne (Ne.symm h28), up2_ne (Ne.symm h36), up2_ne (Ne.symm h42), up2_ne (Ne.symm h46)]
theorem mset_0 {m0 : Nat} {x : Nat → Nat → Int32} {v : Int32} : (mfs m0 x).set 0 (.int v) = mfs m0 (up2 x 0 0 v) := rfl
theorem mset_5 {m0 : Nat} {x : Nat → Nat → Int32} {v : Int32} : (mfs m0 x).set 5 (.int v) = mfs m0 (up2 x 5 0 v) := rfl
theorem mset_6 {m0 : Nat} {x : Nat → Nat → Int32} {v : Int32} : (mfs m0 x).set 6 (.int v) = mfs m0 (up2 x 6 0 v) := rfl
theorem mset_7 {m0 : Nat} {x : Nat → Nat → Int32} {v : Int32} : (mfs m0 x).set 7 (.int v) = mfs m0 (up2 x 7 0 v) := rfl
theorem mset_12 {m0 : Nat} {x : Nat → Nat → Int32} {v : Int32} : (mfs m0 x).set 12 (.int v) = mfs m0 (up2 x 12 0 v) := rfl
theorem mset_27 {m0 : Nat} {x : Nat → Nat → Int32} {v : Int32} : (mfs m0 x).set 27 (.int v) = mfs m0 (up2 x 27 0 v) := rfl
theorem mset_28 {m0 : Nat} {x : Nat → Nat → Int32} {v : Int32} : (mfs m0 x).set 28 (.int v) = mfs m0 (up2 x 28 0 v) := rfl
theorem mset_36 {m0 : Nat} {x : Nat → Nat → Int32} {v : Int32} : (mfs m0 x).set 36 (.int v) = mfs m0 (up2 x 36 0 v) := rfl
theorem mset_42 {m0 : Nat} {x : Nat → Nat → Int32} {v : Int32} : (mfs m0 x).set 42 (.int v) = mfs m0 (up2 x 42 0 v) := rfl
theorem mset_46 {m0 : Nat} {x : Nat → Nat → Int32} {v : Int32} : (mfs m0 x).set 46 (.int v) = mfs m0 (up2 x 46 0 v) := rfl
theorem ne_lt {b : Int32} {N M : Nat} (e : b = nI N) (h : ¬ b = nI M) (q : N ≤ M) : N < M := Nat.lt_of_le_of_ne q (fun k => h (by rw [e, k]))
def itr (f : Nat → Int32 → Int32) (a : Int32) : Nat → Int32
  | 0 => a
  | n + 1 => f n (itr f a n)
section SW
variable {p : Program} {l : Launch} {e : Env} {R : Room} {s : State} {m : MethodId} {args : Array Value} {below : List Frame} {meth : Method} {c : Code} {H : Heap} {locs : List Loc} {cells slots : Nat} {Q : State → Prop} {cc : ByteArray} {pc : Nat} {ls : Array Slot} {rest : List Value}
theorem sw_in (hexec : p.tables.exec = Jvm.exec) (hb : c.code = cc) {dflt lo hi : Int} {offs : Array Int} {len : Nat} {x v : Int32} {off : Int} {tgt : Nat} (hdg : decode cc pc = .ok (.tableswitch dflt lo hi offs, len)) (h : x = v) (h1 : ¬ v.toInt < lo) (h2 : ¬ hi < v.toInt) (ho : offs[(v.toInt - lo).toNat]? = some off) (ht : (pc : Int) + off = (tgt : Int)) (k : W p l e R s m args below meth c H locs cells slots Q (F0 m tgt ls rest)) : W p l e R s m args below meth c H locs cells slots Q (F0 m pc ls (.int x :: rest)) := by
  subst h
  exact lv_tableIn hexec hb hdg h1 h2 ho ht k
theorem sw_lk (hexec : p.tables.exec = Jvm.exec) (hb : c.code = cc) {dflt : Int} {ps : Array (Int × Int)} {len : Nat} {x v : Int32} {off : Int} {tgt : Nat} (hdg : decode cc pc = .ok (.lookupswitch dflt ps, len)) (h : x = v) (hp : (ps.toList.zip (ps.toList.drop 1)).all (fun (a, next) => a.1 < next.1) = true) (ho : Op.lookupswitch.offset ps.toList dflt v.toInt = off) (ht : (pc : Int) + off = (tgt : Int)) (k : W p l e R s m args below meth c H locs cells slots Q (F0 m tgt ls rest)) : W p l e R s m args below meth c H locs cells slots Q (F0 m pc ls (.int x :: rest)) := by
  subst h
  exact lv_lookup hexec hb hdg hp ho ht k
end SW
def s_X8_within (v : Int32) (least : Int32) (most : Int32) : Int32 := (if v < least then 0 else (if most < v then 0 else 1 : Int32) : Int32)
set_option maxRecDepth 100000 in
set_option maxHeartbeats 4000000 in
theorem cM_within (l : Launch) (G : GG) (v : Int32) (least : Int32) (most : Int32) : MR l G yX8_within cX8_within 3 (some .boolean) 0 [.int v, .int least, .int most] (fun _ => True) (some (.int (s_X8_within v least most))) := by
  refine MR.of RX8 rfl (by decide) (Nat.le_of_ble_eq_true rfl) ?_
  intro p_ e_ s_ m_ args_ below_ meth_ c_ ls hargs C hr hnm hW hl
  have hl : lv_has ls 3 [(0, .int v), (1, .int least), (2, .int most)] := hl
  refine lv_iload_n C.hx C.hb dX8_within_0 rfl (lv_at hl 0 rfl) ?_
  refine lv_iload_n C.hx C.hb dX8_within_1 rfl (lv_at hl 1 rfl) ?_
  refine W.joinI (P := fun jv => jv = (if v < least then 0 else (if most < v then 0 else 1 : Int32) : Int32)) 15 ls [] (fun J3 => ?_) (fun v4 hv4 => ?_)
  · refine lv_icmp_lt (tgt := 14) C.hx C.hb dX8_within_2 (by decide) (fun c1 => ?_) (fun c1 => ?_)
    · refine lv_iconst (v := 0) C.hx C.hb dX8_within_14 (by decide) ?_
      exact J3 _ (by rw [if_pos c1])
    · refine lv_iload_n C.hx C.hb dX8_within_5 rfl (lv_at hl 0 rfl) ?_
      refine lv_iload_n C.hx C.hb dX8_within_6 rfl (lv_at hl 2 rfl) ?_
      refine lv_icmp_gt (tgt := 14) C.hx C.hb dX8_within_7 (by decide) (fun c2 => ?_) (fun c2 => ?_)
      · refine lv_iconst (v := 0) C.hx C.hb dX8_within_14 (by decide) ?_
        exact J3 _ (by rw [if_neg c1, if_pos c2])
      · refine lv_iconst (v := 1) C.hx C.hb dX8_within_10 (by decide) ?_
        refine lv_goto (tgt := 15) C.hx C.hb dX8_within_11 (by decide) ?_
        exact J3 _ (by rw [if_neg c1, if_neg c2])
  · exact rZ C hr dX8_within_15 (by subst hv4; unfold s_X8_within; try rfl) (nb01 (by subst hv4; (repeat' split) <;> simp))
def s_X8_isJudge (j : Int32) : Int32 := (if j < 0 then 0 else (if 20 ≤ j then 0 else 1 : Int32) : Int32)
set_option maxRecDepth 100000 in
set_option maxHeartbeats 4000000 in
theorem cM_isJudge (l : Launch) (G : GG) (j : Int32) : MR l G yX8_isJudge cX8_isJudge 1 (some .boolean) 0 [.int j] (fun _ => True) (some (.int (s_X8_isJudge j))) := by
  refine MR.of RX8 rfl (by decide) (Nat.le_of_ble_eq_true rfl) ?_
  intro p_ e_ s_ m_ args_ below_ meth_ c_ ls hargs C hr hnm hW hl
  have hl : lv_has ls 1 [(0, .int j)] := hl
  refine lv_iload_n C.hx C.hb dX8_isJudge_0 rfl (lv_at hl 0 rfl) ?_
  refine W.joinI (P := fun jv => jv = (if j < 0 then 0 else (if 20 ≤ j then 0 else 1 : Int32) : Int32)) 15 ls [] (fun J3 => ?_) (fun v4 hv4 => ?_)
  · refine lv_if_lt (tgt := 14) C.hx C.hb dX8_isJudge_1 (by decide) (fun c1 => ?_) (fun c1 => ?_)
    · refine lv_iconst (v := 0) C.hx C.hb dX8_isJudge_14 (by decide) ?_
      exact J3 _ (by rw [if_pos c1])
    · refine lv_iload_n C.hx C.hb dX8_isJudge_4 rfl (lv_at hl 0 rfl) ?_
      refine lv_bipush (v := 20) C.hx C.hb dX8_isJudge_5 (by decide) ?_
      refine lv_icmp_ge (tgt := 14) C.hx C.hb dX8_isJudge_7 (by decide) (fun c2 => ?_) (fun c2 => ?_)
      · refine lv_iconst (v := 0) C.hx C.hb dX8_isJudge_14 (by decide) ?_
        exact J3 _ (by rw [if_neg c1, if_pos c2])
      · refine lv_iconst (v := 1) C.hx C.hb dX8_isJudge_10 (by decide) ?_
        refine lv_goto (tgt := 15) C.hx C.hb dX8_isJudge_11 (by decide) ?_
        exact J3 _ (by rw [if_neg c1, if_neg c2])
  · exact rZ C hr dX8_isJudge_15 (by subst hv4; unfold s_X8_isJudge; try rfl) (nb01 (by subst hv4; (repeat' split) <;> simp))
def s_X8_isCase (x : Nat → Nat → Int32) (c : Int32) : Int32 := (if c < 0 then 0 else (if (x 27 0) ≤ c then 0 else 1 : Int32) : Int32)
set_option maxRecDepth 100000 in
set_option maxHeartbeats 4000000 in
theorem cM_isCase (l : Launch) (G : GG) (m0 : Nat) (x : Nat → Nat → Int32) (z : Nat → Int64) (hI : MI x) (c : Int32) : MR l G yX8_isCase cX8_isCase 2 (some .boolean) 0 [.ref m0, .int c] (MWd G m0 x z) (some (.int (s_X8_isCase x c))) := by
  refine MR.of RX8 rfl (by decide) (Nat.le_of_ble_eq_true rfl) ?_
  intro p_ e_ s_ m_ args_ below_ meth_ c_ ls hargs C hr hnm hW hl
  obtain ⟨⟨eP, bP⟩, ⟨eC, bC⟩, ⟨eG, bG⟩, ⟨eV, bV⟩, -, -⟩ := id hI
  have hl : lv_has ls 2 [(0, .ref m0), (1, .int c)] := hl
  refine lv_iload_n C.hx C.hb dX8_isCase_0 rfl (lv_at hl 1 rfl) ?_
  refine W.joinI (P := fun jv => jv = (if c < 0 then 0 else (if (x 27 0) ≤ c then 0 else 1 : Int32) : Int32)) 17 ls [] (fun J3 => ?_) (fun v4 hv4 => ?_)
  · refine lv_if_lt (tgt := 16) C.hx C.hb dX8_isCase_1 (by decide) (fun c1 => ?_) (fun c1 => ?_)
    · refine lv_iconst (v := 0) C.hx C.hb dX8_isCase_16 (by decide) ?_
      exact J3 _ (by rw [if_pos c1])
    · refine lv_iload_n C.hx C.hb dX8_isCase_4 rfl (lv_at hl 1 rfl) ?_
      refine lv_aload_n C.hx C.hb dX8_isCase_5 rfl (lv_at hl 0 rfl) ?_
      refine g_get (k := 27) (v := .int (x 27 0)) C hW.1 rfl wu_X8 (by decide) wf_X8_133 rfl rfl dX8_isCase_6 ?_
      refine lv_icmp_ge (tgt := 16) C.hx C.hb dX8_isCase_9 (by decide) (fun c2 => ?_) (fun c2 => ?_)
      · refine lv_iconst (v := 0) C.hx C.hb dX8_isCase_16 (by decide) ?_
        exact J3 _ (by rw [if_neg c1, if_pos c2])
      · refine lv_iconst (v := 1) C.hx C.hb dX8_isCase_12 (by decide) ?_
        refine lv_goto (tgt := 17) C.hx C.hb dX8_isCase_13 (by decide) ?_
        exact J3 _ (by rw [if_neg c1, if_neg c2])
  · exact rZ C hr dX8_isCase_17 (by subst hv4; unfold s_X8_isCase; try rfl) (nb01 (by subst hv4; (repeat' split) <;> simp))
theorem within_nz {v b : Int32} {n : Nat} (h : ¬ s_X8_within v 0 b = 0) (hb : b.toInt = n) : ∃ k : Nat, k ≤ n ∧ v = nI k := by
  unfold s_X8_within at h
  by_cases h1 : v < 0
  · rw [if_pos h1] at h; exact absurd rfl h
  · rw [if_neg h1] at h
    by_cases h2 : b < v
    · rw [if_pos h2] at h; exact absurd rfl h
    · exact nI_of2 hb h1 (Int32.not_lt.mp h2)
theorem isJudge_nz {j : Int32} (h : ¬ s_X8_isJudge j = 0) : ∃ k : Nat, k < 20 ∧ j = nI k := by
  unfold s_X8_isJudge at h
  by_cases h1 : j < 0
  · rw [if_pos h1] at h; exact absurd rfl h
  · rw [if_neg h1] at h
    by_cases h2 : 20 ≤ j
    · rw [if_pos h2] at h; exact absurd rfl h
    · obtain ⟨k, hk, rfl⟩ := nI_of h1
      exact ⟨k, Nat.lt_of_not_le (fun q => h2 (show nI 20 ≤ nI k from nI_le q hk)), rfl⟩
theorem isCase_nz {x : Nat → Nat → Int32} (hI : MI x) {c : Int32} (h : ¬ s_X8_isCase x c = 0) : ∃ k : Nat, k < nC x ∧ c = nI k := by
  unfold s_X8_isCase at h
  by_cases h1 : c < 0
  · rw [if_pos h1] at h; exact absurd rfl h
  · rw [if_neg h1] at h
    by_cases h2 : x 27 0 ≤ c
    · rw [if_pos h2] at h; exact absurd rfl h
    · obtain ⟨k, hk, rfl⟩ := nI_of h1
      rw [hI.2.1.1] at h2
      exact ⟨k, Nat.lt_of_not_le (fun q => h2 (nI_le q hk)), rfl⟩
def s_X8_tick (x : Nat → Nat → Int32) (n : Int32) : Int32 := (if (s_X8_within n 1 1000) = 0 then (-1) else (if ((x 0 0) + n) ≤ 1000000 then (x 0 0) + n else (-1)))
def sx_X8_tick (x : Nat → Nat → Int32) (n : Int32) : Nat → Nat → Int32 := (if (s_X8_within n 1 1000) = 0 then x else (if ((x 0 0) + n) ≤ 1000000 then (up2 x 0 0 ((x 0 0) + n)) else x))
set_option maxRecDepth 100000 in
set_option maxHeartbeats 4000000 in
theorem cM_tick (l : Launch) (G : GG) (m0 : Nat) (x : Nat → Nat → Int32) (z : Nat → Int64) (n : Int32) : MW l G yX8_tick cX8_tick 2 (some .int) 1 [.ref m0, .int n] (MWd G m0 x z) (some (.int (s_X8_tick x n))) (MWd G m0 (sx_X8_tick x n) z) (MA m0) 0 0 := by
  refine MW.of RX8 rfl (by decide) (Nat.le_of_ble_eq_true rfl) ?_
  intro p_ e_ s_ m_ args_ below_ meth_ c_ ls hargs C hr hnm hW hS hl
  have hl : lv_has ls 2 [(0, .ref m0), (1, .int n)] := hl
  refine lv_iload_n C.hx C.hb dX8_tick_0 rfl (lv_at hl 1 rfl) ?_
  refine lv_iconst (v := 1) C.hx C.hb dX8_tick_1 (by decide) ?_
  refine lv_sipush (v := 1000) C.hx C.hb dX8_tick_2 (by decide) ?_
  refine kSR (As := [.int n, .int 1, .int 1000]) (rest := []) (v := .int (s_X8_within n 1 1000)) C (cM_within l G n 1 1000) lk_X8_136 trivial rfl rfl hl (Nat.le_of_ble_eq_true rfl) dX8_tick_5 ⟨⟨by decide, by decide⟩, by decide, by decide⟩ ?_
  refine lv_if_eq (tgt := 22) C.hx C.hb dX8_tick_8 (by decide) (fun c1 => ?_) (fun c1 => ?_)
  · refine lv_iconst (v := (-1)) C.hx C.hb dX8_tick_22 (by decide) ?_
    exact wI C hr dX8_tick_23 hS (by unfold s_X8_tick; rw [if_pos c1]) (by unfold sx_X8_tick; rw [if_pos c1]; exact hW)
  · refine lv_aload_n C.hx C.hb dX8_tick_11 rfl (lv_at hl 0 rfl) ?_
    refine g_get (k := 0) (v := .int (x 0 0)) C hW.1 rfl wu_X8 (by decide) wf_X8_140 rfl rfl dX8_tick_12 ?_
    refine lv_iload_n C.hx C.hb dX8_tick_15 rfl (lv_at hl 1 rfl) ?_
    refine lv_iadd C.hx C.hb dX8_tick_16 ?_
    refine lv_ldc (v := 1000000) C.hx C.hb C.hown (C.hT _ wk_X8_143) dX8_tick_17 ?_
    refine lv_icmp_le (tgt := 24) C.hx C.hb dX8_tick_19 (by decide) (fun c2 => ?_) (fun c2 => ?_)
    · refine lv_aload_n C.hx C.hb dX8_tick_24 rfl (lv_at hl 0 rfl) ?_
      refine lv_dup C.hx C.hb dX8_tick_25 rfl ?_
      refine g_get (k := 0) (v := .int (x 0 0)) C hW.1 rfl wu_X8 (by decide) wf_X8_140 rfl rfl dX8_tick_26 ?_
      refine lv_iload_n C.hx C.hb dX8_tick_29 rfl (lv_at hl 1 rfl) ?_
      refine lv_iadd C.hx C.hb dX8_tick_30 ?_
      refine g_put (k := 0) tyX8 C hS hW.1 MA_0 rfl wu_X8 tyX8_ok nmX8 (by decide) wf_X8_140 rfl rfl rfl rfl rfl (Nat.le_of_ble_eq_true rfl) dX8_tick_31 (fun H locs e1 o1 z1 hS => ?_)
      have hW : MWd G m0 (up2 x 0 0 ((x 0 0) + n)) z H := MWd.putS 0 hW e1 o1 mset_0 rfl (by decide)
      refine lv_aload_n C.hx C.hb dX8_tick_34 rfl (lv_at hl 0 rfl) ?_
      refine g_get (k := 0) (v := .int ((x 0 0) + n)) C hW.1 rfl wu_X8 (by decide) wf_X8_140 rfl rfl dX8_tick_35 ?_
      exact wI C hr dX8_tick_38 hS (by unfold s_X8_tick; rw [if_neg c1, if_pos c2]) (by unfold sx_X8_tick; rw [if_neg c1, if_pos c2]; exact hW)
    · refine lv_iconst (v := (-1)) C.hx C.hb dX8_tick_22 (by decide) ?_
      exact wI C hr dX8_tick_23 hS (by unfold s_X8_tick; rw [if_neg c1, if_neg c2]) (by unfold sx_X8_tick; rw [if_neg c1, if_neg c2]; exact hW)
def s_X8_rule (r : Int32) (g : Int32) (h : Int32) (f : Int32) : Int32 := (if (s_X8_within r 0 7) = 0 then (-1) else (if (s_X8_within g 0 2) = 0 then (-1) else (if (s_X8_within h 1 100) = 0 then (-1) else (if (s_X8_within f 0 2) = 0 then (-1) else 1))))
def sx_X8_rule (x : Nat → Nat → Int32) (r : Int32) (g : Int32) (h : Int32) (f : Int32) : Nat → Nat → Int32 := (if (s_X8_within r 0 7) = 0 then x else (if (s_X8_within g 0 2) = 0 then x else (if (s_X8_within h 1 100) = 0 then x else (if (s_X8_within f 0 2) = 0 then x else (up2 (up2 (up2 x 1 (tn r) g) 2 (tn r) h) 3 (tn r) f)))))
set_option maxRecDepth 100000 in
set_option maxHeartbeats 4000000 in
theorem cM_rule (l : Launch) (G : GG) (m0 : Nat) (x : Nat → Nat → Int32) (z : Nat → Int64) (r : Int32) (g : Int32) (h : Int32) (f : Int32) : MW l G yX8_rule cX8_rule 5 (some .int) 1 [.ref m0, .int r, .int g, .int h, .int f] (MWd G m0 x z) (some (.int (s_X8_rule r g h f))) (MWd G m0 (sx_X8_rule x r g h f) z) (MA m0) 0 0 := by
  refine MW.of RX8 rfl (by decide) (Nat.le_of_ble_eq_true rfl) ?_
  intro p_ e_ s_ m_ args_ below_ meth_ c_ ls hargs C hr hnm hW hS hl
  have hl : lv_has ls 5 [(0, .ref m0), (1, .int r), (2, .int g), (3, .int h), (4, .int f)] := hl
  refine lv_iload_n C.hx C.hb dX8_rule_0 rfl (lv_at hl 1 rfl) ?_
  refine lv_iconst (v := 0) C.hx C.hb dX8_rule_1 (by decide) ?_
  refine lv_bipush (v := 7) C.hx C.hb dX8_rule_2 (by decide) ?_
  refine kSR (As := [.int r, .int 0, .int 7]) (rest := []) (v := .int (s_X8_within r 0 7)) C (cM_within l G r 0 7) lk_X8_136 trivial rfl rfl hl (Nat.le_of_ble_eq_true rfl) dX8_rule_4 ⟨⟨by decide, by decide⟩, by decide, by decide⟩ ?_
  refine lv_if_eq (tgt := 39) C.hx C.hb dX8_rule_7 (by decide) (fun c1 => ?_) (fun c1 => ?_)
  · refine lv_iconst (v := (-1)) C.hx C.hb dX8_rule_39 (by decide) ?_
    exact wI C hr dX8_rule_40 hS (by unfold s_X8_rule; rw [if_pos c1]) (by unfold sx_X8_rule; rw [if_pos c1]; exact hW)
  · obtain ⟨rN, hrN, rfl⟩ := within_nz (n := 7) c1 (by decide)
    have trN : tn (nI rN) = rN := nI_clamp (by omega)
    refine lv_iload_n C.hx C.hb dX8_rule_10 rfl (lv_at hl 2 rfl) ?_
    refine lv_iconst (v := 0) C.hx C.hb dX8_rule_11 (by decide) ?_
    refine lv_iconst (v := 2) C.hx C.hb dX8_rule_12 (by decide) ?_
    refine kSR (As := [.int g, .int 0, .int 2]) (rest := []) (v := .int (s_X8_within g 0 2)) C (cM_within l G g 0 2) lk_X8_136 trivial rfl rfl hl (Nat.le_of_ble_eq_true rfl) dX8_rule_13 ⟨⟨by decide, by decide⟩, by decide, by decide⟩ ?_
    refine lv_if_eq (tgt := 39) C.hx C.hb dX8_rule_16 (by decide) (fun c2 => ?_) (fun c2 => ?_)
    · refine lv_iconst (v := (-1)) C.hx C.hb dX8_rule_39 (by decide) ?_
      exact wI C hr dX8_rule_40 hS (by unfold s_X8_rule; (try simp only [trN]); rw [if_neg c1, if_pos c2]) (by unfold sx_X8_rule; (try simp only [trN]); rw [if_neg c1, if_pos c2]; exact hW)
    · refine lv_iload_n C.hx C.hb dX8_rule_19 rfl (lv_at hl 3 rfl) ?_
      refine lv_iconst (v := 1) C.hx C.hb dX8_rule_20 (by decide) ?_
      refine lv_bipush (v := 100) C.hx C.hb dX8_rule_21 (by decide) ?_
      refine kSR (As := [.int h, .int 1, .int 100]) (rest := []) (v := .int (s_X8_within h 1 100)) C (cM_within l G h 1 100) lk_X8_136 trivial rfl rfl hl (Nat.le_of_ble_eq_true rfl) dX8_rule_23 ⟨⟨by decide, by decide⟩, by decide, by decide⟩ ?_
      refine lv_if_eq (tgt := 39) C.hx C.hb dX8_rule_26 (by decide) (fun c3 => ?_) (fun c3 => ?_)
      · refine lv_iconst (v := (-1)) C.hx C.hb dX8_rule_39 (by decide) ?_
        exact wI C hr dX8_rule_40 hS (by unfold s_X8_rule; (try simp only [trN]); rw [if_neg c1, if_neg c2, if_pos c3]) (by unfold sx_X8_rule; (try simp only [trN]); rw [if_neg c1, if_neg c2, if_pos c3]; exact hW)
      · refine lv_iload C.hx C.hb dX8_rule_29 (lv_at hl 4 rfl) ?_
        refine lv_iconst (v := 0) C.hx C.hb dX8_rule_31 (by decide) ?_
        refine lv_iconst (v := 2) C.hx C.hb dX8_rule_32 (by decide) ?_
        refine kSR (As := [.int f, .int 0, .int 2]) (rest := []) (v := .int (s_X8_within f 0 2)) C (cM_within l G f 0 2) lk_X8_136 trivial rfl rfl hl (Nat.le_of_ble_eq_true rfl) dX8_rule_33 ⟨⟨by decide, by decide⟩, by decide, by decide⟩ ?_
        refine lv_if_ne (tgt := 41) C.hx C.hb dX8_rule_36 (by decide) (fun c4 => ?_) (fun c4 => ?_)
        · refine lv_aload_n C.hx C.hb dX8_rule_41 rfl (lv_at hl 0 rfl) ?_
          refine g_get (k := 1) (v := .ref (am m0 1)) C hW.1 rfl wu_X8 (by decide) wf_X8_9 rfl rfl dX8_rule_42 ?_
          refine lv_iload_n C.hx C.hb dX8_rule_45 rfl (lv_at hl 1 rfl) ?_
          refine lv_iload_n C.hx C.hb dX8_rule_46 rfl (lv_at hl 2 rfl) ?_
          refine g_iast (f := x 1) (k := rN) C hS (hW.2.1 1 rfl) (am_A (Or.inl rfl)) rfl (show rN < 8 by omega) (by decide) dX8_rule_47 (fun H locs e1 o1 z1 hS => ?_)
          have hW : MWd G m0 (up2 x 1 rN g) z H := MWd.putA 1 hW rfl e1 o1 (mfs_up rfl) (by decide) (by decide)
          refine lv_aload_n C.hx C.hb dX8_rule_48 rfl (lv_at hl 0 rfl) ?_
          refine g_get (k := 2) (v := .ref (am m0 2)) C hW.1 rfl wu_X8 (by decide) wf_X8_13 rfl rfl dX8_rule_49 ?_
          refine lv_iload_n C.hx C.hb dX8_rule_52 rfl (lv_at hl 1 rfl) ?_
          refine lv_iload_n C.hx C.hb dX8_rule_53 rfl (lv_at hl 3 rfl) ?_
          refine g_iast (f := x 2) (k := rN) C hS (hW.2.1 2 rfl) (am_A (Or.inl rfl)) rfl (show rN < 8 by omega) (by decide) dX8_rule_54 (fun H locs e1 o1 z1 hS => ?_)
          have hW : MWd G m0 (up2 (up2 x 1 rN g) 2 rN h) z H := MWd.putA 2 hW rfl e1 o1 (mfs_up rfl) (by decide) (by decide)
          refine lv_aload_n C.hx C.hb dX8_rule_55 rfl (lv_at hl 0 rfl) ?_
          refine g_get (k := 3) (v := .ref (am m0 3)) C hW.1 rfl wu_X8 (by decide) wf_X8_16 rfl rfl dX8_rule_56 ?_
          refine lv_iload_n C.hx C.hb dX8_rule_59 rfl (lv_at hl 1 rfl) ?_
          refine lv_iload C.hx C.hb dX8_rule_60 (lv_at hl 4 rfl) ?_
          refine g_iast (f := x 3) (k := rN) C hS (hW.2.1 3 rfl) (am_A (Or.inl rfl)) rfl (show rN < 8 by omega) (by decide) dX8_rule_62 (fun H locs e1 o1 z1 hS => ?_)
          have hW : MWd G m0 (up2 (up2 (up2 x 1 rN g) 2 rN h) 3 rN f) z H := MWd.putA 3 hW rfl e1 o1 (mfs_up rfl) (by decide) (by decide)
          refine lv_iconst (v := 1) C.hx C.hb dX8_rule_63 (by decide) ?_
          exact wI C hr dX8_rule_64 hS (by unfold s_X8_rule; (try simp only [trN]); rw [if_neg c1, if_neg c2, if_neg c3, if_neg c4]) (by unfold sx_X8_rule; (try simp only [trN]); rw [if_neg c1, if_neg c2, if_neg c3, if_neg c4]; exact hW)
        · refine lv_iconst (v := (-1)) C.hx C.hb dX8_rule_39 (by decide) ?_
          exact wI C hr dX8_rule_40 hS (by unfold s_X8_rule; (try simp only [trN]); rw [if_neg c1, if_neg c2, if_neg c3, if_pos c4]) (by unfold sx_X8_rule; (try simp only [trN]); rw [if_neg c1, if_neg c2, if_neg c3, if_pos c4]; exact hW)
def s_X8_ladder (f : Int32) (q : Int32) : Int32 := (if (s_X8_within f 1 10000) = 0 then (-1) else (if (s_X8_within q 1 10000) = 0 then (-1) else 1))
def sx_X8_ladder (x : Nat → Nat → Int32) (f : Int32) (q : Int32) : Nat → Nat → Int32 := (if (s_X8_within f 1 10000) = 0 then x else (if (s_X8_within q 1 10000) = 0 then x else (up2 (up2 x 5 0 f) 6 0 q)))
set_option maxRecDepth 100000 in
set_option maxHeartbeats 4000000 in
theorem cM_ladder (l : Launch) (G : GG) (m0 : Nat) (x : Nat → Nat → Int32) (z : Nat → Int64) (f : Int32) (q : Int32) : MW l G yX8_ladder cX8_ladder 3 (some .int) 1 [.ref m0, .int f, .int q] (MWd G m0 x z) (some (.int (s_X8_ladder f q))) (MWd G m0 (sx_X8_ladder x f q) z) (MA m0) 0 0 := by
  refine MW.of RX8 rfl (by decide) (Nat.le_of_ble_eq_true rfl) ?_
  intro p_ e_ s_ m_ args_ below_ meth_ c_ ls hargs C hr hnm hW hS hl
  have hl : lv_has ls 3 [(0, .ref m0), (1, .int f), (2, .int q)] := hl
  refine lv_iload_n C.hx C.hb dX8_ladder_0 rfl (lv_at hl 1 rfl) ?_
  refine lv_iconst (v := 1) C.hx C.hb dX8_ladder_1 (by decide) ?_
  refine lv_sipush (v := 10000) C.hx C.hb dX8_ladder_2 (by decide) ?_
  refine kSR (As := [.int f, .int 1, .int 10000]) (rest := []) (v := .int (s_X8_within f 1 10000)) C (cM_within l G f 1 10000) lk_X8_136 trivial rfl rfl hl (Nat.le_of_ble_eq_true rfl) dX8_ladder_5 ⟨⟨by decide, by decide⟩, by decide, by decide⟩ ?_
  refine lv_if_eq (tgt := 22) C.hx C.hb dX8_ladder_8 (by decide) (fun c1 => ?_) (fun c1 => ?_)
  · refine lv_iconst (v := (-1)) C.hx C.hb dX8_ladder_22 (by decide) ?_
    exact wI C hr dX8_ladder_23 hS (by unfold s_X8_ladder; rw [if_pos c1]) (by unfold sx_X8_ladder; rw [if_pos c1]; exact hW)
  · refine lv_iload_n C.hx C.hb dX8_ladder_11 rfl (lv_at hl 2 rfl) ?_
    refine lv_iconst (v := 1) C.hx C.hb dX8_ladder_12 (by decide) ?_
    refine lv_sipush (v := 10000) C.hx C.hb dX8_ladder_13 (by decide) ?_
    refine kSR (As := [.int q, .int 1, .int 10000]) (rest := []) (v := .int (s_X8_within q 1 10000)) C (cM_within l G q 1 10000) lk_X8_136 trivial rfl rfl hl (Nat.le_of_ble_eq_true rfl) dX8_ladder_16 ⟨⟨by decide, by decide⟩, by decide, by decide⟩ ?_
    refine lv_if_ne (tgt := 24) C.hx C.hb dX8_ladder_19 (by decide) (fun c2 => ?_) (fun c2 => ?_)
    · refine lv_aload_n C.hx C.hb dX8_ladder_24 rfl (lv_at hl 0 rfl) ?_
      refine lv_iload_n C.hx C.hb dX8_ladder_25 rfl (lv_at hl 1 rfl) ?_
      refine g_put (k := 5) tyX8 C hS hW.1 MA_0 rfl wu_X8 tyX8_ok nmX8 (by decide) wf_X8_22 rfl rfl rfl rfl rfl (Nat.le_of_ble_eq_true rfl) dX8_ladder_26 (fun H locs e1 o1 z1 hS => ?_)
      have hW : MWd G m0 (up2 x 5 0 f) z H := MWd.putS 5 hW e1 o1 mset_5 rfl (by decide)
      refine lv_aload_n C.hx C.hb dX8_ladder_29 rfl (lv_at hl 0 rfl) ?_
      refine lv_iload_n C.hx C.hb dX8_ladder_30 rfl (lv_at hl 2 rfl) ?_
      refine g_put (k := 6) tyX8 C hS hW.1 MA_0 rfl wu_X8 tyX8_ok nmX8 (by decide) wf_X8_26 rfl rfl rfl rfl rfl (Nat.le_of_ble_eq_true rfl) dX8_ladder_31 (fun H locs e1 o1 z1 hS => ?_)
      have hW : MWd G m0 (up2 (up2 x 5 0 f) 6 0 q) z H := MWd.putS 6 hW e1 o1 mset_6 rfl (by decide)
      refine lv_iconst (v := 1) C.hx C.hb dX8_ladder_34 (by decide) ?_
      exact wI C hr dX8_ladder_35 hS (by unfold s_X8_ladder; rw [if_neg c1, if_neg c2]) (by unfold sx_X8_ladder; rw [if_neg c1, if_neg c2]; exact hW)
    · refine lv_iconst (v := (-1)) C.hx C.hb dX8_ladder_22 (by decide) ?_
      exact wI C hr dX8_ladder_23 hS (by unfold s_X8_ladder; rw [if_neg c1, if_pos c2]) (by unfold sx_X8_ladder; rw [if_neg c1, if_pos c2]; exact hW)
def s_X8_due (x : Nat → Nat → Int32) (g : Int32) (ticks : Int32) : Int32 := (if (s_X8_within g 0 2) = 0 then (-1) else (if (s_X8_within ticks 1 1000) = 0 then (-1) else x 4 (tn g)))
def sx_X8_due (x : Nat → Nat → Int32) (g : Int32) (ticks : Int32) : Nat → Nat → Int32 := (if (s_X8_within g 0 2) = 0 then x else (if (s_X8_within ticks 1 1000) = 0 then x else (up2 x 4 (tn g) ticks)))
set_option maxRecDepth 100000 in
set_option maxHeartbeats 4000000 in
theorem cM_due (l : Launch) (G : GG) (m0 : Nat) (x : Nat → Nat → Int32) (z : Nat → Int64) (g : Int32) (ticks : Int32) : MW l G yX8_due cX8_due 4 (some .int) 1 [.ref m0, .int g, .int ticks] (MWd G m0 x z) (some (.int (s_X8_due x g ticks))) (MWd G m0 (sx_X8_due x g ticks) z) (MA m0) 0 0 := by
  refine MW.of RX8 rfl (by decide) (Nat.le_of_ble_eq_true rfl) ?_
  intro p_ e_ s_ m_ args_ below_ meth_ c_ ls hargs C hr hnm hW hS hl
  have hl : lv_has ls 4 [(0, .ref m0), (1, .int g), (2, .int ticks)] := hl
  refine lv_iload_n C.hx C.hb dX8_due_0 rfl (lv_at hl 1 rfl) ?_
  refine lv_iconst (v := 0) C.hx C.hb dX8_due_1 (by decide) ?_
  refine lv_iconst (v := 2) C.hx C.hb dX8_due_2 (by decide) ?_
  refine kSR (As := [.int g, .int 0, .int 2]) (rest := []) (v := .int (s_X8_within g 0 2)) C (cM_within l G g 0 2) lk_X8_136 trivial rfl rfl hl (Nat.le_of_ble_eq_true rfl) dX8_due_3 ⟨⟨by decide, by decide⟩, by decide, by decide⟩ ?_
  refine lv_if_eq (tgt := 20) C.hx C.hb dX8_due_6 (by decide) (fun c1 => ?_) (fun c1 => ?_)
  · refine lv_iconst (v := (-1)) C.hx C.hb dX8_due_20 (by decide) ?_
    exact wI C hr dX8_due_21 hS (by unfold s_X8_due; rw [if_pos c1]) (by unfold sx_X8_due; rw [if_pos c1]; exact hW)
  · obtain ⟨gN, hgN, rfl⟩ := within_nz (n := 2) c1 (by decide)
    have tgN : tn (nI gN) = gN := nI_clamp (by omega)
    refine lv_iload_n C.hx C.hb dX8_due_9 rfl (lv_at hl 2 rfl) ?_
    refine lv_iconst (v := 1) C.hx C.hb dX8_due_10 (by decide) ?_
    refine lv_sipush (v := 1000) C.hx C.hb dX8_due_11 (by decide) ?_
    refine kSR (As := [.int ticks, .int 1, .int 1000]) (rest := []) (v := .int (s_X8_within ticks 1 1000)) C (cM_within l G ticks 1 1000) lk_X8_136 trivial rfl rfl hl (Nat.le_of_ble_eq_true rfl) dX8_due_14 ⟨⟨by decide, by decide⟩, by decide, by decide⟩ ?_
    refine lv_if_ne (tgt := 22) C.hx C.hb dX8_due_17 (by decide) (fun c2 => ?_) (fun c2 => ?_)
    · refine lv_aload_n C.hx C.hb dX8_due_22 rfl (lv_at hl 0 rfl) ?_
      refine g_get (k := 4) (v := .ref (am m0 4)) C hW.1 rfl wu_X8 (by decide) wf_X8_19 rfl rfl dX8_due_23 ?_
      refine lv_iload_n C.hx C.hb dX8_due_26 rfl (lv_at hl 1 rfl) ?_
      refine g_iald (f := x 4) (k := gN) C (hW.2.1 4 rfl) rfl (show gN < 3 by omega) (by decide) dX8_due_27 ?_
      refine lv_istore_n (lv' := [(3, .int (x 4 gN)), (0, .ref m0), (1, .int (nI gN)), (2, .int ticks)]) C.hx C.hb dX8_due_28 rfl hl (by decide) rfl (fun ls hl => ?_)
      refine lv_aload_n C.hx C.hb dX8_due_29 rfl (lv_at hl 1 rfl) ?_
      refine g_get (k := 4) (v := .ref (am m0 4)) C hW.1 rfl wu_X8 (by decide) wf_X8_19 rfl rfl dX8_due_30 ?_
      refine lv_iload_n C.hx C.hb dX8_due_33 rfl (lv_at hl 2 rfl) ?_
      refine lv_iload_n C.hx C.hb dX8_due_34 rfl (lv_at hl 3 rfl) ?_
      refine g_iast (f := x 4) (k := gN) C hS (hW.2.1 4 rfl) (am_A (Or.inl rfl)) rfl (show gN < 3 by omega) (by decide) dX8_due_35 (fun H locs e1 o1 z1 hS => ?_)
      have hW : MWd G m0 (up2 x 4 gN ticks) z H := MWd.putA 4 hW rfl e1 o1 (mfs_up rfl) (by decide) (by decide)
      refine lv_iload_n C.hx C.hb dX8_due_36 rfl (lv_at hl 0 rfl) ?_
      exact wI C hr dX8_due_37 hS (by unfold s_X8_due; (try simp only [tgN]); rw [if_neg c1, if_neg c2]) (by unfold sx_X8_due; (try simp only [tgN]); rw [if_neg c1, if_neg c2]; exact hW)
    · refine lv_iconst (v := (-1)) C.hx C.hb dX8_due_20 (by decide) ?_
      exact wI C hr dX8_due_21 hS (by unfold s_X8_due; (try simp only [tgN]); rw [if_neg c1, if_pos c2]) (by unfold sx_X8_due; (try simp only [tgN]); rw [if_neg c1, if_pos c2]; exact hW)
def s_X8_limit (x : Nat → Nat → Int32) (percent : Int32) : Int32 := (if (s_X8_within percent 0 100) = 0 then (-1) else x 7 0)
def sx_X8_limit (x : Nat → Nat → Int32) (percent : Int32) : Nat → Nat → Int32 := (if (s_X8_within percent 0 100) = 0 then x else (up2 x 7 0 percent))
set_option maxRecDepth 100000 in
set_option maxHeartbeats 4000000 in
theorem cM_limit (l : Launch) (G : GG) (m0 : Nat) (x : Nat → Nat → Int32) (z : Nat → Int64) (percent : Int32) : MW l G yX8_limit cX8_limit 3 (some .int) 1 [.ref m0, .int percent] (MWd G m0 x z) (some (.int (s_X8_limit x percent))) (MWd G m0 (sx_X8_limit x percent) z) (MA m0) 0 0 := by
  refine MW.of RX8 rfl (by decide) (Nat.le_of_ble_eq_true rfl) ?_
  intro p_ e_ s_ m_ args_ below_ meth_ c_ ls hargs C hr hnm hW hS hl
  have hl : lv_has ls 3 [(0, .ref m0), (1, .int percent)] := hl
  refine lv_iload_n C.hx C.hb dX8_limit_0 rfl (lv_at hl 1 rfl) ?_
  refine lv_iconst (v := 0) C.hx C.hb dX8_limit_1 (by decide) ?_
  refine lv_bipush (v := 100) C.hx C.hb dX8_limit_2 (by decide) ?_
  refine kSR (As := [.int percent, .int 0, .int 100]) (rest := []) (v := .int (s_X8_within percent 0 100)) C (cM_within l G percent 0 100) lk_X8_136 trivial rfl rfl hl (Nat.le_of_ble_eq_true rfl) dX8_limit_4 ⟨⟨by decide, by decide⟩, by decide, by decide⟩ ?_
  refine lv_if_ne (tgt := 12) C.hx C.hb dX8_limit_7 (by decide) (fun c1 => ?_) (fun c1 => ?_)
  · refine lv_aload_n C.hx C.hb dX8_limit_12 rfl (lv_at hl 0 rfl) ?_
    refine g_get (k := 7) (v := .int (x 7 0)) C hW.1 rfl wu_X8 (by decide) wf_X8_29 rfl rfl dX8_limit_13 ?_
    refine lv_istore_n (lv' := [(2, .int (x 7 0)), (0, .ref m0), (1, .int percent)]) C.hx C.hb dX8_limit_16 rfl hl (by decide) rfl (fun ls hl => ?_)
    refine lv_aload_n C.hx C.hb dX8_limit_17 rfl (lv_at hl 1 rfl) ?_
    refine lv_iload_n C.hx C.hb dX8_limit_18 rfl (lv_at hl 2 rfl) ?_
    refine g_put (k := 7) tyX8 C hS hW.1 MA_0 rfl wu_X8 tyX8_ok nmX8 (by decide) wf_X8_29 rfl rfl rfl rfl rfl (Nat.le_of_ble_eq_true rfl) dX8_limit_19 (fun H locs e1 o1 z1 hS => ?_)
    have hW : MWd G m0 (up2 x 7 0 percent) z H := MWd.putS 7 hW e1 o1 mset_7 rfl (by decide)
    refine lv_iload_n C.hx C.hb dX8_limit_22 rfl (lv_at hl 0 rfl) ?_
    exact wI C hr dX8_limit_23 hS (by unfold s_X8_limit; rw [if_neg c1]) (by unfold sx_X8_limit; rw [if_neg c1]; exact hW)
  · refine lv_iconst (v := (-1)) C.hx C.hb dX8_limit_10 (by decide) ?_
    exact wI C hr dX8_limit_11 hS (by unfold s_X8_limit; rw [if_pos c1]) (by unfold sx_X8_limit; rw [if_pos c1]; exact hW)
def s_X8_post (x : Nat → Nat → Int32) (w : Int32) (r : Int32) (mk : Int32) : Int32 := (if (s_X8_within w 0 39) = 0 then (-1) else (if (s_X8_within r 1 1000) = 0 then (-1) else (if (s_X8_within mk 0 255) = 0 then (-1) else (if (x 12 0) = 300 then (-2) else ((x 12 0) + 1) - 1))))
def sx_X8_post (x : Nat → Nat → Int32) (w : Int32) (r : Int32) (mk : Int32) : Nat → Nat → Int32 := (if (s_X8_within w 0 39) = 0 then x else (if (s_X8_within r 1 1000) = 0 then x else (if (s_X8_within mk 0 255) = 0 then x else (if (x 12 0) = 300 then x else (up2 (up2 (up2 (up2 (up2 x 8 (nP x) w) 9 (nP x) (x 0 0)) 10 (nP x) r) 11 (nP x) mk) 12 0 ((x 12 0) + 1))))))
set_option maxRecDepth 100000 in
set_option maxHeartbeats 4000000 in
theorem cM_post (l : Launch) (G : GG) (m0 : Nat) (x : Nat → Nat → Int32) (z : Nat → Int64) (hI : MI x) (w : Int32) (r : Int32) (mk : Int32) : MW l G yX8_post cX8_post 4 (some .int) 1 [.ref m0, .int w, .int r, .int mk] (MWd G m0 x z) (some (.int (s_X8_post x w r mk))) (MWd G m0 (sx_X8_post x w r mk) z) (MA m0) 0 0 := by
  refine MW.of RX8 rfl (by decide) (Nat.le_of_ble_eq_true rfl) ?_
  intro p_ e_ s_ m_ args_ below_ meth_ c_ ls hargs C hr hnm hW hS hl
  obtain ⟨⟨eP, bP⟩, ⟨eC, bC⟩, ⟨eG, bG⟩, ⟨eV, bV⟩, -, -⟩ := id hI
  have hl : lv_has ls 4 [(0, .ref m0), (1, .int w), (2, .int r), (3, .int mk)] := hl
  refine lv_iload_n C.hx C.hb dX8_post_0 rfl (lv_at hl 1 rfl) ?_
  refine lv_iconst (v := 0) C.hx C.hb dX8_post_1 (by decide) ?_
  refine lv_bipush (v := 39) C.hx C.hb dX8_post_2 (by decide) ?_
  refine kSR (As := [.int w, .int 0, .int 39]) (rest := []) (v := .int (s_X8_within w 0 39)) C (cM_within l G w 0 39) lk_X8_136 trivial rfl rfl hl (Nat.le_of_ble_eq_true rfl) dX8_post_4 ⟨⟨by decide, by decide⟩, by decide, by decide⟩ ?_
  refine lv_if_eq (tgt := 32) C.hx C.hb dX8_post_7 (by decide) (fun c1 => ?_) (fun c1 => ?_)
  · refine lv_iconst (v := (-1)) C.hx C.hb dX8_post_32 (by decide) ?_
    exact wI C hr dX8_post_33 hS (by unfold s_X8_post; rw [if_pos c1]) (by unfold sx_X8_post; rw [if_pos c1]; exact hW)
  · refine lv_iload_n C.hx C.hb dX8_post_10 rfl (lv_at hl 2 rfl) ?_
    refine lv_iconst (v := 1) C.hx C.hb dX8_post_11 (by decide) ?_
    refine lv_sipush (v := 1000) C.hx C.hb dX8_post_12 (by decide) ?_
    refine kSR (As := [.int r, .int 1, .int 1000]) (rest := []) (v := .int (s_X8_within r 1 1000)) C (cM_within l G r 1 1000) lk_X8_136 trivial rfl rfl hl (Nat.le_of_ble_eq_true rfl) dX8_post_15 ⟨⟨by decide, by decide⟩, by decide, by decide⟩ ?_
    refine lv_if_eq (tgt := 32) C.hx C.hb dX8_post_18 (by decide) (fun c2 => ?_) (fun c2 => ?_)
    · refine lv_iconst (v := (-1)) C.hx C.hb dX8_post_32 (by decide) ?_
      exact wI C hr dX8_post_33 hS (by unfold s_X8_post; rw [if_neg c1, if_pos c2]) (by unfold sx_X8_post; rw [if_neg c1, if_pos c2]; exact hW)
    · refine lv_iload_n C.hx C.hb dX8_post_21 rfl (lv_at hl 3 rfl) ?_
      refine lv_iconst (v := 0) C.hx C.hb dX8_post_22 (by decide) ?_
      refine lv_sipush (v := 255) C.hx C.hb dX8_post_23 (by decide) ?_
      refine kSR (As := [.int mk, .int 0, .int 255]) (rest := []) (v := .int (s_X8_within mk 0 255)) C (cM_within l G mk 0 255) lk_X8_136 trivial rfl rfl hl (Nat.le_of_ble_eq_true rfl) dX8_post_26 ⟨⟨by decide, by decide⟩, by decide, by decide⟩ ?_
      refine lv_if_ne (tgt := 34) C.hx C.hb dX8_post_29 (by decide) (fun c3 => ?_) (fun c3 => ?_)
      · refine lv_aload_n C.hx C.hb dX8_post_34 rfl (lv_at hl 0 rfl) ?_
        refine g_get (k := 12) (v := .int (x 12 0)) C hW.1 rfl wu_X8 (by decide) wf_X8_144 rfl rfl dX8_post_35 ?_
        refine lv_sipush (v := 300) C.hx C.hb dX8_post_38 (by decide) ?_
        refine lv_icmp_ne (tgt := 47) C.hx C.hb dX8_post_41 (by decide) (fun c4 => ?_) (fun c4 => ?_)
        · have gc4 : nP x < 300 := ne_lt (M := 300) eP c4 (by omega)
          refine lv_aload_n C.hx C.hb dX8_post_47 rfl (lv_at hl 0 rfl) ?_
          refine g_get (k := 8) (v := .ref (am m0 8)) C hW.1 rfl wu_X8 (by decide) wf_X8_32 rfl rfl dX8_post_48 ?_
          refine lv_aload_n C.hx C.hb dX8_post_51 rfl (lv_at hl 0 rfl) ?_
          refine g_get (k := 12) (v := .int (x 12 0)) C hW.1 rfl wu_X8 (by decide) wf_X8_144 rfl rfl dX8_post_52 ?_
          refine lv_iload_n C.hx C.hb dX8_post_55 rfl (lv_at hl 1 rfl) ?_
          refine g_iast (f := x 8) (k := (nP x)) C hS (hW.2.1 8 rfl) (am_A (Or.inl rfl)) eP (show nP x < 300 by omega) (by decide) dX8_post_56 (fun H locs e1 o1 z1 hS => ?_)
          have hW : MWd G m0 (up2 x 8 (nP x) w) z H := MWd.putA 8 hW rfl e1 o1 (mfs_up rfl) (by decide) (by decide)
          refine lv_aload_n C.hx C.hb dX8_post_57 rfl (lv_at hl 0 rfl) ?_
          refine g_get (k := 9) (v := .ref (am m0 9)) C hW.1 rfl wu_X8 (by decide) wf_X8_35 rfl rfl dX8_post_58 ?_
          refine lv_aload_n C.hx C.hb dX8_post_61 rfl (lv_at hl 0 rfl) ?_
          refine g_get (k := 12) (v := .int (x 12 0)) C hW.1 rfl wu_X8 (by decide) wf_X8_144 rfl rfl dX8_post_62 ?_
          refine lv_aload_n C.hx C.hb dX8_post_65 rfl (lv_at hl 0 rfl) ?_
          refine g_get (k := 0) (v := .int (x 0 0)) C hW.1 rfl wu_X8 (by decide) wf_X8_140 rfl rfl dX8_post_66 ?_
          refine g_iast (f := x 9) (k := (nP x)) C hS (hW.2.1 9 rfl) (am_A (Or.inl rfl)) eP (show nP x < 300 by omega) (by decide) dX8_post_69 (fun H locs e1 o1 z1 hS => ?_)
          have hW : MWd G m0 (up2 (up2 x 8 (nP x) w) 9 (nP x) (x 0 0)) z H := MWd.putA 9 hW rfl e1 o1 (mfs_up rfl) (by decide) (by decide)
          refine lv_aload_n C.hx C.hb dX8_post_70 rfl (lv_at hl 0 rfl) ?_
          refine g_get (k := 10) (v := .ref (am m0 10)) C hW.1 rfl wu_X8 (by decide) wf_X8_38 rfl rfl dX8_post_71 ?_
          refine lv_aload_n C.hx C.hb dX8_post_74 rfl (lv_at hl 0 rfl) ?_
          refine g_get (k := 12) (v := .int (x 12 0)) C hW.1 rfl wu_X8 (by decide) wf_X8_144 rfl rfl dX8_post_75 ?_
          refine lv_iload_n C.hx C.hb dX8_post_78 rfl (lv_at hl 2 rfl) ?_
          refine g_iast (f := x 10) (k := (nP x)) C hS (hW.2.1 10 rfl) (am_A (Or.inl rfl)) eP (show nP x < 300 by omega) (by decide) dX8_post_79 (fun H locs e1 o1 z1 hS => ?_)
          have hW : MWd G m0 (up2 (up2 (up2 x 8 (nP x) w) 9 (nP x) (x 0 0)) 10 (nP x) r) z H := MWd.putA 10 hW rfl e1 o1 (mfs_up rfl) (by decide) (by decide)
          refine lv_aload_n C.hx C.hb dX8_post_80 rfl (lv_at hl 0 rfl) ?_
          refine g_get (k := 11) (v := .ref (am m0 11)) C hW.1 rfl wu_X8 (by decide) wf_X8_41 rfl rfl dX8_post_81 ?_
          refine lv_aload_n C.hx C.hb dX8_post_84 rfl (lv_at hl 0 rfl) ?_
          refine g_get (k := 12) (v := .int (x 12 0)) C hW.1 rfl wu_X8 (by decide) wf_X8_144 rfl rfl dX8_post_85 ?_
          refine lv_iload_n C.hx C.hb dX8_post_88 rfl (lv_at hl 3 rfl) ?_
          refine g_iast (f := x 11) (k := (nP x)) C hS (hW.2.1 11 rfl) (am_A (Or.inl rfl)) eP (show nP x < 300 by omega) (by decide) dX8_post_89 (fun H locs e1 o1 z1 hS => ?_)
          have hW : MWd G m0 (up2 (up2 (up2 (up2 x 8 (nP x) w) 9 (nP x) (x 0 0)) 10 (nP x) r) 11 (nP x) mk) z H := MWd.putA 11 hW rfl e1 o1 (mfs_up rfl) (by decide) (by decide)
          refine lv_aload_n C.hx C.hb dX8_post_90 rfl (lv_at hl 0 rfl) ?_
          refine lv_dup C.hx C.hb dX8_post_91 rfl ?_
          refine g_get (k := 12) (v := .int (x 12 0)) C hW.1 rfl wu_X8 (by decide) wf_X8_144 rfl rfl dX8_post_92 ?_
          refine lv_iconst (v := 1) C.hx C.hb dX8_post_95 (by decide) ?_
          refine lv_iadd C.hx C.hb dX8_post_96 ?_
          refine g_put (k := 12) tyX8 C hS hW.1 MA_0 rfl wu_X8 tyX8_ok nmX8 (by decide) wf_X8_144 rfl rfl rfl rfl rfl (Nat.le_of_ble_eq_true rfl) dX8_post_97 (fun H locs e1 o1 z1 hS => ?_)
          have hW : MWd G m0 (up2 (up2 (up2 (up2 (up2 x 8 (nP x) w) 9 (nP x) (x 0 0)) 10 (nP x) r) 11 (nP x) mk) 12 0 ((x 12 0) + 1)) z H := MWd.putS 12 hW e1 o1 mset_12 rfl (by decide)
          refine lv_aload_n C.hx C.hb dX8_post_100 rfl (lv_at hl 0 rfl) ?_
          refine g_get (k := 12) (v := .int ((x 12 0) + 1)) C hW.1 rfl wu_X8 (by decide) wf_X8_144 rfl rfl dX8_post_101 ?_
          refine lv_iconst (v := 1) C.hx C.hb dX8_post_104 (by decide) ?_
          refine lv_isub C.hx C.hb dX8_post_105 ?_
          exact wI C hr dX8_post_106 hS (by unfold s_X8_post; rw [if_neg c1, if_neg c2, if_neg c3, if_neg c4]) (by unfold sx_X8_post; rw [if_neg c1, if_neg c2, if_neg c3, if_neg c4]; exact hW)
        · refine lv_bipush (v := (-2)) C.hx C.hb dX8_post_44 (by decide) ?_
          exact wI C hr dX8_post_46 hS (by unfold s_X8_post; rw [if_neg c1, if_neg c2, if_neg c3, if_pos c4]) (by unfold sx_X8_post; rw [if_neg c1, if_neg c2, if_neg c3, if_pos c4]; exact hW)
      · refine lv_iconst (v := (-1)) C.hx C.hb dX8_post_32 (by decide) ?_
        exact wI C hr dX8_post_33 hS (by unfold s_X8_post; rw [if_neg c1, if_neg c2, if_pos c3]) (by unfold sx_X8_post; rw [if_neg c1, if_neg c2, if_pos c3]; exact hW)
def s_X8_judge (j : Int32) (sk : Int32) (ld : Int32) (wt : Int32) : Int32 := (if (s_X8_isJudge j) = 0 then (-1) else (if (s_X8_within sk 0 255) = 0 then (-1) else (if (s_X8_within ld 0 20) = 0 then (-1) else (if (s_X8_within wt 1 10) = 0 then (-1) else 1))))
def sx_X8_judge (x : Nat → Nat → Int32) (j : Int32) (sk : Int32) (ld : Int32) (wt : Int32) : Nat → Nat → Int32 := (if (s_X8_isJudge j) = 0 then x else (if (s_X8_within sk 0 255) = 0 then x else (if (s_X8_within ld 0 20) = 0 then x else (if (s_X8_within wt 1 10) = 0 then x else (up2 (up2 (up2 x 29 (tn j) sk) 31 (tn j) ld) 32 (tn j) wt)))))
set_option maxRecDepth 100000 in
set_option maxHeartbeats 4000000 in
theorem cM_judge (l : Launch) (G : GG) (m0 : Nat) (x : Nat → Nat → Int32) (z : Nat → Int64) (j : Int32) (sk : Int32) (ld : Int32) (wt : Int32) : MW l G yX8_judge cX8_judge 5 (some .int) 1 [.ref m0, .int j, .int sk, .int ld, .int wt] (MWd G m0 x z) (some (.int (s_X8_judge j sk ld wt))) (MWd G m0 (sx_X8_judge x j sk ld wt) z) (MA m0) 0 0 := by
  refine MW.of RX8 rfl (by decide) (Nat.le_of_ble_eq_true rfl) ?_
  intro p_ e_ s_ m_ args_ below_ meth_ c_ ls hargs C hr hnm hW hS hl
  have hl : lv_has ls 5 [(0, .ref m0), (1, .int j), (2, .int sk), (3, .int ld), (4, .int wt)] := hl
  refine lv_iload_n C.hx C.hb dX8_judge_0 rfl (lv_at hl 1 rfl) ?_
  refine kSR (As := [.int j]) (rest := []) (v := .int (s_X8_isJudge j)) C (cM_isJudge l G j) lk_X8_147 trivial rfl rfl hl (Nat.le_of_ble_eq_true rfl) dX8_judge_1 ⟨⟨by decide, by decide⟩, by decide, by decide⟩ ?_
  refine lv_if_eq (tgt := 39) C.hx C.hb dX8_judge_4 (by decide) (fun c1 => ?_) (fun c1 => ?_)
  · refine lv_iconst (v := (-1)) C.hx C.hb dX8_judge_39 (by decide) ?_
    exact wI C hr dX8_judge_40 hS (by unfold s_X8_judge; rw [if_pos c1]) (by unfold sx_X8_judge; rw [if_pos c1]; exact hW)
  · obtain ⟨jN, hjN, rfl⟩ := isJudge_nz c1
    have tjN : tn (nI jN) = jN := nI_clamp (by omega)
    refine lv_iload_n C.hx C.hb dX8_judge_7 rfl (lv_at hl 2 rfl) ?_
    refine lv_iconst (v := 0) C.hx C.hb dX8_judge_8 (by decide) ?_
    refine lv_sipush (v := 255) C.hx C.hb dX8_judge_9 (by decide) ?_
    refine kSR (As := [.int sk, .int 0, .int 255]) (rest := []) (v := .int (s_X8_within sk 0 255)) C (cM_within l G sk 0 255) lk_X8_136 trivial rfl rfl hl (Nat.le_of_ble_eq_true rfl) dX8_judge_12 ⟨⟨by decide, by decide⟩, by decide, by decide⟩ ?_
    refine lv_if_eq (tgt := 39) C.hx C.hb dX8_judge_15 (by decide) (fun c2 => ?_) (fun c2 => ?_)
    · refine lv_iconst (v := (-1)) C.hx C.hb dX8_judge_39 (by decide) ?_
      exact wI C hr dX8_judge_40 hS (by unfold s_X8_judge; (try simp only [tjN]); rw [if_neg c1, if_pos c2]) (by unfold sx_X8_judge; (try simp only [tjN]); rw [if_neg c1, if_pos c2]; exact hW)
    · refine lv_iload_n C.hx C.hb dX8_judge_18 rfl (lv_at hl 3 rfl) ?_
      refine lv_iconst (v := 0) C.hx C.hb dX8_judge_19 (by decide) ?_
      refine lv_bipush (v := 20) C.hx C.hb dX8_judge_20 (by decide) ?_
      refine kSR (As := [.int ld, .int 0, .int 20]) (rest := []) (v := .int (s_X8_within ld 0 20)) C (cM_within l G ld 0 20) lk_X8_136 trivial rfl rfl hl (Nat.le_of_ble_eq_true rfl) dX8_judge_22 ⟨⟨by decide, by decide⟩, by decide, by decide⟩ ?_
      refine lv_if_eq (tgt := 39) C.hx C.hb dX8_judge_25 (by decide) (fun c3 => ?_) (fun c3 => ?_)
      · refine lv_iconst (v := (-1)) C.hx C.hb dX8_judge_39 (by decide) ?_
        exact wI C hr dX8_judge_40 hS (by unfold s_X8_judge; (try simp only [tjN]); rw [if_neg c1, if_neg c2, if_pos c3]) (by unfold sx_X8_judge; (try simp only [tjN]); rw [if_neg c1, if_neg c2, if_pos c3]; exact hW)
      · refine lv_iload C.hx C.hb dX8_judge_28 (lv_at hl 4 rfl) ?_
        refine lv_iconst (v := 1) C.hx C.hb dX8_judge_30 (by decide) ?_
        refine lv_bipush (v := 10) C.hx C.hb dX8_judge_31 (by decide) ?_
        refine kSR (As := [.int wt, .int 1, .int 10]) (rest := []) (v := .int (s_X8_within wt 1 10)) C (cM_within l G wt 1 10) lk_X8_136 trivial rfl rfl hl (Nat.le_of_ble_eq_true rfl) dX8_judge_33 ⟨⟨by decide, by decide⟩, by decide, by decide⟩ ?_
        refine lv_if_ne (tgt := 41) C.hx C.hb dX8_judge_36 (by decide) (fun c4 => ?_) (fun c4 => ?_)
        · refine lv_aload_n C.hx C.hb dX8_judge_41 rfl (lv_at hl 0 rfl) ?_
          refine g_get (k := 29) (v := .ref (am m0 29)) C hW.1 rfl wu_X8 (by decide) wf_X8_86 rfl rfl dX8_judge_42 ?_
          refine lv_iload_n C.hx C.hb dX8_judge_45 rfl (lv_at hl 1 rfl) ?_
          refine lv_iload_n C.hx C.hb dX8_judge_46 rfl (lv_at hl 2 rfl) ?_
          refine g_iast (f := x 29) (k := jN) C hS (hW.2.1 29 rfl) (am_A (Or.inl rfl)) rfl (show jN < 20 by omega) (by decide) dX8_judge_47 (fun H locs e1 o1 z1 hS => ?_)
          have hW : MWd G m0 (up2 x 29 jN sk) z H := MWd.putA 29 hW rfl e1 o1 (mfs_up rfl) (by decide) (by decide)
          refine lv_aload_n C.hx C.hb dX8_judge_48 rfl (lv_at hl 0 rfl) ?_
          refine g_get (k := 31) (v := .ref (am m0 31)) C hW.1 rfl wu_X8 (by decide) wf_X8_93 rfl rfl dX8_judge_49 ?_
          refine lv_iload_n C.hx C.hb dX8_judge_52 rfl (lv_at hl 1 rfl) ?_
          refine lv_iload_n C.hx C.hb dX8_judge_53 rfl (lv_at hl 3 rfl) ?_
          refine g_iast (f := x 31) (k := jN) C hS (hW.2.1 31 rfl) (am_A (Or.inl rfl)) rfl (show jN < 20 by omega) (by decide) dX8_judge_54 (fun H locs e1 o1 z1 hS => ?_)
          have hW : MWd G m0 (up2 (up2 x 29 jN sk) 31 jN ld) z H := MWd.putA 31 hW rfl e1 o1 (mfs_up rfl) (by decide) (by decide)
          refine lv_aload_n C.hx C.hb dX8_judge_55 rfl (lv_at hl 0 rfl) ?_
          refine g_get (k := 32) (v := .ref (am m0 32)) C hW.1 rfl wu_X8 (by decide) wf_X8_96 rfl rfl dX8_judge_56 ?_
          refine lv_iload_n C.hx C.hb dX8_judge_59 rfl (lv_at hl 1 rfl) ?_
          refine lv_iload C.hx C.hb dX8_judge_60 (lv_at hl 4 rfl) ?_
          refine g_iast (f := x 32) (k := jN) C hS (hW.2.1 32 rfl) (am_A (Or.inl rfl)) rfl (show jN < 20 by omega) (by decide) dX8_judge_62 (fun H locs e1 o1 z1 hS => ?_)
          have hW : MWd G m0 (up2 (up2 (up2 x 29 jN sk) 31 jN ld) 32 jN wt) z H := MWd.putA 32 hW rfl e1 o1 (mfs_up rfl) (by decide) (by decide)
          refine lv_iconst (v := 1) C.hx C.hb dX8_judge_63 (by decide) ?_
          exact wI C hr dX8_judge_64 hS (by unfold s_X8_judge; (try simp only [tjN]); rw [if_neg c1, if_neg c2, if_neg c3, if_neg c4]) (by unfold sx_X8_judge; (try simp only [tjN]); rw [if_neg c1, if_neg c2, if_neg c3, if_neg c4]; exact hW)
        · refine lv_iconst (v := (-1)) C.hx C.hb dX8_judge_39 (by decide) ?_
          exact wI C hr dX8_judge_40 hS (by unfold s_X8_judge; (try simp only [tjN]); rw [if_neg c1, if_neg c2, if_neg c3, if_pos c4]) (by unfold sx_X8_judge; (try simp only [tjN]); rw [if_neg c1, if_neg c2, if_neg c3, if_pos c4]; exact hW)
def s_X8_kin (z : Nat → Int64) (j : Int32) (w : Int32) (is : Int32) : Int32 := (if (s_X8_isJudge j) = 0 then (-1) else (if (s_X8_within w 0 39) = 0 then (-1) else (if (s_X8_within is 0 1) = 0 then (-1) else (((z (tn j)) >>> (w.toInt64 &&& 63)) &&& (1)).toInt32)))
def sx_X8_kin (x : Nat → Nat → Int32) : Nat → Nat → Int32 := x
def sz_X8_kin (z : Nat → Int64) (j : Int32) (w : Int32) (is : Int32) : Nat → Int64 := (if (s_X8_isJudge j) = 0 then z else (if (s_X8_within w 0 39) = 0 then z else (if (s_X8_within is 0 1) = 0 then z else (vp_updL z (tn j) (((z (tn j)) &&& (((1) <<< (w.toInt64 &&& 63)) ^^^ ((-1)))) ||| (((is).toInt64) <<< (w.toInt64 &&& 63)))))))
set_option maxRecDepth 100000 in
set_option maxHeartbeats 4000000 in
theorem cM_kin (l : Launch) (G : GG) (m0 : Nat) (x : Nat → Nat → Int32) (z : Nat → Int64) (j : Int32) (w : Int32) (is : Int32) : MW l G yX8_kin cX8_kin 5 (some .int) 1 [.ref m0, .int j, .int w, .int is] (MWd G m0 x z) (some (.int (s_X8_kin z j w is))) (MWd G m0 (sx_X8_kin x) (sz_X8_kin z j w is)) (MA m0) 0 0 := by
  refine MW.of RX8 rfl (by decide) (Nat.le_of_ble_eq_true rfl) ?_
  intro p_ e_ s_ m_ args_ below_ meth_ c_ ls hargs C hr hnm hW hS hl
  have hl : lv_has ls 5 [(0, .ref m0), (1, .int j), (2, .int w), (3, .int is)] := hl
  refine lv_iload_n C.hx C.hb dX8_kin_0 rfl (lv_at hl 1 rfl) ?_
  refine kSR (As := [.int j]) (rest := []) (v := .int (s_X8_isJudge j)) C (cM_isJudge l G j) lk_X8_147 trivial rfl rfl hl (Nat.le_of_ble_eq_true rfl) dX8_kin_1 ⟨⟨by decide, by decide⟩, by decide, by decide⟩ ?_
  refine lv_if_eq (tgt := 26) C.hx C.hb dX8_kin_4 (by decide) (fun c1 => ?_) (fun c1 => ?_)
  · refine lv_iconst (v := (-1)) C.hx C.hb dX8_kin_26 (by decide) ?_
    exact wI C hr dX8_kin_27 hS (by unfold s_X8_kin; rw [if_pos c1]) (by unfold sx_X8_kin sz_X8_kin; rw [if_pos c1]; exact hW)
  · obtain ⟨jN, hjN, rfl⟩ := isJudge_nz c1
    have tjN : tn (nI jN) = jN := nI_clamp (by omega)
    refine lv_iload_n C.hx C.hb dX8_kin_7 rfl (lv_at hl 2 rfl) ?_
    refine lv_iconst (v := 0) C.hx C.hb dX8_kin_8 (by decide) ?_
    refine lv_bipush (v := 39) C.hx C.hb dX8_kin_9 (by decide) ?_
    refine kSR (As := [.int w, .int 0, .int 39]) (rest := []) (v := .int (s_X8_within w 0 39)) C (cM_within l G w 0 39) lk_X8_136 trivial rfl rfl hl (Nat.le_of_ble_eq_true rfl) dX8_kin_11 ⟨⟨by decide, by decide⟩, by decide, by decide⟩ ?_
    refine lv_if_eq (tgt := 26) C.hx C.hb dX8_kin_14 (by decide) (fun c2 => ?_) (fun c2 => ?_)
    · refine lv_iconst (v := (-1)) C.hx C.hb dX8_kin_26 (by decide) ?_
      exact wI C hr dX8_kin_27 hS (by unfold s_X8_kin; (try simp only [tjN]); rw [if_neg c1, if_pos c2]) (by unfold sx_X8_kin sz_X8_kin; (try simp only [tjN]); rw [if_neg c1, if_pos c2]; exact hW)
    · obtain ⟨wN, hwN, rfl⟩ := within_nz (n := 39) c2 (by decide)
      have twN : tn (nI wN) = wN := nI_clamp (by omega)
      refine lv_iload_n C.hx C.hb dX8_kin_17 rfl (lv_at hl 3 rfl) ?_
      refine lv_iconst (v := 0) C.hx C.hb dX8_kin_18 (by decide) ?_
      refine lv_iconst (v := 1) C.hx C.hb dX8_kin_19 (by decide) ?_
      refine kSR (As := [.int is, .int 0, .int 1]) (rest := []) (v := .int (s_X8_within is 0 1)) C (cM_within l G is 0 1) lk_X8_136 trivial rfl rfl hl (Nat.le_of_ble_eq_true rfl) dX8_kin_20 ⟨⟨by decide, by decide⟩, by decide, by decide⟩ ?_
      refine lv_if_ne (tgt := 28) C.hx C.hb dX8_kin_23 (by decide) (fun c3 => ?_) (fun c3 => ?_)
      · refine lv_aload_n C.hx C.hb dX8_kin_28 rfl (lv_at hl 0 rfl) ?_
        refine g_get (k := 30) (v := .ref (am m0 30)) C hW.1 rfl wu_X8 (by decide) wf_X8_89 rfl rfl dX8_kin_29 ?_
        refine lv_iload_n C.hx C.hb dX8_kin_32 rfl (lv_at hl 1 rfl) ?_
        refine g_lald (f := z) (k := jN) C hW.2.2.1 rfl (show jN < 20 by omega) (by decide) dX8_kin_33 ?_
        refine lv_iload_n C.hx C.hb dX8_kin_34 rfl (lv_at hl 2 rfl) ?_
        refine lv_lshr C.hx C.hb dX8_kin_35 rfl ?_
        refine lv_lconst (v := 1) C.hx C.hb dX8_kin_36 (by decide) ?_
        refine lv_land C.hx C.hb dX8_kin_37 ?_
        refine lv_l2i C.hx C.hb dX8_kin_38 rfl ?_
        refine lv_istore (lv' := [(4, .int ((((z jN) >>> ((nI wN).toInt64 &&& 63)) &&& (1)).toInt32)), (0, .ref m0), (1, .int (nI jN)), (2, .int (nI wN)), (3, .int is)]) C.hx C.hb dX8_kin_39 hl (by decide) rfl (fun ls hl => ?_)
        refine lv_aload_n C.hx C.hb dX8_kin_41 rfl (lv_at hl 1 rfl) ?_
        refine g_get (k := 30) (v := .ref (am m0 30)) C hW.1 rfl wu_X8 (by decide) wf_X8_89 rfl rfl dX8_kin_42 ?_
        refine lv_iload_n C.hx C.hb dX8_kin_45 rfl (lv_at hl 2 rfl) ?_
        refine lv_aload_n C.hx C.hb dX8_kin_46 rfl (lv_at hl 1 rfl) ?_
        refine g_get (k := 30) (v := .ref (am m0 30)) C hW.1 rfl wu_X8 (by decide) wf_X8_89 rfl rfl dX8_kin_47 ?_
        refine lv_iload_n C.hx C.hb dX8_kin_50 rfl (lv_at hl 2 rfl) ?_
        refine g_lald (f := z) (k := jN) C hW.2.2.1 rfl (show jN < 20 by omega) (by decide) dX8_kin_51 ?_
        refine lv_lconst (v := 1) C.hx C.hb dX8_kin_52 (by decide) ?_
        refine lv_iload_n C.hx C.hb dX8_kin_53 rfl (lv_at hl 3 rfl) ?_
        refine lv_lshl C.hx C.hb dX8_kin_54 rfl ?_
        refine lv_ldc2 (v := -1) C.hx C.hb C.hown (C.hT _ wk_X8_151) dX8_kin_55 ?_
        refine lv_lxor C.hx C.hb dX8_kin_58 ?_
        refine lv_land C.hx C.hb dX8_kin_59 ?_
        refine lv_iload_n C.hx C.hb dX8_kin_60 rfl (lv_at hl 4 rfl) ?_
        refine lv_i2l C.hx C.hb dX8_kin_61 rfl ?_
        refine lv_iload_n C.hx C.hb dX8_kin_62 rfl (lv_at hl 3 rfl) ?_
        refine lv_lshl C.hx C.hb dX8_kin_63 rfl ?_
        refine lv_lor C.hx C.hb dX8_kin_64 ?_
        refine g_last (f := z) (k := jN) C hS hW.2.2.1 (am_A (Or.inr (Or.inl rfl))) rfl (show jN < 20 by omega) (by decide) dX8_kin_65 (fun H locs e1 o1 z1 hS => ?_)
        have hW : MWd G m0 x (vp_updL z jN (((z jN) &&& (((1) <<< ((nI wN).toInt64 &&& 63)) ^^^ ((-1)))) ||| (((is).toInt64) <<< ((nI wN).toInt64 &&& 63)))) H := MWd.putL hW e1 o1
        refine lv_iload C.hx C.hb dX8_kin_66 (lv_at hl 0 rfl) ?_
        exact wI C hr dX8_kin_68 hS (by unfold s_X8_kin; (try simp only [tjN, twN]); rw [if_neg c1, if_neg c2, if_neg c3]) (by unfold sx_X8_kin sz_X8_kin; (try simp only [tjN, twN]); rw [if_neg c1, if_neg c2, if_neg c3]; exact hW)
      · refine lv_iconst (v := (-1)) C.hx C.hb dX8_kin_26 (by decide) ?_
        exact wI C hr dX8_kin_27 hS (by unfold s_X8_kin; (try simp only [tjN, twN]); rw [if_neg c1, if_neg c2, if_pos c3]) (by unfold sx_X8_kin sz_X8_kin; (try simp only [tjN, twN]); rw [if_neg c1, if_neg c2, if_pos c3]; exact hW)
def s_X8_undo (x : Nat → Nat → Int32) : Int32 := (if (x 36 0) = 0 then (-4) else x 35 (nG x - 1))
def sx_X8_undo (x : Nat → Nat → Int32) : Nat → Nat → Int32 := (if (x 36 0) = 0 then x else (up2 x 36 0 ((x 36 0) - 1)))
set_option maxRecDepth 100000 in
set_option maxHeartbeats 4000000 in
theorem cM_undo (l : Launch) (G : GG) (m0 : Nat) (x : Nat → Nat → Int32) (z : Nat → Int64) (hI : MI x) : MW l G yX8_undo cX8_undo 1 (some .int) 0 [.ref m0] (MWd G m0 x z) (some (.int (s_X8_undo x))) (MWd G m0 (sx_X8_undo x) z) (MA m0) 0 0 := by
  refine MW.of RX8 rfl (by decide) (Nat.le_of_ble_eq_true rfl) ?_
  intro p_ e_ s_ m_ args_ below_ meth_ c_ ls hargs C hr hnm hW hS hl
  obtain ⟨⟨eP, bP⟩, ⟨eC, bC⟩, ⟨eG, bG⟩, ⟨eV, bV⟩, -, -⟩ := id hI
  have hl : lv_has ls 1 [(0, .ref m0)] := hl
  refine lv_aload_n C.hx C.hb dX8_undo_0 rfl (lv_at hl 0 rfl) ?_
  refine g_get (k := 36) (v := .int (x 36 0)) C hW.1 rfl wu_X8 (by decide) wf_X8_153 rfl rfl dX8_undo_1 ?_
  refine lv_if_ne (tgt := 10) C.hx C.hb dX8_undo_4 (by decide) (fun c1 => ?_) (fun c1 => ?_)
  · have gc1 : 0 < nG x := pos_ne eG c1
    refine lv_aload_n C.hx C.hb dX8_undo_10 rfl (lv_at hl 0 rfl) ?_
    refine lv_dup C.hx C.hb dX8_undo_11 rfl ?_
    refine g_get (k := 36) (v := .int (x 36 0)) C hW.1 rfl wu_X8 (by decide) wf_X8_153 rfl rfl dX8_undo_12 ?_
    refine lv_iconst (v := 1) C.hx C.hb dX8_undo_15 (by decide) ?_
    refine lv_isub C.hx C.hb dX8_undo_16 ?_
    refine g_put (k := 36) tyX8 C hS hW.1 MA_0 rfl wu_X8 tyX8_ok nmX8 (by decide) wf_X8_153 rfl rfl rfl rfl rfl (Nat.le_of_ble_eq_true rfl) dX8_undo_17 (fun H locs e1 o1 z1 hS => ?_)
    have hW : MWd G m0 (up2 x 36 0 ((x 36 0) - 1)) z H := MWd.putS 36 hW e1 o1 mset_36 rfl (by decide)
    refine lv_aload_n C.hx C.hb dX8_undo_20 rfl (lv_at hl 0 rfl) ?_
    refine g_get (k := 35) (v := .ref (am m0 35)) C hW.1 rfl wu_X8 (by decide) wf_X8_106 rfl rfl dX8_undo_21 ?_
    refine lv_aload_n C.hx C.hb dX8_undo_24 rfl (lv_at hl 0 rfl) ?_
    refine g_get (k := 36) (v := .int ((x 36 0) - 1)) C hW.1 rfl wu_X8 (by decide) wf_X8_153 rfl rfl dX8_undo_25 ?_
    refine g_iald (f := x 35) (k := (nG x - 1)) C (hW.2.1 35 rfl) (nI_subE eG (by decide) (by omega)) (show (nG x - 1) < 400 by omega) (by decide) dX8_undo_28 ?_
    exact wI C hr dX8_undo_29 hS (by unfold s_X8_undo; rw [if_neg c1]) (by unfold sx_X8_undo; rw [if_neg c1]; exact hW)
  · refine lv_bipush (v := (-4)) C.hx C.hb dX8_undo_7 (by decide) ?_
    exact wI C hr dX8_undo_9 hS (by unfold s_X8_undo; rw [if_pos c1]) (by unfold sx_X8_undo; rw [if_pos c1]; exact hW)
def s_X8_isAsking (x : Nat → Nat → Int32) (cN : Nat) : Int32 := (if (x 15 cN) = 0 then 1 else (if (x 15 cN) = 3 then 1 else 0 : Int32) : Int32)
set_option maxRecDepth 100000 in
set_option maxHeartbeats 4000000 in
theorem cM_isAsking (l : Launch) (G : GG) (m0 : Nat) (x : Nat → Nat → Int32) (z : Nat → Int64) (hI : MI x) (cN : Nat) (hc : cN < nC x) : MR l G yX8_isAsking cX8_isAsking 2 (some .boolean) 0 [.ref m0, .int (nI cN)] (MWd G m0 x z) (some (.int (s_X8_isAsking x cN))) := by
  refine MR.of RX8 rfl (by decide) (Nat.le_of_ble_eq_true rfl) ?_
  intro p_ e_ s_ m_ args_ below_ meth_ c_ ls hargs C hr hnm hW hl
  obtain ⟨⟨eP, bP⟩, ⟨eC, bC⟩, ⟨eG, bG⟩, ⟨eV, bV⟩, -, -⟩ := id hI
  have hl : lv_has ls 2 [(0, .ref m0), (1, .int (nI cN))] := hl
  refine lv_aload_n C.hx C.hb dX8_isAsking_0 rfl (lv_at hl 0 rfl) ?_
  refine g_get (k := 15) (v := .ref (am m0 15)) C hW.1 rfl wu_X8 (by decide) wf_X8_50 rfl rfl dX8_isAsking_1 ?_
  refine lv_iload_n C.hx C.hb dX8_isAsking_4 rfl (lv_at hl 1 rfl) ?_
  refine g_iald (f := x 15) (k := cN) C (hW.2.1 15 rfl) rfl (show cN < 400 by omega) (by decide) dX8_isAsking_5 ?_
  refine W.joinI (P := fun jv => jv = (if (x 15 cN) = 0 then 1 else (if (x 15 cN) = 3 then 1 else 0 : Int32) : Int32)) 24 ls [] (fun J3 => ?_) (fun v4 hv4 => ?_)
  · refine lv_if_eq (tgt := 19) C.hx C.hb dX8_isAsking_6 (by decide) (fun c1 => ?_) (fun c1 => ?_)
    · refine lv_iconst (v := 1) C.hx C.hb dX8_isAsking_19 (by decide) ?_
      refine lv_goto (tgt := 24) C.hx C.hb dX8_isAsking_20 (by decide) ?_
      exact J3 _ (by rw [if_pos c1])
    · refine lv_aload_n C.hx C.hb dX8_isAsking_9 rfl (lv_at hl 0 rfl) ?_
      refine g_get (k := 15) (v := .ref (am m0 15)) C hW.1 rfl wu_X8 (by decide) wf_X8_50 rfl rfl dX8_isAsking_10 ?_
      refine lv_iload_n C.hx C.hb dX8_isAsking_13 rfl (lv_at hl 1 rfl) ?_
      refine g_iald (f := x 15) (k := cN) C (hW.2.1 15 rfl) rfl (show cN < 400 by omega) (by decide) dX8_isAsking_14 ?_
      refine lv_iconst (v := 3) C.hx C.hb dX8_isAsking_15 (by decide) ?_
      refine lv_icmp_ne (tgt := 23) C.hx C.hb dX8_isAsking_16 (by decide) (fun c2 => ?_) (fun c2 => ?_)
      · refine lv_iconst (v := 0) C.hx C.hb dX8_isAsking_23 (by decide) ?_
        exact J3 _ (by rw [if_neg c1, if_neg c2])
      · refine lv_iconst (v := 1) C.hx C.hb dX8_isAsking_19 (by decide) ?_
        refine lv_goto (tgt := 24) C.hx C.hb dX8_isAsking_20 (by decide) ?_
        exact J3 _ (by rw [if_neg c1, if_pos c2])
  · exact rZ C hr dX8_isAsking_24 (by subst hv4; unfold s_X8_isAsking; try rfl) (nb01 (by subst hv4; (repeat' split) <;> simp))
def s_X8_timeOf (x : Nat → Nat → Int32) (cN : Nat) : Int32 := (if (x 15 cN) = 3 then 1 else (if (x 15 cN) = 4 then 1 else (if (x 15 cN) = 5 then 1 else 0 : Int32) : Int32) : Int32)
set_option maxRecDepth 100000 in
set_option maxHeartbeats 4000000 in
theorem cM_timeOf (l : Launch) (G : GG) (m0 : Nat) (x : Nat → Nat → Int32) (z : Nat → Int64) (hI : MI x) (cN : Nat) (hc : cN < nC x) : MR l G yX8_timeOf cX8_timeOf 2 (some .int) 0 [.ref m0, .int (nI cN)] (MWd G m0 x z) (some (.int (s_X8_timeOf x cN))) := by
  refine MR.of RX8 rfl (by decide) (Nat.le_of_ble_eq_true rfl) ?_
  intro p_ e_ s_ m_ args_ below_ meth_ c_ ls hargs C hr hnm hW hl
  obtain ⟨⟨eP, bP⟩, ⟨eC, bC⟩, ⟨eG, bG⟩, ⟨eV, bV⟩, -, -⟩ := id hI
  have hl : lv_has ls 2 [(0, .ref m0), (1, .int (nI cN))] := hl
  refine lv_aload_n C.hx C.hb dX8_timeOf_0 rfl (lv_at hl 0 rfl) ?_
  refine g_get (k := 15) (v := .ref (am m0 15)) C hW.1 rfl wu_X8 (by decide) wf_X8_50 rfl rfl dX8_timeOf_1 ?_
  refine lv_iload_n C.hx C.hb dX8_timeOf_4 rfl (lv_at hl 1 rfl) ?_
  refine g_iald (f := x 15) (k := cN) C (hW.2.1 15 rfl) rfl (show cN < 400 by omega) (by decide) dX8_timeOf_5 ?_
  refine lv_iconst (v := 3) C.hx C.hb dX8_timeOf_6 (by decide) ?_
  refine W.joinI (P := fun jv => jv = (if (x 15 cN) = 3 then 1 else (if (x 15 cN) = 4 then 1 else (if (x 15 cN) = 5 then 1 else 0 : Int32) : Int32) : Int32)) 35 ls [] (fun J4 => ?_) (fun v5 hv5 => ?_)
  · refine lv_icmp_eq (tgt := 30) C.hx C.hb dX8_timeOf_7 (by decide) (fun c1 => ?_) (fun c1 => ?_)
    · refine lv_iconst (v := 1) C.hx C.hb dX8_timeOf_30 (by decide) ?_
      refine lv_goto (tgt := 35) C.hx C.hb dX8_timeOf_31 (by decide) ?_
      exact J4 _ (by rw [if_pos c1])
    · refine lv_aload_n C.hx C.hb dX8_timeOf_10 rfl (lv_at hl 0 rfl) ?_
      refine g_get (k := 15) (v := .ref (am m0 15)) C hW.1 rfl wu_X8 (by decide) wf_X8_50 rfl rfl dX8_timeOf_11 ?_
      refine lv_iload_n C.hx C.hb dX8_timeOf_14 rfl (lv_at hl 1 rfl) ?_
      refine g_iald (f := x 15) (k := cN) C (hW.2.1 15 rfl) rfl (show cN < 400 by omega) (by decide) dX8_timeOf_15 ?_
      refine lv_iconst (v := 4) C.hx C.hb dX8_timeOf_16 (by decide) ?_
      refine lv_icmp_eq (tgt := 30) C.hx C.hb dX8_timeOf_17 (by decide) (fun c2 => ?_) (fun c2 => ?_)
      · refine lv_iconst (v := 1) C.hx C.hb dX8_timeOf_30 (by decide) ?_
        refine lv_goto (tgt := 35) C.hx C.hb dX8_timeOf_31 (by decide) ?_
        exact J4 _ (by rw [if_neg c1, if_pos c2])
      · refine lv_aload_n C.hx C.hb dX8_timeOf_20 rfl (lv_at hl 0 rfl) ?_
        refine g_get (k := 15) (v := .ref (am m0 15)) C hW.1 rfl wu_X8 (by decide) wf_X8_50 rfl rfl dX8_timeOf_21 ?_
        refine lv_iload_n C.hx C.hb dX8_timeOf_24 rfl (lv_at hl 1 rfl) ?_
        refine g_iald (f := x 15) (k := cN) C (hW.2.1 15 rfl) rfl (show cN < 400 by omega) (by decide) dX8_timeOf_25 ?_
        refine lv_iconst (v := 5) C.hx C.hb dX8_timeOf_26 (by decide) ?_
        refine lv_icmp_ne (tgt := 34) C.hx C.hb dX8_timeOf_27 (by decide) (fun c3 => ?_) (fun c3 => ?_)
        · refine lv_iconst (v := 0) C.hx C.hb dX8_timeOf_34 (by decide) ?_
          exact J4 _ (by rw [if_neg c1, if_neg c2, if_neg c3])
        · refine lv_iconst (v := 1) C.hx C.hb dX8_timeOf_30 (by decide) ?_
          refine lv_goto (tgt := 35) C.hx C.hb dX8_timeOf_31 (by decide) ?_
          exact J4 _ (by rw [if_neg c1, if_neg c2, if_pos c3])
  · exact rI C hr dX8_timeOf_35 (by subst hv5; unfold s_X8_timeOf; try rfl)
def s_X8_stands (x : Nat → Nat → Int32) (cN : Nat) : Int32 := (if (x 15 cN) = 2 then 1 else (if (x 15 cN) = 5 then 1 else (if (x 15 cN) = 3 then 1 else 0 : Int32) : Int32) : Int32)
set_option maxRecDepth 100000 in
set_option maxHeartbeats 4000000 in
theorem cM_stands (l : Launch) (G : GG) (m0 : Nat) (x : Nat → Nat → Int32) (z : Nat → Int64) (hI : MI x) (cN : Nat) (hc : cN < nC x) : MR l G yX8_stands cX8_stands 2 (some .boolean) 0 [.ref m0, .int (nI cN)] (MWd G m0 x z) (some (.int (s_X8_stands x cN))) := by
  refine MR.of RX8 rfl (by decide) (Nat.le_of_ble_eq_true rfl) ?_
  intro p_ e_ s_ m_ args_ below_ meth_ c_ ls hargs C hr hnm hW hl
  obtain ⟨⟨eP, bP⟩, ⟨eC, bC⟩, ⟨eG, bG⟩, ⟨eV, bV⟩, -, -⟩ := id hI
  have hl : lv_has ls 2 [(0, .ref m0), (1, .int (nI cN))] := hl
  refine lv_aload_n C.hx C.hb dX8_stands_0 rfl (lv_at hl 0 rfl) ?_
  refine g_get (k := 15) (v := .ref (am m0 15)) C hW.1 rfl wu_X8 (by decide) wf_X8_50 rfl rfl dX8_stands_1 ?_
  refine lv_iload_n C.hx C.hb dX8_stands_4 rfl (lv_at hl 1 rfl) ?_
  refine g_iald (f := x 15) (k := cN) C (hW.2.1 15 rfl) rfl (show cN < 400 by omega) (by decide) dX8_stands_5 ?_
  refine lv_iconst (v := 2) C.hx C.hb dX8_stands_6 (by decide) ?_
  refine W.joinI (P := fun jv => jv = (if (x 15 cN) = 2 then 1 else (if (x 15 cN) = 5 then 1 else (if (x 15 cN) = 3 then 1 else 0 : Int32) : Int32) : Int32)) 35 ls [] (fun J4 => ?_) (fun v5 hv5 => ?_)
  · refine lv_icmp_eq (tgt := 30) C.hx C.hb dX8_stands_7 (by decide) (fun c1 => ?_) (fun c1 => ?_)
    · refine lv_iconst (v := 1) C.hx C.hb dX8_stands_30 (by decide) ?_
      refine lv_goto (tgt := 35) C.hx C.hb dX8_stands_31 (by decide) ?_
      exact J4 _ (by rw [if_pos c1])
    · refine lv_aload_n C.hx C.hb dX8_stands_10 rfl (lv_at hl 0 rfl) ?_
      refine g_get (k := 15) (v := .ref (am m0 15)) C hW.1 rfl wu_X8 (by decide) wf_X8_50 rfl rfl dX8_stands_11 ?_
      refine lv_iload_n C.hx C.hb dX8_stands_14 rfl (lv_at hl 1 rfl) ?_
      refine g_iald (f := x 15) (k := cN) C (hW.2.1 15 rfl) rfl (show cN < 400 by omega) (by decide) dX8_stands_15 ?_
      refine lv_iconst (v := 5) C.hx C.hb dX8_stands_16 (by decide) ?_
      refine lv_icmp_eq (tgt := 30) C.hx C.hb dX8_stands_17 (by decide) (fun c2 => ?_) (fun c2 => ?_)
      · refine lv_iconst (v := 1) C.hx C.hb dX8_stands_30 (by decide) ?_
        refine lv_goto (tgt := 35) C.hx C.hb dX8_stands_31 (by decide) ?_
        exact J4 _ (by rw [if_neg c1, if_pos c2])
      · refine lv_aload_n C.hx C.hb dX8_stands_20 rfl (lv_at hl 0 rfl) ?_
        refine g_get (k := 15) (v := .ref (am m0 15)) C hW.1 rfl wu_X8 (by decide) wf_X8_50 rfl rfl dX8_stands_21 ?_
        refine lv_iload_n C.hx C.hb dX8_stands_24 rfl (lv_at hl 1 rfl) ?_
        refine g_iald (f := x 15) (k := cN) C (hW.2.1 15 rfl) rfl (show cN < 400 by omega) (by decide) dX8_stands_25 ?_
        refine lv_iconst (v := 3) C.hx C.hb dX8_stands_26 (by decide) ?_
        refine lv_icmp_ne (tgt := 34) C.hx C.hb dX8_stands_27 (by decide) (fun c3 => ?_) (fun c3 => ?_)
        · refine lv_iconst (v := 0) C.hx C.hb dX8_stands_34 (by decide) ?_
          exact J4 _ (by rw [if_neg c1, if_neg c2, if_neg c3])
        · refine lv_iconst (v := 1) C.hx C.hb dX8_stands_30 (by decide) ?_
          refine lv_goto (tgt := 35) C.hx C.hb dX8_stands_31 (by decide) ?_
          exact J4 _ (by rw [if_neg c1, if_neg c2, if_pos c3])
  · exact rZ C hr dX8_stands_35 (by subst hv5; unfold s_X8_stands; try rfl) (nb01 (by subst hv5; (repeat' split) <;> simp))
def s_X8_against (x : Nat → Nat → Int32) (vN : Nat) : Int32 := (if (x 22 (tn (x 38 vN))) < 0 then x 23 ((2 * (tn (x 38 vN))) + (tn (x 39 vN))) else x 22 (tn (x 38 vN)) : Int32)
set_option maxRecDepth 100000 in
set_option maxHeartbeats 4000000 in
theorem cM_against (l : Launch) (G : GG) (m0 : Nat) (x : Nat → Nat → Int32) (z : Nat → Int64) (hI : MI x) (vN : Nat) (hv : vN < nV x) : MR l G yX8_against cX8_against 3 (some .int) 0 [.ref m0, .int (nI vN)] (MWd G m0 x z) (some (.int (s_X8_against x vN))) := by
  refine MR.of RX8 rfl (by decide) (Nat.le_of_ble_eq_true rfl) ?_
  intro p_ e_ s_ m_ args_ below_ meth_ c_ ls hargs C hr hnm hW hl
  obtain ⟨⟨eP, bP⟩, ⟨eC, bC⟩, ⟨eG, bG⟩, ⟨eV, bV⟩, -, -⟩ := id hI
  have hl : lv_has ls 3 [(0, .ref m0), (1, .int (nI vN))] := hl
  refine lv_aload_n C.hx C.hb dX8_against_0 rfl (lv_at hl 0 rfl) ?_
  refine g_get (k := 38) (v := .ref (am m0 38)) C hW.1 rfl wu_X8 (by decide) wf_X8_112 rfl rfl dX8_against_1 ?_
  refine lv_iload_n C.hx C.hb dX8_against_4 rfl (lv_at hl 1 rfl) ?_
  refine g_iald (f := x 38) (k := vN) C (hW.2.1 38 rfl) rfl (show vN < 8000 by omega) (by decide) dX8_against_5 ?_
  have f1 := MI.vc hI (show vN < nV x by omega)
  have f1b : tn (x 38 vN) < nC x := f1.2
  refine lv_istore_n (lv' := [(2, .int (x 38 vN)), (0, .ref m0), (1, .int (nI vN))]) C.hx C.hb dX8_against_6 rfl hl (by decide) rfl (fun ls hl => ?_)
  refine lv_aload_n C.hx C.hb dX8_against_7 rfl (lv_at hl 1 rfl) ?_
  refine g_get (k := 22) (v := .ref (am m0 22)) C hW.1 rfl wu_X8 (by decide) wf_X8_71 rfl rfl dX8_against_8 ?_
  refine lv_iload_n C.hx C.hb dX8_against_11 rfl (lv_at hl 0 rfl) ?_
  refine g_iald (f := x 22) (k := (tn (x 38 vN))) C (hW.2.1 22 rfl) f1.1 (show (tn (x 38 vN)) < 400 by omega) (by decide) dX8_against_12 ?_
  refine W.joinI (P := fun jv => jv = (if (x 22 (tn (x 38 vN))) < 0 then x 23 ((2 * (tn (x 38 vN))) + (tn (x 39 vN))) else x 22 (tn (x 38 vN)) : Int32)) 40 ls [] (fun J4 => ?_) (fun v5 hv5 => ?_)
  · refine lv_if_lt (tgt := 25) C.hx C.hb dX8_against_13 (by decide) (fun c2 => ?_) (fun c2 => ?_)
    · refine lv_aload_n C.hx C.hb dX8_against_25 rfl (lv_at hl 1 rfl) ?_
      refine g_get (k := 23) (v := .ref (am m0 23)) C hW.1 rfl wu_X8 (by decide) wf_X8_74 rfl rfl dX8_against_26 ?_
      refine lv_iconst (v := 2) C.hx C.hb dX8_against_29 (by decide) ?_
      refine lv_iload_n C.hx C.hb dX8_against_30 rfl (lv_at hl 0 rfl) ?_
      refine lv_imul C.hx C.hb dX8_against_31 ?_
      refine lv_aload_n C.hx C.hb dX8_against_32 rfl (lv_at hl 1 rfl) ?_
      refine g_get (k := 39) (v := .ref (am m0 39)) C hW.1 rfl wu_X8 (by decide) wf_X8_115 rfl rfl dX8_against_33 ?_
      refine lv_iload_n C.hx C.hb dX8_against_36 rfl (lv_at hl 2 rfl) ?_
      refine g_iald (f := x 39) (k := vN) C (hW.2.1 39 rfl) rfl (show vN < 8000 by omega) (by decide) dX8_against_37 ?_
      have f3 := MI.vt hI (show vN < nV x by omega)
      have f3b : tn (x 39 vN) < 2 := f3.2
      refine lv_iadd C.hx C.hb dX8_against_38 ?_
      refine g_iald (f := x 23) (k := ((2 * (tn (x 38 vN))) + (tn (x 39 vN)))) C (hW.2.1 23 rfl) (nI_addE (nI_mulE (by decide) f1.1) f3.1) (show ((2 * (tn (x 38 vN))) + (tn (x 39 vN))) < 800 by omega) (by decide) dX8_against_39 ?_
      exact J4 _ (by rw [if_pos c2])
    · refine lv_aload_n C.hx C.hb dX8_against_16 rfl (lv_at hl 1 rfl) ?_
      refine g_get (k := 22) (v := .ref (am m0 22)) C hW.1 rfl wu_X8 (by decide) wf_X8_71 rfl rfl dX8_against_17 ?_
      refine lv_iload_n C.hx C.hb dX8_against_20 rfl (lv_at hl 0 rfl) ?_
      refine g_iald (f := x 22) (k := (tn (x 38 vN))) C (hW.2.1 22 rfl) f1.1 (show (tn (x 38 vN)) < 400 by omega) (by decide) dX8_against_21 ?_
      refine lv_goto (tgt := 40) C.hx C.hb dX8_against_22 (by decide) ?_
      exact J4 _ (by rw [if_neg c2])
  · exact rI C hr dX8_against_40 (by subst hv5; unfold s_X8_against; try rfl)
def s_X8_lateBy (x : Nat → Nat → Int32) (cN : Nat) : Int32 := (if (s_X8_isAsking x cN) = 0 then 0 else (if (((x 0 0) - (x 18 cN)) - (x 4 (tn (x 17 cN)))) ≤ 0 then 0 else ((x 0 0) - (x 18 cN)) - (x 4 (tn (x 17 cN))) : Int32) : Int32)
set_option maxRecDepth 100000 in
set_option maxHeartbeats 4000000 in
theorem cM_lateBy (l : Launch) (G : GG) (m0 : Nat) (x : Nat → Nat → Int32) (z : Nat → Int64) (hI : MI x) (cN : Nat) (hc : cN < nC x) : MR l G yX8_lateBy cX8_lateBy 3 (some .int) 1 [.ref m0, .int (nI cN)] (MWd G m0 x z) (some (.int (s_X8_lateBy x cN))) := by
  refine MR.of RX8 rfl (by decide) (Nat.le_of_ble_eq_true rfl) ?_
  intro p_ e_ s_ m_ args_ below_ meth_ c_ ls hargs C hr hnm hW hl
  obtain ⟨⟨eP, bP⟩, ⟨eC, bC⟩, ⟨eG, bG⟩, ⟨eV, bV⟩, -, -⟩ := id hI
  have hl : lv_has ls 3 [(0, .ref m0), (1, .int (nI cN))] := hl
  refine lv_aload_n C.hx C.hb dX8_lateBy_0 rfl (lv_at hl 0 rfl) ?_
  refine g_get (k := 0) (v := .int (x 0 0)) C hW.1 rfl wu_X8 (by decide) wf_X8_140 rfl rfl dX8_lateBy_1 ?_
  refine lv_aload_n C.hx C.hb dX8_lateBy_4 rfl (lv_at hl 0 rfl) ?_
  refine g_get (k := 18) (v := .ref (am m0 18)) C hW.1 rfl wu_X8 (by decide) wf_X8_59 rfl rfl dX8_lateBy_5 ?_
  refine lv_iload_n C.hx C.hb dX8_lateBy_8 rfl (lv_at hl 1 rfl) ?_
  refine g_iald (f := x 18) (k := cN) C (hW.2.1 18 rfl) rfl (show cN < 400 by omega) (by decide) dX8_lateBy_9 ?_
  refine lv_isub C.hx C.hb dX8_lateBy_10 ?_
  refine lv_aload_n C.hx C.hb dX8_lateBy_11 rfl (lv_at hl 0 rfl) ?_
  refine g_get (k := 4) (v := .ref (am m0 4)) C hW.1 rfl wu_X8 (by decide) wf_X8_19 rfl rfl dX8_lateBy_12 ?_
  refine lv_aload_n C.hx C.hb dX8_lateBy_15 rfl (lv_at hl 0 rfl) ?_
  refine g_get (k := 17) (v := .ref (am m0 17)) C hW.1 rfl wu_X8 (by decide) wf_X8_56 rfl rfl dX8_lateBy_16 ?_
  refine lv_iload_n C.hx C.hb dX8_lateBy_19 rfl (lv_at hl 1 rfl) ?_
  refine g_iald (f := x 17) (k := cN) C (hW.2.1 17 rfl) rfl (show cN < 400 by omega) (by decide) dX8_lateBy_20 ?_
  have f1 := MI.cg hI (show cN < nC x by omega)
  have f1b : tn (x 17 cN) < 3 := f1.2
  refine g_iald (f := x 4) (k := (tn (x 17 cN))) C (hW.2.1 4 rfl) f1.1 (show (tn (x 17 cN)) < 3 by omega) (by decide) dX8_lateBy_21 ?_
  refine lv_isub C.hx C.hb dX8_lateBy_22 ?_
  refine lv_istore_n (lv' := [(2, .int (((x 0 0) - (x 18 cN)) - (x 4 (tn (x 17 cN))))), (0, .ref m0), (1, .int (nI cN))]) C.hx C.hb dX8_lateBy_23 rfl hl (by decide) rfl (fun ls hl => ?_)
  refine lv_aload_n C.hx C.hb dX8_lateBy_24 rfl (lv_at hl 1 rfl) ?_
  refine lv_iload_n C.hx C.hb dX8_lateBy_25 rfl (lv_at hl 2 rfl) ?_
  refine kVR (As := [.int (nI cN)]) (rest := []) (v := .int (s_X8_isAsking x cN)) C (cM_isAsking l G m0 x z hI cN (by omega)) lk_X8_167 (g_recv C hW.1 rfl) hW rfl rfl hl (Nat.le_of_ble_eq_true rfl) dX8_lateBy_26 ⟨⟨by decide, by decide⟩, by decide, by decide⟩ ?_
  refine W.joinI (P := fun jv => jv = (if (s_X8_isAsking x cN) = 0 then 0 else (if (((x 0 0) - (x 18 cN)) - (x 4 (tn (x 17 cN)))) ≤ 0 then 0 else ((x 0 0) - (x 18 cN)) - (x 4 (tn (x 17 cN))) : Int32) : Int32)) 41 ls [] (fun J4 => ?_) (fun v5 hv5 => ?_)
  · refine lv_if_eq (tgt := 40) C.hx C.hb dX8_lateBy_29 (by decide) (fun c2 => ?_) (fun c2 => ?_)
    · refine lv_iconst (v := 0) C.hx C.hb dX8_lateBy_40 (by decide) ?_
      exact J4 _ (by rw [if_pos c2])
    · refine lv_iload_n C.hx C.hb dX8_lateBy_32 rfl (lv_at hl 0 rfl) ?_
      refine lv_if_le (tgt := 40) C.hx C.hb dX8_lateBy_33 (by decide) (fun c3 => ?_) (fun c3 => ?_)
      · refine lv_iconst (v := 0) C.hx C.hb dX8_lateBy_40 (by decide) ?_
        exact J4 _ (by rw [if_neg c2, if_pos c3])
      · refine lv_iload_n C.hx C.hb dX8_lateBy_36 rfl (lv_at hl 0 rfl) ?_
        refine lv_goto (tgt := 41) C.hx C.hb dX8_lateBy_37 (by decide) ?_
        exact J4 _ (by rw [if_neg c2, if_neg c3])
  · exact rI C hr dX8_lateBy_41 (by subst hv5; unfold s_X8_lateBy; try rfl)
end
section
def f_X8_votesOf_4_2 (x : Nat → Nat → Int32) (cN : Nat) : Nat → Int32 → Int32 := fun i1 a => (a) + (if (x 38 i1) = (nI cN) then (if (x 39 i1) = (s_X8_timeOf x cN) then 1 else 0 : Int32) else 0 : Int32)
def s_X8_votesOf (x : Nat → Nat → Int32) (cN : Nat) : Int32 := itr (f_X8_votesOf_4_2 x cN) 0 (nV x)
set_option maxRecDepth 100000 in
set_option maxHeartbeats 4000000 in
theorem cM_votesOf (l : Launch) (G : GG) (m0 : Nat) (x : Nat → Nat → Int32) (z : Nat → Int64) (hI : MI x) (cN : Nat) (hc : cN < nC x) : MR l G yX8_votesOf cX8_votesOf 4 (some .int) 1 [.ref m0, .int (nI cN)] (MWd G m0 x z) (some (.int (s_X8_votesOf x cN))) := by
  refine MR.of RX8 rfl (by decide) (Nat.le_of_ble_eq_true rfl) ?_
  intro p_ e_ s_ m_ args_ below_ meth_ c_ ls hargs C hr hnm hW hl
  obtain ⟨⟨eP, bP⟩, ⟨eC, bC⟩, ⟨eG, bG⟩, ⟨eV, bV⟩, -, -⟩ := id hI
  have hl : lv_has ls 4 [(0, .ref m0), (1, .int (nI cN))] := hl
  refine lv_iconst (v := 0) C.hx C.hb dX8_votesOf_0 (by decide) ?_
  refine lv_istore_n (lv' := [(2, .int 0), (0, .ref m0), (1, .int (nI cN))]) C.hx C.hb dX8_votesOf_1 rfl hl (by decide) rfl (fun ls hl => ?_)
  refine lv_iconst (v := 0) C.hx C.hb dX8_votesOf_2 (by decide) ?_
  refine lv_istore_n (lv' := [(3, .int 0), (2, .int 0), (0, .ref m0), (1, .int (nI cN))]) C.hx C.hb dX8_votesOf_3 rfl hl (by decide) rfl (fun ls hl => ?_)
  refine W.loopR (N := nV x) (Inv := fun i ls => lv_has ls 4 [(3, .int (nI i)), (2, .int (itr (f_X8_votesOf_4_2 x cN) 0 i)), (0, .ref m0), (1, .int (nI cN))]) 4 [] (fun i1 ls hi1 hl K1 => ?_) (fun ls hl => ?_) 0 ls (Nat.zero_le _) (lv_sub hl [0, 1, 2, 3] rfl)
  · refine lv_iload_n C.hx C.hb dX8_votesOf_4 rfl (lv_at hl 0 rfl) ?_
    refine lv_aload_n C.hx C.hb dX8_votesOf_5 rfl (lv_at hl 2 rfl) ?_
    refine g_get (k := 42) (v := .int (x 42 0)) C hW.1 rfl wu_X8 (by decide) wf_X8_160 rfl rfl dX8_votesOf_6 ?_
    refine lv_icmp_ge (tgt := 50) C.hx C.hb dX8_votesOf_9 (by decide) (fun c1 => ?_) (fun c1 => ?_)
    · exact absurd c1 (lt_nle eV hi1 (by omega))
    · refine lv_iload_n C.hx C.hb dX8_votesOf_12 rfl (lv_at hl 1 rfl) ?_
      refine lv_aload_n C.hx C.hb dX8_votesOf_13 rfl (lv_at hl 2 rfl) ?_
      refine g_get (k := 38) (v := .ref (am m0 38)) C hW.1 rfl wu_X8 (by decide) wf_X8_112 rfl rfl dX8_votesOf_14 ?_
      refine lv_iload_n C.hx C.hb dX8_votesOf_17 rfl (lv_at hl 0 rfl) ?_
      refine g_iald (f := x 38) (k := i1) C (hW.2.1 38 rfl) rfl (show i1 < 8000 by omega) (by decide) dX8_votesOf_18 ?_
      have f2 := MI.vc hI (show i1 < nV x by omega)
      have f2b : tn (x 38 i1) < nC x := f2.2
      refine lv_iload_n C.hx C.hb dX8_votesOf_19 rfl (lv_at hl 3 rfl) ?_
      refine W.joinI (P := fun jv => jv = (if (x 38 i1) = (nI cN) then (if (x 39 i1) = (s_X8_timeOf x cN) then 1 else 0 : Int32) else 0 : Int32)) 42 ls [.int (itr (f_X8_votesOf_4_2 x cN) 0 i1)] (fun J6 => ?_) (fun v7 hv7 => ?_)
      · refine lv_icmp_ne (tgt := 41) C.hx C.hb dX8_votesOf_20 (by decide) (fun c3 => ?_) (fun c3 => ?_)
        · refine lv_iconst (v := 0) C.hx C.hb dX8_votesOf_41 (by decide) ?_
          exact J6 _ (by rw [if_neg c3])
        · refine lv_aload_n C.hx C.hb dX8_votesOf_23 rfl (lv_at hl 2 rfl) ?_
          refine g_get (k := 39) (v := .ref (am m0 39)) C hW.1 rfl wu_X8 (by decide) wf_X8_115 rfl rfl dX8_votesOf_24 ?_
          refine lv_iload_n C.hx C.hb dX8_votesOf_27 rfl (lv_at hl 0 rfl) ?_
          refine g_iald (f := x 39) (k := i1) C (hW.2.1 39 rfl) rfl (show i1 < 8000 by omega) (by decide) dX8_votesOf_28 ?_
          have f4 := MI.vt hI (show i1 < nV x by omega)
          have f4b : tn (x 39 i1) < 2 := f4.2
          refine lv_aload_n C.hx C.hb dX8_votesOf_29 rfl (lv_at hl 2 rfl) ?_
          refine lv_iload_n C.hx C.hb dX8_votesOf_30 rfl (lv_at hl 3 rfl) ?_
          refine kVR (As := [.int (nI cN)]) (rest := [.int (x 39 i1), .int (itr (f_X8_votesOf_4_2 x cN) 0 i1)]) (v := .int (s_X8_timeOf x cN)) C (cM_timeOf l G m0 x z hI cN (by omega)) lk_X8_163 (g_recv C hW.1 rfl) hW rfl rfl hl (Nat.le_of_ble_eq_true rfl) dX8_votesOf_31 ⟨⟨by decide, by decide⟩, by decide, by decide⟩ ?_
          refine lv_icmp_ne (tgt := 41) C.hx C.hb dX8_votesOf_34 (by decide) (fun c5 => ?_) (fun c5 => ?_)
          · refine lv_iconst (v := 0) C.hx C.hb dX8_votesOf_41 (by decide) ?_
            exact J6 _ (by rw [if_pos c3, if_neg c5])
          · refine lv_iconst (v := 1) C.hx C.hb dX8_votesOf_37 (by decide) ?_
            refine lv_goto (tgt := 42) C.hx C.hb dX8_votesOf_38 (by decide) ?_
            exact J6 _ (by rw [if_pos c3, if_pos c5])
      · refine lv_iadd C.hx C.hb dX8_votesOf_42 ?_
        refine lv_istore_n (lv' := [(2, .int ((itr (f_X8_votesOf_4_2 x cN) 0 i1) + v7)), (3, .int (nI i1)), (0, .ref m0), (1, .int (nI cN))]) C.hx C.hb dX8_votesOf_43 rfl hl (by decide) rfl (fun ls hl => ?_)
        refine lv_iinc (v := (nI i1) + 1) (lv' := [(3, .int ((nI i1) + 1)), (2, .int ((itr (f_X8_votesOf_4_2 x cN) 0 i1) + v7)), (0, .ref m0), (1, .int (nI cN))]) C.hx C.hb dX8_votesOf_44 hl (k := 1) rfl rfl (by decide) rfl (fun ls hl => ?_)
        refine lv_goto (tgt := 4) C.hx C.hb dX8_votesOf_47 (by decide) ?_
        subst hv7
        rw [nI_1 i1] at hl
        exact K1 _ (lv_sub hl [0, 1, 2, 3] rfl)
  · refine lv_iload_n C.hx C.hb dX8_votesOf_4 rfl (lv_at hl 0 rfl) ?_
    refine lv_aload_n C.hx C.hb dX8_votesOf_5 rfl (lv_at hl 2 rfl) ?_
    refine g_get (k := 42) (v := .int (x 42 0)) C hW.1 rfl wu_X8 (by decide) wf_X8_160 rfl rfl dX8_votesOf_6 ?_
    refine lv_icmp_ge (tgt := 50) C.hx C.hb dX8_votesOf_9 (by decide) (fun c8 => ?_) (fun c8 => ?_)
    · refine lv_iload_n C.hx C.hb dX8_votesOf_50 rfl (lv_at hl 1 rfl) ?_
      exact rI C hr dX8_votesOf_51 (by unfold s_X8_votesOf; try rfl)
    · exact absurd (le_eqn eV) c8
def f_X8_giftsOf_5_3 (x : Nat → Nat → Int32) (j : Int32) (c : Int32) : Nat → Int32 → Int32 := fun i1 a => (a) + (if j < 0 then (if c < 0 then 1 else (if (x 35 i1) = c then 1 else 0 : Int32) : Int32) else (if (x 34 i1) = j then (if c < 0 then 1 else (if (x 35 i1) = c then 1 else 0 : Int32) : Int32) else 0 : Int32) : Int32)
def s_X8_giftsOf (x : Nat → Nat → Int32) (j : Int32) (c : Int32) : Int32 := itr (f_X8_giftsOf_5_3 x j c) 0 (nG x)
set_option maxRecDepth 100000 in
set_option maxHeartbeats 4000000 in
theorem cM_giftsOf (l : Launch) (G : GG) (m0 : Nat) (x : Nat → Nat → Int32) (z : Nat → Int64) (hI : MI x) (j : Int32) (c : Int32) : MR l G yX8_giftsOf cX8_giftsOf 5 (some .int) 0 [.ref m0, .int j, .int c] (MWd G m0 x z) (some (.int (s_X8_giftsOf x j c))) := by
  refine MR.of RX8 rfl (by decide) (Nat.le_of_ble_eq_true rfl) ?_
  intro p_ e_ s_ m_ args_ below_ meth_ c_ ls hargs C hr hnm hW hl
  obtain ⟨⟨eP, bP⟩, ⟨eC, bC⟩, ⟨eG, bG⟩, ⟨eV, bV⟩, -, -⟩ := id hI
  have hl : lv_has ls 5 [(0, .ref m0), (1, .int j), (2, .int c)] := hl
  refine lv_iconst (v := 0) C.hx C.hb dX8_giftsOf_0 (by decide) ?_
  refine lv_istore_n (lv' := [(3, .int 0), (0, .ref m0), (1, .int j), (2, .int c)]) C.hx C.hb dX8_giftsOf_1 rfl hl (by decide) rfl (fun ls hl => ?_)
  refine lv_iconst (v := 0) C.hx C.hb dX8_giftsOf_2 (by decide) ?_
  refine lv_istore (lv' := [(4, .int 0), (3, .int 0), (0, .ref m0), (1, .int j), (2, .int c)]) C.hx C.hb dX8_giftsOf_3 hl (by decide) rfl (fun ls hl => ?_)
  refine W.loopR (N := nG x) (Inv := fun i ls => lv_has ls 5 [(4, .int (nI i)), (3, .int (itr (f_X8_giftsOf_5_3 x j c) 0 i)), (0, .ref m0), (1, .int j), (2, .int c)]) 5 [] (fun i1 ls hi1 hl K1 => ?_) (fun ls hl => ?_) 0 ls (Nat.zero_le _) (lv_sub hl [0, 1, 2, 3, 4] rfl)
  · refine lv_iload C.hx C.hb dX8_giftsOf_5 (lv_at hl 0 rfl) ?_
    refine lv_aload_n C.hx C.hb dX8_giftsOf_7 rfl (lv_at hl 2 rfl) ?_
    refine g_get (k := 36) (v := .int (x 36 0)) C hW.1 rfl wu_X8 (by decide) wf_X8_153 rfl rfl dX8_giftsOf_8 ?_
    refine lv_icmp_ge (tgt := 58) C.hx C.hb dX8_giftsOf_11 (by decide) (fun c1 => ?_) (fun c1 => ?_)
    · exact absurd c1 (lt_nle eG hi1 (by omega))
    · refine lv_iload_n C.hx C.hb dX8_giftsOf_14 rfl (lv_at hl 1 rfl) ?_
      refine lv_iload_n C.hx C.hb dX8_giftsOf_15 rfl (lv_at hl 3 rfl) ?_
      refine W.joinI (P := fun jv => jv = (if j < 0 then (if c < 0 then 1 else (if (x 35 i1) = c then 1 else 0 : Int32) : Int32) else (if (x 34 i1) = j then (if c < 0 then 1 else (if (x 35 i1) = c then 1 else 0 : Int32) : Int32) else 0 : Int32) : Int32)) 50 ls [.int (itr (f_X8_giftsOf_5_3 x j c) 0 i1)] (fun J8 => ?_) (fun v9 hv9 => ?_)
      · refine lv_if_lt (tgt := 30) C.hx C.hb dX8_giftsOf_16 (by decide) (fun c2 => ?_) (fun c2 => ?_)
        · refine lv_iload_n C.hx C.hb dX8_giftsOf_30 rfl (lv_at hl 4 rfl) ?_
          refine lv_if_lt (tgt := 45) C.hx C.hb dX8_giftsOf_31 (by decide) (fun c3 => ?_) (fun c3 => ?_)
          · refine lv_iconst (v := 1) C.hx C.hb dX8_giftsOf_45 (by decide) ?_
            refine lv_goto (tgt := 50) C.hx C.hb dX8_giftsOf_46 (by decide) ?_
            exact J8 _ (by rw [if_pos c2, if_pos c3])
          · refine lv_aload_n C.hx C.hb dX8_giftsOf_34 rfl (lv_at hl 2 rfl) ?_
            refine g_get (k := 35) (v := .ref (am m0 35)) C hW.1 rfl wu_X8 (by decide) wf_X8_106 rfl rfl dX8_giftsOf_35 ?_
            refine lv_iload C.hx C.hb dX8_giftsOf_38 (lv_at hl 0 rfl) ?_
            refine g_iald (f := x 35) (k := i1) C (hW.2.1 35 rfl) rfl (show i1 < 400 by omega) (by decide) dX8_giftsOf_40 ?_
            refine lv_iload_n C.hx C.hb dX8_giftsOf_41 rfl (lv_at hl 4 rfl) ?_
            refine lv_icmp_ne (tgt := 49) C.hx C.hb dX8_giftsOf_42 (by decide) (fun c4 => ?_) (fun c4 => ?_)
            · refine lv_iconst (v := 0) C.hx C.hb dX8_giftsOf_49 (by decide) ?_
              exact J8 _ (by rw [if_pos c2, if_neg c3, if_neg c4])
            · refine lv_iconst (v := 1) C.hx C.hb dX8_giftsOf_45 (by decide) ?_
              refine lv_goto (tgt := 50) C.hx C.hb dX8_giftsOf_46 (by decide) ?_
              exact J8 _ (by rw [if_pos c2, if_neg c3, if_pos c4])
        · refine lv_aload_n C.hx C.hb dX8_giftsOf_19 rfl (lv_at hl 2 rfl) ?_
          refine g_get (k := 34) (v := .ref (am m0 34)) C hW.1 rfl wu_X8 (by decide) wf_X8_103 rfl rfl dX8_giftsOf_20 ?_
          refine lv_iload C.hx C.hb dX8_giftsOf_23 (lv_at hl 0 rfl) ?_
          refine g_iald (f := x 34) (k := i1) C (hW.2.1 34 rfl) rfl (show i1 < 400 by omega) (by decide) dX8_giftsOf_25 ?_
          refine lv_iload_n C.hx C.hb dX8_giftsOf_26 rfl (lv_at hl 3 rfl) ?_
          refine lv_icmp_ne (tgt := 49) C.hx C.hb dX8_giftsOf_27 (by decide) (fun c5 => ?_) (fun c5 => ?_)
          · refine lv_iconst (v := 0) C.hx C.hb dX8_giftsOf_49 (by decide) ?_
            exact J8 _ (by rw [if_neg c2, if_neg c5])
          · refine lv_iload_n C.hx C.hb dX8_giftsOf_30 rfl (lv_at hl 4 rfl) ?_
            refine lv_if_lt (tgt := 45) C.hx C.hb dX8_giftsOf_31 (by decide) (fun c6 => ?_) (fun c6 => ?_)
            · refine lv_iconst (v := 1) C.hx C.hb dX8_giftsOf_45 (by decide) ?_
              refine lv_goto (tgt := 50) C.hx C.hb dX8_giftsOf_46 (by decide) ?_
              exact J8 _ (by rw [if_neg c2, if_pos c5, if_pos c6])
            · refine lv_aload_n C.hx C.hb dX8_giftsOf_34 rfl (lv_at hl 2 rfl) ?_
              refine g_get (k := 35) (v := .ref (am m0 35)) C hW.1 rfl wu_X8 (by decide) wf_X8_106 rfl rfl dX8_giftsOf_35 ?_
              refine lv_iload C.hx C.hb dX8_giftsOf_38 (lv_at hl 0 rfl) ?_
              refine g_iald (f := x 35) (k := i1) C (hW.2.1 35 rfl) rfl (show i1 < 400 by omega) (by decide) dX8_giftsOf_40 ?_
              refine lv_iload_n C.hx C.hb dX8_giftsOf_41 rfl (lv_at hl 4 rfl) ?_
              refine lv_icmp_ne (tgt := 49) C.hx C.hb dX8_giftsOf_42 (by decide) (fun c7 => ?_) (fun c7 => ?_)
              · refine lv_iconst (v := 0) C.hx C.hb dX8_giftsOf_49 (by decide) ?_
                exact J8 _ (by rw [if_neg c2, if_pos c5, if_neg c6, if_neg c7])
              · refine lv_iconst (v := 1) C.hx C.hb dX8_giftsOf_45 (by decide) ?_
                refine lv_goto (tgt := 50) C.hx C.hb dX8_giftsOf_46 (by decide) ?_
                exact J8 _ (by rw [if_neg c2, if_pos c5, if_neg c6, if_pos c7])
      · refine lv_iadd C.hx C.hb dX8_giftsOf_50 ?_
        refine lv_istore_n (lv' := [(3, .int ((itr (f_X8_giftsOf_5_3 x j c) 0 i1) + v9)), (4, .int (nI i1)), (0, .ref m0), (1, .int j), (2, .int c)]) C.hx C.hb dX8_giftsOf_51 rfl hl (by decide) rfl (fun ls hl => ?_)
        refine lv_iinc (v := (nI i1) + 1) (lv' := [(4, .int ((nI i1) + 1)), (3, .int ((itr (f_X8_giftsOf_5_3 x j c) 0 i1) + v9)), (0, .ref m0), (1, .int j), (2, .int c)]) C.hx C.hb dX8_giftsOf_52 hl (k := 1) rfl rfl (by decide) rfl (fun ls hl => ?_)
        refine lv_goto (tgt := 5) C.hx C.hb dX8_giftsOf_55 (by decide) ?_
        subst hv9
        rw [nI_1 i1] at hl
        exact K1 _ (lv_sub hl [0, 1, 2, 3, 4] rfl)
  · refine lv_iload C.hx C.hb dX8_giftsOf_5 (lv_at hl 0 rfl) ?_
    refine lv_aload_n C.hx C.hb dX8_giftsOf_7 rfl (lv_at hl 2 rfl) ?_
    refine g_get (k := 36) (v := .int (x 36 0)) C hW.1 rfl wu_X8 (by decide) wf_X8_153 rfl rfl dX8_giftsOf_8 ?_
    refine lv_icmp_ge (tgt := 58) C.hx C.hb dX8_giftsOf_11 (by decide) (fun c10 => ?_) (fun c10 => ?_)
    · refine lv_iload_n C.hx C.hb dX8_giftsOf_58 rfl (lv_at hl 1 rfl) ?_
      exact rI C hr dX8_giftsOf_59 (by unfold s_X8_giftsOf; try rfl)
    · exact absurd (le_eqn eG) c10
def f_X8_doubt_5_3 (x : Nat → Nat → Int32) (j : Int32) (alone : Int32) : Nat → Int32 → Int32 := fun i1 a => (a) + (if (x 37 i1) = j then (if (s_X8_against x i1) < 0 then 0 else (if alone = 0 then 1 else (if (x 40 i1) = (s_X8_against x i1) then 0 else 1 : Int32) : Int32) : Int32) else 0 : Int32)
def s_X8_doubt (x : Nat → Nat → Int32) (j : Int32) (alone : Int32) : Int32 := itr (f_X8_doubt_5_3 x j alone) 0 (nV x)
set_option maxRecDepth 100000 in
set_option maxHeartbeats 4000000 in
theorem cM_doubt (l : Launch) (G : GG) (m0 : Nat) (x : Nat → Nat → Int32) (z : Nat → Int64) (hI : MI x) (j : Int32) (alone : Int32) : MR l G yX8_doubt cX8_doubt 6 (some .int) 1 [.ref m0, .int j, .int alone] (MWd G m0 x z) (some (.int (s_X8_doubt x j alone))) := by
  refine MR.of RX8 rfl (by decide) (Nat.le_of_ble_eq_true rfl) ?_
  intro p_ e_ s_ m_ args_ below_ meth_ c_ ls hargs C hr hnm hW hl
  obtain ⟨⟨eP, bP⟩, ⟨eC, bC⟩, ⟨eG, bG⟩, ⟨eV, bV⟩, -, -⟩ := id hI
  have hl : lv_has ls 6 [(0, .ref m0), (1, .int j), (2, .int alone)] := hl
  refine lv_iconst (v := 0) C.hx C.hb dX8_doubt_0 (by decide) ?_
  refine lv_istore_n (lv' := [(3, .int 0), (0, .ref m0), (1, .int j), (2, .int alone)]) C.hx C.hb dX8_doubt_1 rfl hl (by decide) rfl (fun ls hl => ?_)
  refine lv_iconst (v := 0) C.hx C.hb dX8_doubt_2 (by decide) ?_
  refine lv_istore (lv' := [(4, .int 0), (3, .int 0), (0, .ref m0), (1, .int j), (2, .int alone)]) C.hx C.hb dX8_doubt_3 hl (by decide) rfl (fun ls hl => ?_)
  refine W.loopR (N := nV x) (Inv := fun i ls => lv_has ls 6 [(4, .int (nI i)), (3, .int (itr (f_X8_doubt_5_3 x j alone) 0 i)), (0, .ref m0), (1, .int j), (2, .int alone)]) 5 [] (fun i1 ls hi1 hl K1 => ?_) (fun ls hl => ?_) 0 ls (Nat.zero_le _) (lv_sub hl [0, 1, 2, 3, 4] rfl)
  · refine lv_iload C.hx C.hb dX8_doubt_5 (lv_at hl 0 rfl) ?_
    refine lv_aload_n C.hx C.hb dX8_doubt_7 rfl (lv_at hl 2 rfl) ?_
    refine g_get (k := 42) (v := .int (x 42 0)) C hW.1 rfl wu_X8 (by decide) wf_X8_160 rfl rfl dX8_doubt_8 ?_
    refine lv_icmp_ge (tgt := 68) C.hx C.hb dX8_doubt_11 (by decide) (fun c1 => ?_) (fun c1 => ?_)
    · exact absurd c1 (lt_nle eV hi1 (by omega))
    · refine lv_aload_n C.hx C.hb dX8_doubt_14 rfl (lv_at hl 2 rfl) ?_
      refine lv_iload C.hx C.hb dX8_doubt_15 (lv_at hl 0 rfl) ?_
      refine kVR (As := [.int (nI i1)]) (rest := []) (v := .int (s_X8_against x i1)) C (cM_against l G m0 x z hI i1 (by omega)) lk_X8_187 (g_recv C hW.1 rfl) hW rfl rfl hl (Nat.le_of_ble_eq_true rfl) dX8_doubt_17 ⟨⟨by decide, by decide⟩, by decide, by decide⟩ ?_
      refine lv_istore (lv' := [(5, .int (s_X8_against x i1)), (4, .int (nI i1)), (3, .int (itr (f_X8_doubt_5_3 x j alone) 0 i1)), (0, .ref m0), (1, .int j), (2, .int alone)]) C.hx C.hb dX8_doubt_20 hl (by decide) rfl (fun ls hl => ?_)
      refine lv_iload_n C.hx C.hb dX8_doubt_22 rfl (lv_at hl 2 rfl) ?_
      refine lv_aload_n C.hx C.hb dX8_doubt_23 rfl (lv_at hl 3 rfl) ?_
      refine g_get (k := 37) (v := .ref (am m0 37)) C hW.1 rfl wu_X8 (by decide) wf_X8_109 rfl rfl dX8_doubt_24 ?_
      refine lv_iload C.hx C.hb dX8_doubt_27 (lv_at hl 1 rfl) ?_
      refine g_iald (f := x 37) (k := i1) C (hW.2.1 37 rfl) rfl (show i1 < 8000 by omega) (by decide) dX8_doubt_29 ?_
      refine lv_iload_n C.hx C.hb dX8_doubt_30 rfl (lv_at hl 4 rfl) ?_
      refine W.joinI (P := fun jv => jv = (if (x 37 i1) = j then (if (s_X8_against x i1) < 0 then 0 else (if alone = 0 then 1 else (if (x 40 i1) = (s_X8_against x i1) then 0 else 1 : Int32) : Int32) : Int32) else 0 : Int32)) 60 ls [.int (itr (f_X8_doubt_5_3 x j alone) 0 i1)] (fun J6 => ?_) (fun v7 hv7 => ?_)
      · refine lv_icmp_ne (tgt := 59) C.hx C.hb dX8_doubt_31 (by decide) (fun c2 => ?_) (fun c2 => ?_)
        · refine lv_iconst (v := 0) C.hx C.hb dX8_doubt_59 (by decide) ?_
          exact J6 _ (by rw [if_neg c2])
        · refine lv_iload C.hx C.hb dX8_doubt_34 (lv_at hl 0 rfl) ?_
          refine lv_if_lt (tgt := 59) C.hx C.hb dX8_doubt_36 (by decide) (fun c3 => ?_) (fun c3 => ?_)
          · refine lv_iconst (v := 0) C.hx C.hb dX8_doubt_59 (by decide) ?_
            exact J6 _ (by rw [if_pos c2, if_pos c3])
          · refine lv_iload_n C.hx C.hb dX8_doubt_39 rfl (lv_at hl 5 rfl) ?_
            refine lv_if_eq (tgt := 55) C.hx C.hb dX8_doubt_40 (by decide) (fun c4 => ?_) (fun c4 => ?_)
            · refine lv_iconst (v := 1) C.hx C.hb dX8_doubt_55 (by decide) ?_
              refine lv_goto (tgt := 60) C.hx C.hb dX8_doubt_56 (by decide) ?_
              exact J6 _ (by rw [if_pos c2, if_neg c3, if_pos c4])
            · refine lv_aload_n C.hx C.hb dX8_doubt_43 rfl (lv_at hl 3 rfl) ?_
              refine g_get (k := 40) (v := .ref (am m0 40)) C hW.1 rfl wu_X8 (by decide) wf_X8_118 rfl rfl dX8_doubt_44 ?_
              refine lv_iload C.hx C.hb dX8_doubt_47 (lv_at hl 1 rfl) ?_
              refine g_iald (f := x 40) (k := i1) C (hW.2.1 40 rfl) rfl (show i1 < 8000 by omega) (by decide) dX8_doubt_49 ?_
              refine lv_iload C.hx C.hb dX8_doubt_50 (lv_at hl 0 rfl) ?_
              refine lv_icmp_eq (tgt := 59) C.hx C.hb dX8_doubt_52 (by decide) (fun c5 => ?_) (fun c5 => ?_)
              · refine lv_iconst (v := 0) C.hx C.hb dX8_doubt_59 (by decide) ?_
                exact J6 _ (by rw [if_pos c2, if_neg c3, if_neg c4, if_pos c5])
              · refine lv_iconst (v := 1) C.hx C.hb dX8_doubt_55 (by decide) ?_
                refine lv_goto (tgt := 60) C.hx C.hb dX8_doubt_56 (by decide) ?_
                exact J6 _ (by rw [if_pos c2, if_neg c3, if_neg c4, if_neg c5])
      · refine lv_iadd C.hx C.hb dX8_doubt_60 ?_
        refine lv_istore_n (lv' := [(3, .int ((itr (f_X8_doubt_5_3 x j alone) 0 i1) + v7)), (5, .int (s_X8_against x i1)), (4, .int (nI i1)), (0, .ref m0), (1, .int j), (2, .int alone)]) C.hx C.hb dX8_doubt_61 rfl hl (by decide) rfl (fun ls hl => ?_)
        refine lv_iinc (v := (nI i1) + 1) (lv' := [(4, .int ((nI i1) + 1)), (3, .int ((itr (f_X8_doubt_5_3 x j alone) 0 i1) + v7)), (5, .int (s_X8_against x i1)), (0, .ref m0), (1, .int j), (2, .int alone)]) C.hx C.hb dX8_doubt_62 hl (k := 2) rfl rfl (by decide) rfl (fun ls hl => ?_)
        refine lv_goto (tgt := 5) C.hx C.hb dX8_doubt_65 (by decide) ?_
        subst hv7
        rw [nI_1 i1] at hl
        exact K1 _ (lv_sub hl [0, 1, 3, 4, 5] rfl)
  · refine lv_iload C.hx C.hb dX8_doubt_5 (lv_at hl 0 rfl) ?_
    refine lv_aload_n C.hx C.hb dX8_doubt_7 rfl (lv_at hl 2 rfl) ?_
    refine g_get (k := 42) (v := .int (x 42 0)) C hW.1 rfl wu_X8 (by decide) wf_X8_160 rfl rfl dX8_doubt_8 ?_
    refine lv_icmp_ge (tgt := 68) C.hx C.hb dX8_doubt_11 (by decide) (fun c8 => ?_) (fun c8 => ?_)
    · refine lv_iload_n C.hx C.hb dX8_doubt_68 rfl (lv_at hl 1 rfl) ?_
      exact rI C hr dX8_doubt_69 (by unfold s_X8_doubt; try rfl)
    · exact absurd (le_eqn eV) c8
theorem itr_01 {f : Nat → Int32 → Int32} {a : Int32} (h : ∀ i b, (b = 0 ∨ b = 1) → (f i b = 0 ∨ f i b = 1)) (h0 : a = 0 ∨ a = 1) : ∀ n, itr f a n = 0 ∨ itr f a n = 1
  | 0 => h0
  | n + 1 => h n _ (itr_01 h h0 n)
def f_X8_isHidden_4_2 (x : Nat → Nat → Int32) (pp : Int32) : Nat → Int32 → Int32 := fun i1 a => (if (a) = 0 then (if (x 13 i1) = pp then (if (s_X8_stands x i1) = 0 then 0 else 1 : Int32) else 0 : Int32) else 1 : Int32)
def s_X8_isHidden (x : Nat → Nat → Int32) (pp : Int32) : Int32 := itr (f_X8_isHidden_4_2 x pp) 0 (nC x)
set_option maxRecDepth 100000 in
set_option maxHeartbeats 4000000 in
theorem cM_isHidden (l : Launch) (G : GG) (m0 : Nat) (x : Nat → Nat → Int32) (z : Nat → Int64) (hI : MI x) (pp : Int32) : MR l G yX8_isHidden cX8_isHidden 4 (some .boolean) 1 [.ref m0, .int pp] (MWd G m0 x z) (some (.int (s_X8_isHidden x pp))) := by
  refine MR.of RX8 rfl (by decide) (Nat.le_of_ble_eq_true rfl) ?_
  intro p_ e_ s_ m_ args_ below_ meth_ c_ ls hargs C hr hnm hW hl
  obtain ⟨⟨eP, bP⟩, ⟨eC, bC⟩, ⟨eG, bG⟩, ⟨eV, bV⟩, -, -⟩ := id hI
  have hl : lv_has ls 4 [(0, .ref m0), (1, .int pp)] := hl
  refine lv_iconst (v := 0) C.hx C.hb dX8_isHidden_0 (by decide) ?_
  refine lv_istore_n (lv' := [(2, .int 0), (0, .ref m0), (1, .int pp)]) C.hx C.hb dX8_isHidden_1 rfl hl (by decide) rfl (fun ls hl => ?_)
  refine lv_iconst (v := 0) C.hx C.hb dX8_isHidden_2 (by decide) ?_
  refine lv_istore_n (lv' := [(3, .int 0), (2, .int 0), (0, .ref m0), (1, .int pp)]) C.hx C.hb dX8_isHidden_3 rfl hl (by decide) rfl (fun ls hl => ?_)
  refine W.loopR (N := nC x) (Inv := fun i ls => lv_has ls 4 [(3, .int (nI i)), (2, .int (itr (f_X8_isHidden_4_2 x pp) 0 i)), (0, .ref m0), (1, .int pp)]) 4 [] (fun i1 ls hi1 hl K1 => ?_) (fun ls hl => ?_) 0 ls (Nat.zero_le _) (lv_sub hl [0, 1, 2, 3] rfl)
  · refine lv_iload_n C.hx C.hb dX8_isHidden_4 rfl (lv_at hl 0 rfl) ?_
    refine lv_aload_n C.hx C.hb dX8_isHidden_5 rfl (lv_at hl 2 rfl) ?_
    refine g_get (k := 27) (v := .int (x 27 0)) C hW.1 rfl wu_X8 (by decide) wf_X8_133 rfl rfl dX8_isHidden_6 ?_
    refine lv_icmp_ge (tgt := 46) C.hx C.hb dX8_isHidden_9 (by decide) (fun c1 => ?_) (fun c1 => ?_)
    · exact absurd c1 (lt_nle eC hi1 (by omega))
    · refine lv_iload_n C.hx C.hb dX8_isHidden_12 rfl (lv_at hl 1 rfl) ?_
      refine W.joinI (P := fun jv => jv = (if (itr (f_X8_isHidden_4_2 x pp) 0 i1) = 0 then (if (x 13 i1) = pp then (if (s_X8_stands x i1) = 0 then 0 else 1 : Int32) else 0 : Int32) else 1 : Int32)) 39 ls [] (fun J6 => ?_) (fun v7 hv7 => ?_)
      · refine lv_if_ne (tgt := 34) C.hx C.hb dX8_isHidden_13 (by decide) (fun c2 => ?_) (fun c2 => ?_)
        · refine lv_iconst (v := 1) C.hx C.hb dX8_isHidden_34 (by decide) ?_
          refine lv_goto (tgt := 39) C.hx C.hb dX8_isHidden_35 (by decide) ?_
          exact J6 _ (by rw [if_neg c2])
        · refine lv_aload_n C.hx C.hb dX8_isHidden_16 rfl (lv_at hl 2 rfl) ?_
          refine g_get (k := 13) (v := .ref (am m0 13)) C hW.1 rfl wu_X8 (by decide) wf_X8_44 rfl rfl dX8_isHidden_17 ?_
          refine lv_iload_n C.hx C.hb dX8_isHidden_20 rfl (lv_at hl 0 rfl) ?_
          refine g_iald (f := x 13) (k := i1) C (hW.2.1 13 rfl) rfl (show i1 < 400 by omega) (by decide) dX8_isHidden_21 ?_
          have f3 := MI.po hI (show i1 < nC x by omega)
          have f3b : tn (x 13 i1) < nP x := f3.2
          refine lv_iload_n C.hx C.hb dX8_isHidden_22 rfl (lv_at hl 3 rfl) ?_
          refine lv_icmp_ne (tgt := 38) C.hx C.hb dX8_isHidden_23 (by decide) (fun c4 => ?_) (fun c4 => ?_)
          · refine lv_iconst (v := 0) C.hx C.hb dX8_isHidden_38 (by decide) ?_
            exact J6 _ (by rw [if_pos c2, if_neg c4])
          · refine lv_aload_n C.hx C.hb dX8_isHidden_26 rfl (lv_at hl 2 rfl) ?_
            refine lv_iload_n C.hx C.hb dX8_isHidden_27 rfl (lv_at hl 0 rfl) ?_
            refine kVR (As := [.int (nI i1)]) (rest := []) (v := .int (s_X8_stands x i1)) C (cM_stands l G m0 x z hI i1 (by omega)) lk_X8_213 (g_recv C hW.1 rfl) hW rfl rfl hl (Nat.le_of_ble_eq_true rfl) dX8_isHidden_28 ⟨⟨by decide, by decide⟩, by decide, by decide⟩ ?_
            refine lv_if_eq (tgt := 38) C.hx C.hb dX8_isHidden_31 (by decide) (fun c5 => ?_) (fun c5 => ?_)
            · refine lv_iconst (v := 0) C.hx C.hb dX8_isHidden_38 (by decide) ?_
              exact J6 _ (by rw [if_pos c2, if_pos c4, if_pos c5])
            · refine lv_iconst (v := 1) C.hx C.hb dX8_isHidden_34 (by decide) ?_
              refine lv_goto (tgt := 39) C.hx C.hb dX8_isHidden_35 (by decide) ?_
              exact J6 _ (by rw [if_pos c2, if_pos c4, if_neg c5])
      · refine lv_istore_n (lv' := [(2, .int v7), (3, .int (nI i1)), (0, .ref m0), (1, .int pp)]) C.hx C.hb dX8_isHidden_39 rfl hl (by decide) rfl (fun ls hl => ?_)
        refine lv_iinc (v := (nI i1) + 1) (lv' := [(3, .int ((nI i1) + 1)), (2, .int v7), (0, .ref m0), (1, .int pp)]) C.hx C.hb dX8_isHidden_40 hl (k := 1) rfl rfl (by decide) rfl (fun ls hl => ?_)
        refine lv_goto (tgt := 4) C.hx C.hb dX8_isHidden_43 (by decide) ?_
        subst hv7
        rw [nI_1 i1] at hl
        exact K1 _ (lv_sub hl [0, 1, 2, 3] rfl)
  · refine lv_iload_n C.hx C.hb dX8_isHidden_4 rfl (lv_at hl 0 rfl) ?_
    refine lv_aload_n C.hx C.hb dX8_isHidden_5 rfl (lv_at hl 2 rfl) ?_
    refine g_get (k := 27) (v := .int (x 27 0)) C hW.1 rfl wu_X8 (by decide) wf_X8_133 rfl rfl dX8_isHidden_6 ?_
    refine lv_icmp_ge (tgt := 46) C.hx C.hb dX8_isHidden_9 (by decide) (fun c8 => ?_) (fun c8 => ?_)
    · refine lv_iload_n C.hx C.hb dX8_isHidden_46 rfl (lv_at hl 1 rfl) ?_
      exact rZ C hr dX8_isHidden_47 (by unfold s_X8_isHidden; try rfl) (nb01 (itr_01 (fun i a h => by unfold f_X8_isHidden_4_2; (repeat' split) <;> simp) (Or.inl rfl) _))
    · exact absurd (le_eqn eC) c8
def f_X8_likeOnes_105_9 (x : Nat → Nat → Int32) (cN : Nat) (i1 : Nat) : Nat → Int32 → Int32 := fun i2 a => (a) + ((((x 11 (tn (x 13 cN))) ^^^ (x 11 (tn (x 13 i1)))) >>> ((nI i2) &&& 31)) &&& 1)
def f_X8_likeOnes_6_4 (x : Nat → Nat → Int32) (d : Int32) (as : Int32) (cN : Nat) : Nat → Int32 → Int32 := fun i1 a => (a) + (if (nI i1) = (nI cN) then 0 else (if (x 14 i1) = (x 14 cN) then (if (if 0 ≤ as then (if as = 1 then (if (x 15 i1) = 2 then 1 else (if (x 15 i1) = 5 then 1 else 0 : Int32) : Int32) else (if (x 15 i1) = 1 then 1 else (if (x 15 i1) = 4 then 1 else 0 : Int32) : Int32) : Int32) else (if (if (x 15 i1) = 2 then 1 else (if (x 15 i1) = 5 then 1 else 0 : Int32) : Int32) = 0 then (if (if (x 15 i1) = 1 then 1 else (if (x 15 i1) = 4 then 1 else 0 : Int32) : Int32) = 0 then 0 else 1 : Int32) else 1 : Int32) : Int32) = 0 then 0 else (if d < (itr (f_X8_likeOnes_105_9 x cN i1) 0 8) then 0 else 1 : Int32) : Int32) else 0 : Int32) : Int32)
def s_X8_likeOnes (x : Nat → Nat → Int32) (cN : Nat) (d : Int32) (as : Int32) : Int32 := itr (f_X8_likeOnes_6_4 x d as cN) 0 (nC x)
set_option maxRecDepth 100000 in
set_option maxHeartbeats 4000000 in
theorem cM_likeOnes (l : Launch) (G : GG) (m0 : Nat) (x : Nat → Nat → Int32) (z : Nat → Int64) (hI : MI x) (cN : Nat) (d : Int32) (as : Int32) (hc : cN < nC x) : MR l G yX8_likeOnes cX8_likeOnes 11 (some .int) 0 [.ref m0, .int (nI cN), .int d, .int as] (MWd G m0 x z) (some (.int (s_X8_likeOnes x cN d as))) := by
  refine MR.of RX8 rfl (by decide) (Nat.le_of_ble_eq_true rfl) ?_
  intro p_ e_ s_ m_ args_ below_ meth_ c_ ls hargs C hr hnm hW hl
  obtain ⟨⟨eP, bP⟩, ⟨eC, bC⟩, ⟨eG, bG⟩, ⟨eV, bV⟩, -, -⟩ := id hI
  have hl : lv_has ls 11 [(0, .ref m0), (1, .int (nI cN)), (2, .int d), (3, .int as)] := hl
  refine lv_iconst (v := 0) C.hx C.hb dX8_likeOnes_0 (by decide) ?_
  refine lv_istore (lv' := [(4, .int 0), (0, .ref m0), (1, .int (nI cN)), (2, .int d), (3, .int as)]) C.hx C.hb dX8_likeOnes_1 hl (by decide) rfl (fun ls hl => ?_)
  refine lv_iconst (v := 0) C.hx C.hb dX8_likeOnes_3 (by decide) ?_
  refine lv_istore (lv' := [(5, .int 0), (4, .int 0), (0, .ref m0), (1, .int (nI cN)), (2, .int d), (3, .int as)]) C.hx C.hb dX8_likeOnes_4 hl (by decide) rfl (fun ls hl => ?_)
  refine W.loopR (N := nC x) (Inv := fun i ls => lv_has ls 11 [(5, .int (nI i)), (4, .int (itr (f_X8_likeOnes_6_4 x d as cN) 0 i)), (0, .ref m0), (1, .int (nI cN)), (2, .int d), (3, .int as)]) 6 [] (fun i1 ls hi1 hl K1 => ?_) (fun ls hl => ?_) 0 ls (Nat.zero_le _) (lv_sub hl [0, 1, 2, 3, 4, 5] rfl)
  · refine lv_iload C.hx C.hb dX8_likeOnes_6 (lv_at hl 0 rfl) ?_
    refine lv_aload_n C.hx C.hb dX8_likeOnes_8 rfl (lv_at hl 2 rfl) ?_
    refine g_get (k := 27) (v := .int (x 27 0)) C hW.1 rfl wu_X8 (by decide) wf_X8_133 rfl rfl dX8_likeOnes_9 ?_
    refine lv_icmp_ge (tgt := 215) C.hx C.hb dX8_likeOnes_12 (by decide) (fun c1 => ?_) (fun c1 => ?_)
    · exact absurd c1 (lt_nle eC hi1 (by omega))
    · refine lv_aload_n C.hx C.hb dX8_likeOnes_15 rfl (lv_at hl 2 rfl) ?_
      refine g_get (k := 15) (v := .ref (am m0 15)) C hW.1 rfl wu_X8 (by decide) wf_X8_50 rfl rfl dX8_likeOnes_16 ?_
      refine lv_iload C.hx C.hb dX8_likeOnes_19 (lv_at hl 0 rfl) ?_
      refine g_iald (f := x 15) (k := i1) C (hW.2.1 15 rfl) rfl (show i1 < 400 by omega) (by decide) dX8_likeOnes_21 ?_
      refine lv_iconst (v := 2) C.hx C.hb dX8_likeOnes_22 (by decide) ?_
      refine W.joinI (P := fun jv => jv = (if (x 15 i1) = 2 then 1 else (if (x 15 i1) = 5 then 1 else 0 : Int32) : Int32)) 42 ls [] (fun J4 => ?_) (fun v5 hv5 => ?_)
      · refine lv_icmp_eq (tgt := 37) C.hx C.hb dX8_likeOnes_23 (by decide) (fun c2 => ?_) (fun c2 => ?_)
        · refine lv_iconst (v := 1) C.hx C.hb dX8_likeOnes_37 (by decide) ?_
          refine lv_goto (tgt := 42) C.hx C.hb dX8_likeOnes_38 (by decide) ?_
          exact J4 _ (by rw [if_pos c2])
        · refine lv_aload_n C.hx C.hb dX8_likeOnes_26 rfl (lv_at hl 2 rfl) ?_
          refine g_get (k := 15) (v := .ref (am m0 15)) C hW.1 rfl wu_X8 (by decide) wf_X8_50 rfl rfl dX8_likeOnes_27 ?_
          refine lv_iload C.hx C.hb dX8_likeOnes_30 (lv_at hl 0 rfl) ?_
          refine g_iald (f := x 15) (k := i1) C (hW.2.1 15 rfl) rfl (show i1 < 400 by omega) (by decide) dX8_likeOnes_32 ?_
          refine lv_iconst (v := 5) C.hx C.hb dX8_likeOnes_33 (by decide) ?_
          refine lv_icmp_ne (tgt := 41) C.hx C.hb dX8_likeOnes_34 (by decide) (fun c3 => ?_) (fun c3 => ?_)
          · refine lv_iconst (v := 0) C.hx C.hb dX8_likeOnes_41 (by decide) ?_
            exact J4 _ (by rw [if_neg c2, if_neg c3])
          · refine lv_iconst (v := 1) C.hx C.hb dX8_likeOnes_37 (by decide) ?_
            refine lv_goto (tgt := 42) C.hx C.hb dX8_likeOnes_38 (by decide) ?_
            exact J4 _ (by rw [if_neg c2, if_pos c3])
      · refine lv_istore (lv' := [(6, .int v5), (5, .int (nI i1)), (4, .int (itr (f_X8_likeOnes_6_4 x d as cN) 0 i1)), (0, .ref m0), (1, .int (nI cN)), (2, .int d), (3, .int as)]) C.hx C.hb dX8_likeOnes_42 hl (by decide) rfl (fun ls hl => ?_)
        refine lv_aload_n C.hx C.hb dX8_likeOnes_44 rfl (lv_at hl 3 rfl) ?_
        refine g_get (k := 15) (v := .ref (am m0 15)) C hW.1 rfl wu_X8 (by decide) wf_X8_50 rfl rfl dX8_likeOnes_45 ?_
        refine lv_iload C.hx C.hb dX8_likeOnes_48 (lv_at hl 1 rfl) ?_
        refine g_iald (f := x 15) (k := i1) C (hW.2.1 15 rfl) rfl (show i1 < 400 by omega) (by decide) dX8_likeOnes_50 ?_
        refine lv_iconst (v := 1) C.hx C.hb dX8_likeOnes_51 (by decide) ?_
        refine W.joinI (P := fun jv => jv = (if (x 15 i1) = 1 then 1 else (if (x 15 i1) = 4 then 1 else 0 : Int32) : Int32)) 71 ls [] (fun J8 => ?_) (fun v9 hv9 => ?_)
        · refine lv_icmp_eq (tgt := 66) C.hx C.hb dX8_likeOnes_52 (by decide) (fun c6 => ?_) (fun c6 => ?_)
          · refine lv_iconst (v := 1) C.hx C.hb dX8_likeOnes_66 (by decide) ?_
            refine lv_goto (tgt := 71) C.hx C.hb dX8_likeOnes_67 (by decide) ?_
            exact J8 _ (by rw [if_pos c6])
          · refine lv_aload_n C.hx C.hb dX8_likeOnes_55 rfl (lv_at hl 3 rfl) ?_
            refine g_get (k := 15) (v := .ref (am m0 15)) C hW.1 rfl wu_X8 (by decide) wf_X8_50 rfl rfl dX8_likeOnes_56 ?_
            refine lv_iload C.hx C.hb dX8_likeOnes_59 (lv_at hl 1 rfl) ?_
            refine g_iald (f := x 15) (k := i1) C (hW.2.1 15 rfl) rfl (show i1 < 400 by omega) (by decide) dX8_likeOnes_61 ?_
            refine lv_iconst (v := 4) C.hx C.hb dX8_likeOnes_62 (by decide) ?_
            refine lv_icmp_ne (tgt := 70) C.hx C.hb dX8_likeOnes_63 (by decide) (fun c7 => ?_) (fun c7 => ?_)
            · refine lv_iconst (v := 0) C.hx C.hb dX8_likeOnes_70 (by decide) ?_
              exact J8 _ (by rw [if_neg c6, if_neg c7])
            · refine lv_iconst (v := 1) C.hx C.hb dX8_likeOnes_66 (by decide) ?_
              refine lv_goto (tgt := 71) C.hx C.hb dX8_likeOnes_67 (by decide) ?_
              exact J8 _ (by rw [if_neg c6, if_pos c7])
        · refine lv_istore (lv' := [(7, .int v9), (6, .int v5), (5, .int (nI i1)), (4, .int (itr (f_X8_likeOnes_6_4 x d as cN) 0 i1)), (0, .ref m0), (1, .int (nI cN)), (2, .int d), (3, .int as)]) C.hx C.hb dX8_likeOnes_71 hl (by decide) rfl (fun ls hl => ?_)
          refine lv_aload_n C.hx C.hb dX8_likeOnes_73 rfl (lv_at hl 4 rfl) ?_
          refine g_get (k := 11) (v := .ref (am m0 11)) C hW.1 rfl wu_X8 (by decide) wf_X8_41 rfl rfl dX8_likeOnes_74 ?_
          refine lv_aload_n C.hx C.hb dX8_likeOnes_77 rfl (lv_at hl 4 rfl) ?_
          refine g_get (k := 13) (v := .ref (am m0 13)) C hW.1 rfl wu_X8 (by decide) wf_X8_44 rfl rfl dX8_likeOnes_78 ?_
          refine lv_iload_n C.hx C.hb dX8_likeOnes_81 rfl (lv_at hl 5 rfl) ?_
          refine g_iald (f := x 13) (k := cN) C (hW.2.1 13 rfl) rfl (show cN < 400 by omega) (by decide) dX8_likeOnes_82 ?_
          have f10 := MI.po hI (show cN < nC x by omega)
          have f10b : tn (x 13 cN) < nP x := f10.2
          refine g_iald (f := x 11) (k := (tn (x 13 cN))) C (hW.2.1 11 rfl) f10.1 (show (tn (x 13 cN)) < 300 by omega) (by decide) dX8_likeOnes_83 ?_
          refine lv_aload_n C.hx C.hb dX8_likeOnes_84 rfl (lv_at hl 4 rfl) ?_
          refine g_get (k := 11) (v := .ref (am m0 11)) C hW.1 rfl wu_X8 (by decide) wf_X8_41 rfl rfl dX8_likeOnes_85 ?_
          refine lv_aload_n C.hx C.hb dX8_likeOnes_88 rfl (lv_at hl 4 rfl) ?_
          refine g_get (k := 13) (v := .ref (am m0 13)) C hW.1 rfl wu_X8 (by decide) wf_X8_44 rfl rfl dX8_likeOnes_89 ?_
          refine lv_iload C.hx C.hb dX8_likeOnes_92 (lv_at hl 2 rfl) ?_
          refine g_iald (f := x 13) (k := i1) C (hW.2.1 13 rfl) rfl (show i1 < 400 by omega) (by decide) dX8_likeOnes_94 ?_
          have f11 := MI.po hI (show i1 < nC x by omega)
          have f11b : tn (x 13 i1) < nP x := f11.2
          refine g_iald (f := x 11) (k := (tn (x 13 i1))) C (hW.2.1 11 rfl) f11.1 (show (tn (x 13 i1)) < 300 by omega) (by decide) dX8_likeOnes_95 ?_
          refine lv_ixor C.hx C.hb dX8_likeOnes_96 ?_
          refine lv_istore (lv' := [(8, .int ((x 11 (tn (x 13 cN))) ^^^ (x 11 (tn (x 13 i1))))), (7, .int v9), (6, .int v5), (5, .int (nI i1)), (4, .int (itr (f_X8_likeOnes_6_4 x d as cN) 0 i1)), (0, .ref m0), (1, .int (nI cN)), (2, .int d), (3, .int as)]) C.hx C.hb dX8_likeOnes_97 hl (by decide) rfl (fun ls hl => ?_)
          refine lv_iconst (v := 0) C.hx C.hb dX8_likeOnes_99 (by decide) ?_
          refine lv_istore (lv' := [(9, .int 0), (8, .int ((x 11 (tn (x 13 cN))) ^^^ (x 11 (tn (x 13 i1))))), (7, .int v9), (6, .int v5), (5, .int (nI i1)), (4, .int (itr (f_X8_likeOnes_6_4 x d as cN) 0 i1)), (0, .ref m0), (1, .int (nI cN)), (2, .int d), (3, .int as)]) C.hx C.hb dX8_likeOnes_100 hl (by decide) rfl (fun ls hl => ?_)
          refine lv_iconst (v := 0) C.hx C.hb dX8_likeOnes_102 (by decide) ?_
          refine lv_istore (lv' := [(10, .int 0), (9, .int 0), (8, .int ((x 11 (tn (x 13 cN))) ^^^ (x 11 (tn (x 13 i1))))), (7, .int v9), (6, .int v5), (5, .int (nI i1)), (4, .int (itr (f_X8_likeOnes_6_4 x d as cN) 0 i1)), (0, .ref m0), (1, .int (nI cN)), (2, .int d), (3, .int as)]) C.hx C.hb dX8_likeOnes_103 hl (by decide) rfl (fun ls hl => ?_)
          refine W.loopR (N := 8) (Inv := fun i ls => lv_has ls 11 [(10, .int (nI i)), (9, .int (itr (f_X8_likeOnes_105_9 x cN i1) 0 i)), (8, .int ((x 11 (tn (x 13 cN))) ^^^ (x 11 (tn (x 13 i1))))), (7, .int v9), (6, .int v5), (5, .int (nI i1)), (4, .int (itr (f_X8_likeOnes_6_4 x d as cN) 0 i1)), (0, .ref m0), (1, .int (nI cN)), (2, .int d), (3, .int as)]) 105 [] (fun i2 ls hi2 hl K2 => ?_) (fun ls hl => ?_) 0 ls (Nat.zero_le _) (lv_sub hl [0, 1, 2, 3, 4, 5, 6, 7, 8, 9, 10] rfl)
          · refine lv_iload C.hx C.hb dX8_likeOnes_105 (lv_at hl 0 rfl) ?_
            refine lv_bipush (v := 8) C.hx C.hb dX8_likeOnes_107 (by decide) ?_
            refine lv_icmp_ge (tgt := 130) C.hx C.hb dX8_likeOnes_109 (by decide) (fun c12 => ?_) (fun c12 => ?_)
            · exact absurd c12 (lt_nle (by decide) hi2 (by omega))
            · refine lv_iload C.hx C.hb dX8_likeOnes_112 (lv_at hl 1 rfl) ?_
              refine lv_iload C.hx C.hb dX8_likeOnes_114 (lv_at hl 2 rfl) ?_
              refine lv_iload C.hx C.hb dX8_likeOnes_116 (lv_at hl 0 rfl) ?_
              refine lv_ishr C.hx C.hb dX8_likeOnes_118 ?_
              refine lv_iconst (v := 1) C.hx C.hb dX8_likeOnes_119 (by decide) ?_
              refine lv_iand C.hx C.hb dX8_likeOnes_120 ?_
              refine lv_iadd C.hx C.hb dX8_likeOnes_121 ?_
              refine lv_istore (lv' := [(9, .int ((itr (f_X8_likeOnes_105_9 x cN i1) 0 i2) + ((((x 11 (tn (x 13 cN))) ^^^ (x 11 (tn (x 13 i1)))) >>> ((nI i2) &&& 31)) &&& 1))), (10, .int (nI i2)), (8, .int ((x 11 (tn (x 13 cN))) ^^^ (x 11 (tn (x 13 i1))))), (7, .int v9), (6, .int v5), (5, .int (nI i1)), (4, .int (itr (f_X8_likeOnes_6_4 x d as cN) 0 i1)), (0, .ref m0), (1, .int (nI cN)), (2, .int d), (3, .int as)]) C.hx C.hb dX8_likeOnes_122 hl (by decide) rfl (fun ls hl => ?_)
              refine lv_iinc (v := (nI i2) + 1) (lv' := [(10, .int ((nI i2) + 1)), (9, .int ((itr (f_X8_likeOnes_105_9 x cN i1) 0 i2) + ((((x 11 (tn (x 13 cN))) ^^^ (x 11 (tn (x 13 i1)))) >>> ((nI i2) &&& 31)) &&& 1))), (8, .int ((x 11 (tn (x 13 cN))) ^^^ (x 11 (tn (x 13 i1))))), (7, .int v9), (6, .int v5), (5, .int (nI i1)), (4, .int (itr (f_X8_likeOnes_6_4 x d as cN) 0 i1)), (0, .ref m0), (1, .int (nI cN)), (2, .int d), (3, .int as)]) C.hx C.hb dX8_likeOnes_124 hl (k := 1) rfl rfl (by decide) rfl (fun ls hl => ?_)
              refine lv_goto (tgt := 105) C.hx C.hb dX8_likeOnes_127 (by decide) ?_
              rw [nI_1 i2] at hl
              exact K2 _ (lv_sub hl [0, 1, 2, 3, 4, 5, 6, 7, 8, 9, 10] rfl)
          · refine lv_iload C.hx C.hb dX8_likeOnes_105 (lv_at hl 0 rfl) ?_
            refine lv_bipush (v := 8) C.hx C.hb dX8_likeOnes_107 (by decide) ?_
            refine lv_icmp_ge (tgt := 130) C.hx C.hb dX8_likeOnes_109 (by decide) (fun c13 => ?_) (fun c13 => ?_)
            · refine lv_iload_n C.hx C.hb dX8_likeOnes_130 rfl (lv_at hl 10 rfl) ?_
              refine W.joinI (P := fun jv => jv = (if 0 ≤ as then (if as = 1 then v5 else v9 : Int32) else (if v5 = 0 then (if v9 = 0 then 0 else 1 : Int32) else 1 : Int32) : Int32)) 164 ls [] (fun J18 => ?_) (fun v19 hv19 => ?_)
              · refine lv_if_ge (tgt := 152) C.hx C.hb dX8_likeOnes_131 (by decide) (fun c14 => ?_) (fun c14 => ?_)
                · refine lv_iload_n C.hx C.hb dX8_likeOnes_152 rfl (lv_at hl 10 rfl) ?_
                  refine lv_iconst (v := 1) C.hx C.hb dX8_likeOnes_153 (by decide) ?_
                  refine lv_icmp_ne (tgt := 162) C.hx C.hb dX8_likeOnes_154 (by decide) (fun c15 => ?_) (fun c15 => ?_)
                  · refine lv_iload C.hx C.hb dX8_likeOnes_162 (lv_at hl 3 rfl) ?_
                    exact J18 _ (by rw [if_pos c14, if_neg c15])
                  · refine lv_iload C.hx C.hb dX8_likeOnes_157 (lv_at hl 4 rfl) ?_
                    refine lv_goto (tgt := 164) C.hx C.hb dX8_likeOnes_159 (by decide) ?_
                    exact J18 _ (by rw [if_pos c14, if_pos c15])
                · refine lv_iload C.hx C.hb dX8_likeOnes_134 (lv_at hl 4 rfl) ?_
                  refine lv_if_ne (tgt := 144) C.hx C.hb dX8_likeOnes_136 (by decide) (fun c16 => ?_) (fun c16 => ?_)
                  · refine lv_iconst (v := 1) C.hx C.hb dX8_likeOnes_144 (by decide) ?_
                    refine lv_goto (tgt := 164) C.hx C.hb dX8_likeOnes_145 (by decide) ?_
                    exact J18 _ (by rw [if_neg c14, if_neg c16])
                  · refine lv_iload C.hx C.hb dX8_likeOnes_139 (lv_at hl 3 rfl) ?_
                    refine lv_if_eq (tgt := 148) C.hx C.hb dX8_likeOnes_141 (by decide) (fun c17 => ?_) (fun c17 => ?_)
                    · refine lv_iconst (v := 0) C.hx C.hb dX8_likeOnes_148 (by decide) ?_
                      refine lv_goto (tgt := 164) C.hx C.hb dX8_likeOnes_149 (by decide) ?_
                      exact J18 _ (by rw [if_neg c14, if_pos c16, if_pos c17])
                    · refine lv_iconst (v := 1) C.hx C.hb dX8_likeOnes_144 (by decide) ?_
                      refine lv_goto (tgt := 164) C.hx C.hb dX8_likeOnes_145 (by decide) ?_
                      exact J18 _ (by rw [if_neg c14, if_pos c16, if_neg c17])
              · refine lv_istore (lv' := [(10, .int v19), (9, .int (itr (f_X8_likeOnes_105_9 x cN i1) 0 8)), (8, .int ((x 11 (tn (x 13 cN))) ^^^ (x 11 (tn (x 13 i1))))), (7, .int v9), (6, .int v5), (5, .int (nI i1)), (4, .int (itr (f_X8_likeOnes_6_4 x d as cN) 0 i1)), (0, .ref m0), (1, .int (nI cN)), (2, .int d), (3, .int as)]) C.hx C.hb dX8_likeOnes_164 hl (by decide) rfl (fun ls hl => ?_)
                refine lv_iload C.hx C.hb dX8_likeOnes_166 (lv_at hl 6 rfl) ?_
                refine lv_iload C.hx C.hb dX8_likeOnes_168 (lv_at hl 5 rfl) ?_
                refine lv_iload_n C.hx C.hb dX8_likeOnes_170 rfl (lv_at hl 8 rfl) ?_
                refine W.joinI (P := fun jv => jv = (if (nI i1) = (nI cN) then 0 else (if (x 14 i1) = (x 14 cN) then (if v19 = 0 then 0 else (if d < (itr (f_X8_likeOnes_105_9 x cN i1) 0 8) then 0 else 1 : Int32) : Int32) else 0 : Int32) : Int32)) 206 ls [.int (itr (f_X8_likeOnes_6_4 x d as cN) 0 i1)] (fun J26 => ?_) (fun v27 hv27 => ?_)
                · refine lv_icmp_eq (tgt := 205) C.hx C.hb dX8_likeOnes_171 (by decide) (fun c20 => ?_) (fun c20 => ?_)
                  · refine lv_iconst (v := 0) C.hx C.hb dX8_likeOnes_205 (by decide) ?_
                    exact J26 _ (by rw [if_pos c20])
                  · refine lv_aload_n C.hx C.hb dX8_likeOnes_174 rfl (lv_at hl 7 rfl) ?_
                    refine g_get (k := 14) (v := .ref (am m0 14)) C hW.1 rfl wu_X8 (by decide) wf_X8_47 rfl rfl dX8_likeOnes_175 ?_
                    refine lv_iload C.hx C.hb dX8_likeOnes_178 (lv_at hl 5 rfl) ?_
                    refine g_iald (f := x 14) (k := i1) C (hW.2.1 14 rfl) rfl (show i1 < 400 by omega) (by decide) dX8_likeOnes_180 ?_
                    have f21 := MI.ru hI (show i1 < nC x by omega)
                    have f21b : tn (x 14 i1) < 8 := f21.2
                    refine lv_aload_n C.hx C.hb dX8_likeOnes_181 rfl (lv_at hl 7 rfl) ?_
                    refine g_get (k := 14) (v := .ref (am m0 14)) C hW.1 rfl wu_X8 (by decide) wf_X8_47 rfl rfl dX8_likeOnes_182 ?_
                    refine lv_iload_n C.hx C.hb dX8_likeOnes_185 rfl (lv_at hl 8 rfl) ?_
                    refine g_iald (f := x 14) (k := cN) C (hW.2.1 14 rfl) rfl (show cN < 400 by omega) (by decide) dX8_likeOnes_186 ?_
                    have f22 := MI.ru hI (show cN < nC x by omega)
                    have f22b : tn (x 14 cN) < 8 := f22.2
                    refine lv_icmp_ne (tgt := 205) C.hx C.hb dX8_likeOnes_187 (by decide) (fun c23 => ?_) (fun c23 => ?_)
                    · refine lv_iconst (v := 0) C.hx C.hb dX8_likeOnes_205 (by decide) ?_
                      exact J26 _ (by rw [if_neg c20, if_neg c23])
                    · refine lv_iload C.hx C.hb dX8_likeOnes_190 (lv_at hl 0 rfl) ?_
                      refine lv_if_eq (tgt := 205) C.hx C.hb dX8_likeOnes_192 (by decide) (fun c24 => ?_) (fun c24 => ?_)
                      · refine lv_iconst (v := 0) C.hx C.hb dX8_likeOnes_205 (by decide) ?_
                        exact J26 _ (by rw [if_neg c20, if_pos c23, if_pos c24])
                      · refine lv_iload C.hx C.hb dX8_likeOnes_195 (lv_at hl 1 rfl) ?_
                        refine lv_iload_n C.hx C.hb dX8_likeOnes_197 rfl (lv_at hl 9 rfl) ?_
                        refine lv_icmp_gt (tgt := 205) C.hx C.hb dX8_likeOnes_198 (by decide) (fun c25 => ?_) (fun c25 => ?_)
                        · refine lv_iconst (v := 0) C.hx C.hb dX8_likeOnes_205 (by decide) ?_
                          exact J26 _ (by rw [if_neg c20, if_pos c23, if_neg c24, if_pos c25])
                        · refine lv_iconst (v := 1) C.hx C.hb dX8_likeOnes_201 (by decide) ?_
                          refine lv_goto (tgt := 206) C.hx C.hb dX8_likeOnes_202 (by decide) ?_
                          exact J26 _ (by rw [if_neg c20, if_pos c23, if_neg c24, if_neg c25])
                · refine lv_iadd C.hx C.hb dX8_likeOnes_206 ?_
                  refine lv_istore (lv' := [(4, .int ((itr (f_X8_likeOnes_6_4 x d as cN) 0 i1) + v27)), (10, .int v19), (9, .int (itr (f_X8_likeOnes_105_9 x cN i1) 0 8)), (8, .int ((x 11 (tn (x 13 cN))) ^^^ (x 11 (tn (x 13 i1))))), (7, .int v9), (6, .int v5), (5, .int (nI i1)), (0, .ref m0), (1, .int (nI cN)), (2, .int d), (3, .int as)]) C.hx C.hb dX8_likeOnes_207 hl (by decide) rfl (fun ls hl => ?_)
                  refine lv_iinc (v := (nI i1) + 1) (lv' := [(5, .int ((nI i1) + 1)), (4, .int ((itr (f_X8_likeOnes_6_4 x d as cN) 0 i1) + v27)), (10, .int v19), (9, .int (itr (f_X8_likeOnes_105_9 x cN i1) 0 8)), (8, .int ((x 11 (tn (x 13 cN))) ^^^ (x 11 (tn (x 13 i1))))), (7, .int v9), (6, .int v5), (0, .ref m0), (1, .int (nI cN)), (2, .int d), (3, .int as)]) C.hx C.hb dX8_likeOnes_209 hl (k := 6) rfl rfl (by decide) rfl (fun ls hl => ?_)
                  refine lv_goto (tgt := 6) C.hx C.hb dX8_likeOnes_212 (by decide) ?_
                  subst hv5
                  subst hv9
                  subst hv19
                  subst hv27
                  rw [nI_1 i1] at hl
                  exact K1 _ (lv_sub hl [0, 1, 7, 8, 9, 10] rfl)
            · exact absurd (le_eqn (by decide)) c13
  · refine lv_iload C.hx C.hb dX8_likeOnes_6 (lv_at hl 0 rfl) ?_
    refine lv_aload_n C.hx C.hb dX8_likeOnes_8 rfl (lv_at hl 2 rfl) ?_
    refine g_get (k := 27) (v := .int (x 27 0)) C hW.1 rfl wu_X8 (by decide) wf_X8_133 rfl rfl dX8_likeOnes_9 ?_
    refine lv_icmp_ge (tgt := 215) C.hx C.hb dX8_likeOnes_12 (by decide) (fun c28 => ?_) (fun c28 => ?_)
    · refine lv_iload C.hx C.hb dX8_likeOnes_215 (lv_at hl 1 rfl) ?_
      exact rI C hr dX8_likeOnes_217 (by unfold s_X8_likeOnes; try rfl)
    · exact absurd (le_eqn eC) c28
def f_X8_told_106_3 (x : Nat → Nat → Int32) (jN : Nat) : Nat → Int32 → Int32 := fun i1 a => (a) + (if (x 37 i1) = (nI jN) then 1 else 0 : Int32)
def s_X8_told (x : Nat → Nat → Int32) (j : Int32) (what : Int32) : Int32 := (if (s_X8_isJudge j) = 0 then (-1) else (if what = 0 then x 29 (tn j) else (if what = 1 then x 31 (tn j) else (if what = 2 then x 32 (tn j) else (if what = 3 then s_X8_giftsOf x j (-1) else (if what = 4 then (if (x 33 (tn j)) = 0 then 0 else 1 : Int32) else (if what = 5 then itr (f_X8_told_106_3 x (tn j)) 0 (nV x) else (if what = 6 then s_X8_doubt x j 0 else (if what = 7 then s_X8_doubt x j 1 else (-1))))))))))
set_option maxRecDepth 100000 in
set_option maxHeartbeats 4000000 in
theorem cM_told (l : Launch) (G : GG) (m0 : Nat) (x : Nat → Nat → Int32) (z : Nat → Int64) (hI : MI x) (j : Int32) (what : Int32) : MR l G yX8_told cX8_told 5 (some .int) 2 [.ref m0, .int j, .int what] (MWd G m0 x z) (some (.int (s_X8_told x j what))) := by
  refine MR.of RX8 rfl (by decide) (Nat.le_of_ble_eq_true rfl) ?_
  intro p_ e_ s_ m_ args_ below_ meth_ c_ ls hargs C hr hnm hW hl
  obtain ⟨⟨eP, bP⟩, ⟨eC, bC⟩, ⟨eG, bG⟩, ⟨eV, bV⟩, -, -⟩ := id hI
  have hl : lv_has ls 5 [(0, .ref m0), (1, .int j), (2, .int what)] := hl
  refine lv_iload_n C.hx C.hb dX8_told_0 rfl (lv_at hl 1 rfl) ?_
  refine kSR (As := [.int j]) (rest := []) (v := .int (s_X8_isJudge j)) C (cM_isJudge l G j) lk_X8_147 trivial rfl rfl hl (Nat.le_of_ble_eq_true rfl) dX8_told_1 ⟨⟨by decide, by decide⟩, by decide, by decide⟩ ?_
  refine lv_if_ne (tgt := 9) C.hx C.hb dX8_told_4 (by decide) (fun c1 => ?_) (fun c1 => ?_)
  · obtain ⟨jN, hjN, rfl⟩ := isJudge_nz c1
    have tjN : tn (nI jN) = jN := nI_clamp (by omega)
    refine lv_iconst (v := 0) C.hx C.hb dX8_told_9 (by decide) ?_
    refine lv_istore_n (lv' := [(3, .int 0), (0, .ref m0), (1, .int (nI jN)), (2, .int what)]) C.hx C.hb dX8_told_10 rfl hl (by decide) rfl (fun ls hl => ?_)
    refine lv_iload_n C.hx C.hb dX8_told_11 rfl (lv_at hl 3 rfl) ?_
    by_cases c2 : what = 0
    · refine sw_in (off := 48) (tgt := 60) C.hx C.hb dX8_told_12 c2 (by decide) (by decide) (by decide) (by decide) ?_
      refine lv_aload_n C.hx C.hb dX8_told_60 rfl (lv_at hl 1 rfl) ?_
      refine g_get (k := 29) (v := .ref (am m0 29)) C hW.1 rfl wu_X8 (by decide) wf_X8_86 rfl rfl dX8_told_61 ?_
      refine lv_iload_n C.hx C.hb dX8_told_64 rfl (lv_at hl 2 rfl) ?_
      refine g_iald (f := x 29) (k := jN) C (hW.2.1 29 rfl) rfl (show jN < 20 by omega) (by decide) dX8_told_65 ?_
      exact rI C hr dX8_told_66 (by unfold s_X8_told; (try simp only [tjN]); rw [if_neg c1, if_pos c2])
    by_cases c3 : what = 1
    · refine sw_in (off := 55) (tgt := 67) C.hx C.hb dX8_told_12 c3 (by decide) (by decide) (by decide) (by decide) ?_
      refine lv_aload_n C.hx C.hb dX8_told_67 rfl (lv_at hl 1 rfl) ?_
      refine g_get (k := 31) (v := .ref (am m0 31)) C hW.1 rfl wu_X8 (by decide) wf_X8_93 rfl rfl dX8_told_68 ?_
      refine lv_iload_n C.hx C.hb dX8_told_71 rfl (lv_at hl 2 rfl) ?_
      refine g_iald (f := x 31) (k := jN) C (hW.2.1 31 rfl) rfl (show jN < 20 by omega) (by decide) dX8_told_72 ?_
      exact rI C hr dX8_told_73 (by unfold s_X8_told; (try simp only [tjN]); rw [if_neg c1, if_neg c2, if_pos c3])
    by_cases c4 : what = 2
    · refine sw_in (off := 62) (tgt := 74) C.hx C.hb dX8_told_12 c4 (by decide) (by decide) (by decide) (by decide) ?_
      refine lv_aload_n C.hx C.hb dX8_told_74 rfl (lv_at hl 1 rfl) ?_
      refine g_get (k := 32) (v := .ref (am m0 32)) C hW.1 rfl wu_X8 (by decide) wf_X8_96 rfl rfl dX8_told_75 ?_
      refine lv_iload_n C.hx C.hb dX8_told_78 rfl (lv_at hl 2 rfl) ?_
      refine g_iald (f := x 32) (k := jN) C (hW.2.1 32 rfl) rfl (show jN < 20 by omega) (by decide) dX8_told_79 ?_
      exact rI C hr dX8_told_80 (by unfold s_X8_told; (try simp only [tjN]); rw [if_neg c1, if_neg c2, if_neg c3, if_pos c4])
    by_cases c5 : what = 3
    · refine sw_in (off := 69) (tgt := 81) C.hx C.hb dX8_told_12 c5 (by decide) (by decide) (by decide) (by decide) ?_
      refine lv_aload_n C.hx C.hb dX8_told_81 rfl (lv_at hl 1 rfl) ?_
      refine lv_iload_n C.hx C.hb dX8_told_82 rfl (lv_at hl 2 rfl) ?_
      refine lv_iconst (v := (-1)) C.hx C.hb dX8_told_83 (by decide) ?_
      refine kVR (As := [.int (nI jN), .int ((-1))]) (rest := []) (v := .int (s_X8_giftsOf x (nI jN) (-1))) C (cM_giftsOf l G m0 x z hI (nI jN) (-1)) lk_X8_170 (g_recv C hW.1 rfl) hW rfl rfl hl (Nat.le_of_ble_eq_true rfl) dX8_told_84 ⟨⟨by decide, by decide⟩, by decide, by decide⟩ ?_
      exact rI C hr dX8_told_87 (by unfold s_X8_told; (try simp only [tjN]); rw [if_neg c1, if_neg c2, if_neg c3, if_neg c4, if_pos c5])
    by_cases c6 : what = 4
    · refine sw_in (off := 76) (tgt := 88) C.hx C.hb dX8_told_12 c6 (by decide) (by decide) (by decide) (by decide) ?_
      refine lv_aload_n C.hx C.hb dX8_told_88 rfl (lv_at hl 1 rfl) ?_
      refine g_get (k := 33) (v := .ref (am m0 33)) C hW.1 rfl wu_X8 (by decide) wf_X8_99 rfl rfl dX8_told_89 ?_
      refine lv_iload_n C.hx C.hb dX8_told_92 rfl (lv_at hl 2 rfl) ?_
      refine g_zald (f := x 33) (k := jN) C hW.2.2.2 rfl (show jN < 20 by omega) (by decide) dX8_told_93 ?_
      refine W.joinI (P := fun jv => jv = (if (x 33 jN) = 0 then 0 else 1 : Int32)) 102 ls [] (fun J8 => ?_) (fun v9 hv9 => ?_)
      · refine lv_if_eq (tgt := 101) C.hx C.hb dX8_told_94 (by decide) (fun c7 => ?_) (fun c7 => ?_)
        · refine lv_iconst (v := 0) C.hx C.hb dX8_told_101 (by decide) ?_
          exact J8 _ (by rw [if_pos c7])
        · refine lv_iconst (v := 1) C.hx C.hb dX8_told_97 (by decide) ?_
          refine lv_goto (tgt := 102) C.hx C.hb dX8_told_98 (by decide) ?_
          exact J8 _ (by rw [if_neg c7])
      · exact rI C hr dX8_told_102 (by subst hv9; unfold s_X8_told; (try simp only [tjN]); rw [if_neg c1, if_neg c2, if_neg c3, if_neg c4, if_neg c5, if_pos c6])
    by_cases c10 : what = 5
    · refine sw_in (off := 91) (tgt := 103) C.hx C.hb dX8_told_12 c10 (by decide) (by decide) (by decide) (by decide) ?_
      refine lv_iconst (v := 0) C.hx C.hb dX8_told_103 (by decide) ?_
      refine lv_istore (lv' := [(4, .int 0), (3, .int 0), (0, .ref m0), (1, .int (nI jN)), (2, .int what)]) C.hx C.hb dX8_told_104 hl (by decide) rfl (fun ls hl => ?_)
      refine W.loopR (N := nV x) (Inv := fun i ls => lv_has ls 5 [(4, .int (nI i)), (3, .int (itr (f_X8_told_106_3 x jN) 0 i)), (0, .ref m0), (1, .int (nI jN)), (2, .int what)]) 106 [] (fun i1 ls hi1 hl K1 => ?_) (fun ls hl => ?_) 0 ls (Nat.zero_le _) (lv_sub hl [0, 1, 2, 3, 4] rfl)
      · refine lv_iload C.hx C.hb dX8_told_106 (lv_at hl 0 rfl) ?_
        refine lv_aload_n C.hx C.hb dX8_told_108 rfl (lv_at hl 2 rfl) ?_
        refine g_get (k := 42) (v := .int (x 42 0)) C hW.1 rfl wu_X8 (by decide) wf_X8_160 rfl rfl dX8_told_109 ?_
        refine lv_icmp_ge (tgt := 140) C.hx C.hb dX8_told_112 (by decide) (fun c11 => ?_) (fun c11 => ?_)
        · exact absurd c11 (lt_nle eV hi1 (by omega))
        · refine lv_iload_n C.hx C.hb dX8_told_115 rfl (lv_at hl 1 rfl) ?_
          refine lv_aload_n C.hx C.hb dX8_told_116 rfl (lv_at hl 2 rfl) ?_
          refine g_get (k := 37) (v := .ref (am m0 37)) C hW.1 rfl wu_X8 (by decide) wf_X8_109 rfl rfl dX8_told_117 ?_
          refine lv_iload C.hx C.hb dX8_told_120 (lv_at hl 0 rfl) ?_
          refine g_iald (f := x 37) (k := i1) C (hW.2.1 37 rfl) rfl (show i1 < 8000 by omega) (by decide) dX8_told_122 ?_
          refine lv_iload_n C.hx C.hb dX8_told_123 rfl (lv_at hl 3 rfl) ?_
          refine W.joinI (P := fun jv => jv = (if (x 37 i1) = (nI jN) then 1 else 0 : Int32)) 132 ls [.int (itr (f_X8_told_106_3 x jN) 0 i1)] (fun J13 => ?_) (fun v14 hv14 => ?_)
          · refine lv_icmp_ne (tgt := 131) C.hx C.hb dX8_told_124 (by decide) (fun c12 => ?_) (fun c12 => ?_)
            · refine lv_iconst (v := 0) C.hx C.hb dX8_told_131 (by decide) ?_
              exact J13 _ (by rw [if_neg c12])
            · refine lv_iconst (v := 1) C.hx C.hb dX8_told_127 (by decide) ?_
              refine lv_goto (tgt := 132) C.hx C.hb dX8_told_128 (by decide) ?_
              exact J13 _ (by rw [if_pos c12])
          · refine lv_iadd C.hx C.hb dX8_told_132 ?_
            refine lv_istore_n (lv' := [(3, .int ((itr (f_X8_told_106_3 x jN) 0 i1) + v14)), (4, .int (nI i1)), (0, .ref m0), (1, .int (nI jN)), (2, .int what)]) C.hx C.hb dX8_told_133 rfl hl (by decide) rfl (fun ls hl => ?_)
            refine lv_iinc (v := (nI i1) + 1) (lv' := [(4, .int ((nI i1) + 1)), (3, .int ((itr (f_X8_told_106_3 x jN) 0 i1) + v14)), (0, .ref m0), (1, .int (nI jN)), (2, .int what)]) C.hx C.hb dX8_told_134 hl (k := 1) rfl rfl (by decide) rfl (fun ls hl => ?_)
            refine lv_goto (tgt := 106) C.hx C.hb dX8_told_137 (by decide) ?_
            subst hv14
            rw [nI_1 i1] at hl
            exact K1 _ (lv_sub hl [0, 1, 2, 3, 4] rfl)
      · refine lv_iload C.hx C.hb dX8_told_106 (lv_at hl 0 rfl) ?_
        refine lv_aload_n C.hx C.hb dX8_told_108 rfl (lv_at hl 2 rfl) ?_
        refine g_get (k := 42) (v := .int (x 42 0)) C hW.1 rfl wu_X8 (by decide) wf_X8_160 rfl rfl dX8_told_109 ?_
        refine lv_icmp_ge (tgt := 140) C.hx C.hb dX8_told_112 (by decide) (fun c15 => ?_) (fun c15 => ?_)
        · refine lv_iload_n C.hx C.hb dX8_told_140 rfl (lv_at hl 1 rfl) ?_
          exact rI C hr dX8_told_141 (by unfold s_X8_told; (try simp only [tjN]); rw [if_neg c1, if_neg c2, if_neg c3, if_neg c4, if_neg c5, if_neg c6, if_pos c10])
        · exact absurd (le_eqn eV) c15
    by_cases c16 : what = 6
    · refine sw_in (off := 130) (tgt := 142) C.hx C.hb dX8_told_12 c16 (by decide) (by decide) (by decide) (by decide) ?_
      refine lv_aload_n C.hx C.hb dX8_told_142 rfl (lv_at hl 1 rfl) ?_
      refine lv_iload_n C.hx C.hb dX8_told_143 rfl (lv_at hl 2 rfl) ?_
      refine lv_iconst (v := 0) C.hx C.hb dX8_told_144 (by decide) ?_
      refine kVR (As := [.int (nI jN), .int 0]) (rest := []) (v := .int (s_X8_doubt x (nI jN) 0)) C (cM_doubt l G m0 x z hI (nI jN) 0) lk_X8_190 (g_recv C hW.1 rfl) hW rfl rfl hl (Nat.le_of_ble_eq_true rfl) dX8_told_145 ⟨⟨by decide, by decide⟩, by decide, by decide⟩ ?_
      exact rI C hr dX8_told_148 (by unfold s_X8_told; (try simp only [tjN]); rw [if_neg c1, if_neg c2, if_neg c3, if_neg c4, if_neg c5, if_neg c6, if_neg c10, if_pos c16])
    by_cases c17 : what = 7
    · refine sw_in (off := 137) (tgt := 149) C.hx C.hb dX8_told_12 c17 (by decide) (by decide) (by decide) (by decide) ?_
      refine lv_aload_n C.hx C.hb dX8_told_149 rfl (lv_at hl 1 rfl) ?_
      refine lv_iload_n C.hx C.hb dX8_told_150 rfl (lv_at hl 2 rfl) ?_
      refine lv_iconst (v := 1) C.hx C.hb dX8_told_151 (by decide) ?_
      refine kVR (As := [.int (nI jN), .int 1]) (rest := []) (v := .int (s_X8_doubt x (nI jN) 1)) C (cM_doubt l G m0 x z hI (nI jN) 1) lk_X8_190 (g_recv C hW.1 rfl) hW rfl rfl hl (Nat.le_of_ble_eq_true rfl) dX8_told_152 ⟨⟨by decide, by decide⟩, by decide, by decide⟩ ?_
      exact rI C hr dX8_told_155 (by unfold s_X8_told; (try simp only [tjN]); rw [if_neg c1, if_neg c2, if_neg c3, if_neg c4, if_neg c5, if_neg c6, if_neg c10, if_neg c16, if_pos c17])
    refine lv_tableOut (tgt := 156) C.hx C.hb dX8_told_12 (by have nc2 := lv_neT c2 (a := 0) (by decide); have nc3 := lv_neT c3 (a := 1) (by decide); have nc4 := lv_neT c4 (a := 2) (by decide); have nc5 := lv_neT c5 (a := 3) (by decide); have nc6 := lv_neT c6 (a := 4) (by decide); have nc10 := lv_neT c10 (a := 5) (by decide); have nc16 := lv_neT c16 (a := 6) (by decide); have nc17 := lv_neT c17 (a := 7) (by decide); omega) (by decide) ?_
    refine lv_iconst (v := (-1)) C.hx C.hb dX8_told_156 (by decide) ?_
    exact rI C hr dX8_told_157 (by unfold s_X8_told; (try simp only [tjN]); rw [if_neg c1, if_neg c2, if_neg c3, if_neg c4, if_neg c5, if_neg c6, if_neg c10, if_neg c16, if_neg c17])
  · refine lv_iconst (v := (-1)) C.hx C.hb dX8_told_7 (by decide) ?_
    exact rI C hr dX8_told_8 (by unfold s_X8_told; rw [if_pos c1])
def f_X8_count_52_2 (x : Nat → Nat → Int32) : Nat → Int32 → Int32 := fun i1 a => (a) + (if (s_X8_isAsking x i1) = 0 then 0 else 1 : Int32)
def s_X8_count (x : Nat → Nat → Int32) (what : Int32) : Int32 := (if what = 0 then x 12 0 else (if what = 1 then x 27 0 else (if what = 2 then itr (f_X8_count_52_2 x) 0 (nC x) else (if what = 3 then x 36 0 else (if what = 4 then x 28 0 else (if what = 5 then x 0 0 else (-1)))))))
set_option maxRecDepth 100000 in
set_option maxHeartbeats 4000000 in
theorem cM_count (l : Launch) (G : GG) (m0 : Nat) (x : Nat → Nat → Int32) (z : Nat → Int64) (hI : MI x) (what : Int32) : MR l G yX8_count cX8_count 4 (some .int) 1 [.ref m0, .int what] (MWd G m0 x z) (some (.int (s_X8_count x what))) := by
  refine MR.of RX8 rfl (by decide) (Nat.le_of_ble_eq_true rfl) ?_
  intro p_ e_ s_ m_ args_ below_ meth_ c_ ls hargs C hr hnm hW hl
  obtain ⟨⟨eP, bP⟩, ⟨eC, bC⟩, ⟨eG, bG⟩, ⟨eV, bV⟩, -, -⟩ := id hI
  have hl : lv_has ls 4 [(0, .ref m0), (1, .int what)] := hl
  refine lv_iconst (v := 0) C.hx C.hb dX8_count_0 (by decide) ?_
  refine lv_istore_n (lv' := [(2, .int 0), (0, .ref m0), (1, .int what)]) C.hx C.hb dX8_count_1 rfl hl (by decide) rfl (fun ls hl => ?_)
  refine lv_iload_n C.hx C.hb dX8_count_2 rfl (lv_at hl 2 rfl) ?_
  by_cases c1 : what = 0
  · refine sw_in (off := 37) (tgt := 40) C.hx C.hb dX8_count_3 c1 (by decide) (by decide) (by decide) (by decide) ?_
    refine lv_aload_n C.hx C.hb dX8_count_40 rfl (lv_at hl 1 rfl) ?_
    refine g_get (k := 12) (v := .int (x 12 0)) C hW.1 rfl wu_X8 (by decide) wf_X8_144 rfl rfl dX8_count_41 ?_
    exact rI C hr dX8_count_44 (by unfold s_X8_count; rw [if_pos c1])
  by_cases c2 : what = 1
  · refine sw_in (off := 42) (tgt := 45) C.hx C.hb dX8_count_3 c2 (by decide) (by decide) (by decide) (by decide) ?_
    refine lv_aload_n C.hx C.hb dX8_count_45 rfl (lv_at hl 1 rfl) ?_
    refine g_get (k := 27) (v := .int (x 27 0)) C hW.1 rfl wu_X8 (by decide) wf_X8_133 rfl rfl dX8_count_46 ?_
    exact rI C hr dX8_count_49 (by unfold s_X8_count; rw [if_neg c1, if_pos c2])
  by_cases c3 : what = 2
  · refine sw_in (off := 47) (tgt := 50) C.hx C.hb dX8_count_3 c3 (by decide) (by decide) (by decide) (by decide) ?_
    refine lv_iconst (v := 0) C.hx C.hb dX8_count_50 (by decide) ?_
    refine lv_istore_n (lv' := [(3, .int 0), (2, .int 0), (0, .ref m0), (1, .int what)]) C.hx C.hb dX8_count_51 rfl hl (by decide) rfl (fun ls hl => ?_)
    refine W.loopR (N := nC x) (Inv := fun i ls => lv_has ls 4 [(3, .int (nI i)), (2, .int (itr (f_X8_count_52_2 x) 0 i)), (0, .ref m0), (1, .int what)]) 52 [] (fun i1 ls hi1 hl K1 => ?_) (fun ls hl => ?_) 0 ls (Nat.zero_le _) (lv_sub hl [0, 1, 2, 3] rfl)
    · refine lv_iload_n C.hx C.hb dX8_count_52 rfl (lv_at hl 0 rfl) ?_
      refine lv_aload_n C.hx C.hb dX8_count_53 rfl (lv_at hl 2 rfl) ?_
      refine g_get (k := 27) (v := .int (x 27 0)) C hW.1 rfl wu_X8 (by decide) wf_X8_133 rfl rfl dX8_count_54 ?_
      refine lv_icmp_ge (tgt := 82) C.hx C.hb dX8_count_57 (by decide) (fun c4 => ?_) (fun c4 => ?_)
      · exact absurd c4 (lt_nle eC hi1 (by omega))
      · refine lv_iload_n C.hx C.hb dX8_count_60 rfl (lv_at hl 1 rfl) ?_
        refine lv_aload_n C.hx C.hb dX8_count_61 rfl (lv_at hl 2 rfl) ?_
        refine lv_iload_n C.hx C.hb dX8_count_62 rfl (lv_at hl 0 rfl) ?_
        refine kVR (As := [.int (nI i1)]) (rest := [.int (itr (f_X8_count_52_2 x) 0 i1)]) (v := .int (s_X8_isAsking x i1)) C (cM_isAsking l G m0 x z hI i1 (by omega)) lk_X8_167 (g_recv C hW.1 rfl) hW rfl rfl hl (Nat.le_of_ble_eq_true rfl) dX8_count_63 ⟨⟨by decide, by decide⟩, by decide, by decide⟩ ?_
        refine W.joinI (P := fun jv => jv = (if (s_X8_isAsking x i1) = 0 then 0 else 1 : Int32)) 74 ls [.int (itr (f_X8_count_52_2 x) 0 i1)] (fun J6 => ?_) (fun v7 hv7 => ?_)
        · refine lv_if_eq (tgt := 73) C.hx C.hb dX8_count_66 (by decide) (fun c5 => ?_) (fun c5 => ?_)
          · refine lv_iconst (v := 0) C.hx C.hb dX8_count_73 (by decide) ?_
            exact J6 _ (by rw [if_pos c5])
          · refine lv_iconst (v := 1) C.hx C.hb dX8_count_69 (by decide) ?_
            refine lv_goto (tgt := 74) C.hx C.hb dX8_count_70 (by decide) ?_
            exact J6 _ (by rw [if_neg c5])
        · refine lv_iadd C.hx C.hb dX8_count_74 ?_
          refine lv_istore_n (lv' := [(2, .int ((itr (f_X8_count_52_2 x) 0 i1) + v7)), (3, .int (nI i1)), (0, .ref m0), (1, .int what)]) C.hx C.hb dX8_count_75 rfl hl (by decide) rfl (fun ls hl => ?_)
          refine lv_iinc (v := (nI i1) + 1) (lv' := [(3, .int ((nI i1) + 1)), (2, .int ((itr (f_X8_count_52_2 x) 0 i1) + v7)), (0, .ref m0), (1, .int what)]) C.hx C.hb dX8_count_76 hl (k := 1) rfl rfl (by decide) rfl (fun ls hl => ?_)
          refine lv_goto (tgt := 52) C.hx C.hb dX8_count_79 (by decide) ?_
          subst hv7
          rw [nI_1 i1] at hl
          exact K1 _ (lv_sub hl [0, 1, 2, 3] rfl)
    · refine lv_iload_n C.hx C.hb dX8_count_52 rfl (lv_at hl 0 rfl) ?_
      refine lv_aload_n C.hx C.hb dX8_count_53 rfl (lv_at hl 2 rfl) ?_
      refine g_get (k := 27) (v := .int (x 27 0)) C hW.1 rfl wu_X8 (by decide) wf_X8_133 rfl rfl dX8_count_54 ?_
      refine lv_icmp_ge (tgt := 82) C.hx C.hb dX8_count_57 (by decide) (fun c8 => ?_) (fun c8 => ?_)
      · refine lv_iload_n C.hx C.hb dX8_count_82 rfl (lv_at hl 1 rfl) ?_
        exact rI C hr dX8_count_83 (by unfold s_X8_count; rw [if_neg c1, if_neg c2, if_pos c3])
      · exact absurd (le_eqn eC) c8
  by_cases c9 : what = 3
  · refine sw_in (off := 81) (tgt := 84) C.hx C.hb dX8_count_3 c9 (by decide) (by decide) (by decide) (by decide) ?_
    refine lv_aload_n C.hx C.hb dX8_count_84 rfl (lv_at hl 1 rfl) ?_
    refine g_get (k := 36) (v := .int (x 36 0)) C hW.1 rfl wu_X8 (by decide) wf_X8_153 rfl rfl dX8_count_85 ?_
    exact rI C hr dX8_count_88 (by unfold s_X8_count; rw [if_neg c1, if_neg c2, if_neg c3, if_pos c9])
  by_cases c10 : what = 4
  · refine sw_in (off := 86) (tgt := 89) C.hx C.hb dX8_count_3 c10 (by decide) (by decide) (by decide) (by decide) ?_
    refine lv_aload_n C.hx C.hb dX8_count_89 rfl (lv_at hl 1 rfl) ?_
    refine g_get (k := 28) (v := .int (x 28 0)) C hW.1 rfl wu_X8 (by decide) wf_X8_197 rfl rfl dX8_count_90 ?_
    exact rI C hr dX8_count_93 (by unfold s_X8_count; rw [if_neg c1, if_neg c2, if_neg c3, if_neg c9, if_pos c10])
  by_cases c11 : what = 5
  · refine sw_in (off := 91) (tgt := 94) C.hx C.hb dX8_count_3 c11 (by decide) (by decide) (by decide) (by decide) ?_
    refine lv_aload_n C.hx C.hb dX8_count_94 rfl (lv_at hl 1 rfl) ?_
    refine g_get (k := 0) (v := .int (x 0 0)) C hW.1 rfl wu_X8 (by decide) wf_X8_140 rfl rfl dX8_count_95 ?_
    exact rI C hr dX8_count_98 (by unfold s_X8_count; rw [if_neg c1, if_neg c2, if_neg c3, if_neg c9, if_neg c10, if_pos c11])
  refine lv_tableOut (tgt := 99) C.hx C.hb dX8_count_3 (by have nc1 := lv_neT c1 (a := 0) (by decide); have nc2 := lv_neT c2 (a := 1) (by decide); have nc3 := lv_neT c3 (a := 2) (by decide); have nc9 := lv_neT c9 (a := 3) (by decide); have nc10 := lv_neT c10 (a := 4) (by decide); have nc11 := lv_neT c11 (a := 5) (by decide); omega) (by decide) ?_
  refine lv_iconst (v := (-1)) C.hx C.hb dX8_count_99 (by decide) ?_
  exact rI C hr dX8_count_100 (by unfold s_X8_count; rw [if_neg c1, if_neg c2, if_neg c3, if_neg c9, if_neg c10, if_neg c11])
def s_X8_about (x : Nat → Nat → Int32) (c : Int32) (what : Int32) : Int32 := (if (s_X8_isCase x c) = 0 then (-1) else (if what = 0 then x 13 (tn c) else (if what = 1 then x 14 (tn c) else (if what = 2 then x 15 (tn c) else (if what = 3 then x 16 (tn c) else (if what = 4 then (if (s_X8_isAsking x (tn c)) = 0 then 0 else x 19 (tn c) : Int32) else (if what = 5 then s_X8_giftsOf x (-1) c else (if what = 6 then s_X8_lateBy x (tn c) else (if what = 7 then x 21 (tn c) else (-1))))))))))
set_option maxRecDepth 100000 in
set_option maxHeartbeats 4000000 in
theorem cM_about (l : Launch) (G : GG) (m0 : Nat) (x : Nat → Nat → Int32) (z : Nat → Int64) (hI : MI x) (c : Int32) (what : Int32) : MR l G yX8_about cX8_about 3 (some .int) 2 [.ref m0, .int c, .int what] (MWd G m0 x z) (some (.int (s_X8_about x c what))) := by
  refine MR.of RX8 rfl (by decide) (Nat.le_of_ble_eq_true rfl) ?_
  intro p_ e_ s_ m_ args_ below_ meth_ c_ ls hargs C hr hnm hW hl
  obtain ⟨⟨eP, bP⟩, ⟨eC, bC⟩, ⟨eG, bG⟩, ⟨eV, bV⟩, -, -⟩ := id hI
  have hl : lv_has ls 3 [(0, .ref m0), (1, .int c), (2, .int what)] := hl
  refine lv_aload_n C.hx C.hb dX8_about_0 rfl (lv_at hl 0 rfl) ?_
  refine lv_iload_n C.hx C.hb dX8_about_1 rfl (lv_at hl 1 rfl) ?_
  refine kVR (As := [.int c]) (rest := []) (v := .int (s_X8_isCase x c)) C (cM_isCase l G m0 x z hI c) lk_X8_184 (g_recv C hW.1 rfl) hW rfl rfl hl (Nat.le_of_ble_eq_true rfl) dX8_about_2 ⟨⟨by decide, by decide⟩, by decide, by decide⟩ ?_
  refine lv_if_ne (tgt := 10) C.hx C.hb dX8_about_5 (by decide) (fun c1 => ?_) (fun c1 => ?_)
  · obtain ⟨cN, hcN, rfl⟩ := isCase_nz hI c1
    have tcN : tn (nI cN) = cN := nI_clamp (by omega)
    refine lv_iload_n C.hx C.hb dX8_about_10 rfl (lv_at hl 2 rfl) ?_
    by_cases c2 : what = 0
    · refine sw_in (off := 45) (tgt := 56) C.hx C.hb dX8_about_11 c2 (by decide) (by decide) (by decide) (by decide) ?_
      refine lv_aload_n C.hx C.hb dX8_about_56 rfl (lv_at hl 0 rfl) ?_
      refine g_get (k := 13) (v := .ref (am m0 13)) C hW.1 rfl wu_X8 (by decide) wf_X8_44 rfl rfl dX8_about_57 ?_
      refine lv_iload_n C.hx C.hb dX8_about_60 rfl (lv_at hl 1 rfl) ?_
      refine g_iald (f := x 13) (k := cN) C (hW.2.1 13 rfl) rfl (show cN < 400 by omega) (by decide) dX8_about_61 ?_
      have f3 := MI.po hI (show cN < nC x by omega)
      have f3b : tn (x 13 cN) < nP x := f3.2
      exact rI C hr dX8_about_62 (by unfold s_X8_about; (try simp only [tcN]); rw [if_neg c1, if_pos c2])
    by_cases c4 : what = 1
    · refine sw_in (off := 52) (tgt := 63) C.hx C.hb dX8_about_11 c4 (by decide) (by decide) (by decide) (by decide) ?_
      refine lv_aload_n C.hx C.hb dX8_about_63 rfl (lv_at hl 0 rfl) ?_
      refine g_get (k := 14) (v := .ref (am m0 14)) C hW.1 rfl wu_X8 (by decide) wf_X8_47 rfl rfl dX8_about_64 ?_
      refine lv_iload_n C.hx C.hb dX8_about_67 rfl (lv_at hl 1 rfl) ?_
      refine g_iald (f := x 14) (k := cN) C (hW.2.1 14 rfl) rfl (show cN < 400 by omega) (by decide) dX8_about_68 ?_
      have f5 := MI.ru hI (show cN < nC x by omega)
      have f5b : tn (x 14 cN) < 8 := f5.2
      exact rI C hr dX8_about_69 (by unfold s_X8_about; (try simp only [tcN]); rw [if_neg c1, if_neg c2, if_pos c4])
    by_cases c6 : what = 2
    · refine sw_in (off := 59) (tgt := 70) C.hx C.hb dX8_about_11 c6 (by decide) (by decide) (by decide) (by decide) ?_
      refine lv_aload_n C.hx C.hb dX8_about_70 rfl (lv_at hl 0 rfl) ?_
      refine g_get (k := 15) (v := .ref (am m0 15)) C hW.1 rfl wu_X8 (by decide) wf_X8_50 rfl rfl dX8_about_71 ?_
      refine lv_iload_n C.hx C.hb dX8_about_74 rfl (lv_at hl 1 rfl) ?_
      refine g_iald (f := x 15) (k := cN) C (hW.2.1 15 rfl) rfl (show cN < 400 by omega) (by decide) dX8_about_75 ?_
      exact rI C hr dX8_about_76 (by unfold s_X8_about; (try simp only [tcN]); rw [if_neg c1, if_neg c2, if_neg c4, if_pos c6])
    by_cases c7 : what = 3
    · refine sw_in (off := 66) (tgt := 77) C.hx C.hb dX8_about_11 c7 (by decide) (by decide) (by decide) (by decide) ?_
      refine lv_aload_n C.hx C.hb dX8_about_77 rfl (lv_at hl 0 rfl) ?_
      refine g_get (k := 16) (v := .ref (am m0 16)) C hW.1 rfl wu_X8 (by decide) wf_X8_53 rfl rfl dX8_about_78 ?_
      refine lv_iload_n C.hx C.hb dX8_about_81 rfl (lv_at hl 1 rfl) ?_
      refine g_iald (f := x 16) (k := cN) C (hW.2.1 16 rfl) rfl (show cN < 400 by omega) (by decide) dX8_about_82 ?_
      exact rI C hr dX8_about_83 (by unfold s_X8_about; (try simp only [tcN]); rw [if_neg c1, if_neg c2, if_neg c4, if_neg c6, if_pos c7])
    by_cases c8 : what = 4
    · refine sw_in (off := 73) (tgt := 84) C.hx C.hb dX8_about_11 c8 (by decide) (by decide) (by decide) (by decide) ?_
      refine lv_aload_n C.hx C.hb dX8_about_84 rfl (lv_at hl 0 rfl) ?_
      refine lv_iload_n C.hx C.hb dX8_about_85 rfl (lv_at hl 1 rfl) ?_
      refine kVR (As := [.int (nI cN)]) (rest := []) (v := .int (s_X8_isAsking x cN)) C (cM_isAsking l G m0 x z hI cN (by omega)) lk_X8_167 (g_recv C hW.1 rfl) hW rfl rfl hl (Nat.le_of_ble_eq_true rfl) dX8_about_86 ⟨⟨by decide, by decide⟩, by decide, by decide⟩ ?_
      refine W.joinI (P := fun jv => jv = (if (s_X8_isAsking x cN) = 0 then 0 else x 19 cN : Int32)) 102 ls [] (fun J10 => ?_) (fun v11 hv11 => ?_)
      · refine lv_if_eq (tgt := 101) C.hx C.hb dX8_about_89 (by decide) (fun c9 => ?_) (fun c9 => ?_)
        · refine lv_iconst (v := 0) C.hx C.hb dX8_about_101 (by decide) ?_
          exact J10 _ (by rw [if_pos c9])
        · refine lv_aload_n C.hx C.hb dX8_about_92 rfl (lv_at hl 0 rfl) ?_
          refine g_get (k := 19) (v := .ref (am m0 19)) C hW.1 rfl wu_X8 (by decide) wf_X8_62 rfl rfl dX8_about_93 ?_
          refine lv_iload_n C.hx C.hb dX8_about_96 rfl (lv_at hl 1 rfl) ?_
          refine g_iald (f := x 19) (k := cN) C (hW.2.1 19 rfl) rfl (show cN < 400 by omega) (by decide) dX8_about_97 ?_
          refine lv_goto (tgt := 102) C.hx C.hb dX8_about_98 (by decide) ?_
          exact J10 _ (by rw [if_neg c9])
      · exact rI C hr dX8_about_102 (by subst hv11; unfold s_X8_about; (try simp only [tcN]); rw [if_neg c1, if_neg c2, if_neg c4, if_neg c6, if_neg c7, if_pos c8])
    by_cases c12 : what = 5
    · refine sw_in (off := 92) (tgt := 103) C.hx C.hb dX8_about_11 c12 (by decide) (by decide) (by decide) (by decide) ?_
      refine lv_aload_n C.hx C.hb dX8_about_103 rfl (lv_at hl 0 rfl) ?_
      refine lv_iconst (v := (-1)) C.hx C.hb dX8_about_104 (by decide) ?_
      refine lv_iload_n C.hx C.hb dX8_about_105 rfl (lv_at hl 1 rfl) ?_
      refine kVR (As := [.int ((-1)), .int (nI cN)]) (rest := []) (v := .int (s_X8_giftsOf x (-1) (nI cN))) C (cM_giftsOf l G m0 x z hI (-1) (nI cN)) lk_X8_170 (g_recv C hW.1 rfl) hW rfl rfl hl (Nat.le_of_ble_eq_true rfl) dX8_about_106 ⟨⟨by decide, by decide⟩, by decide, by decide⟩ ?_
      exact rI C hr dX8_about_109 (by unfold s_X8_about; (try simp only [tcN]); rw [if_neg c1, if_neg c2, if_neg c4, if_neg c6, if_neg c7, if_neg c8, if_pos c12])
    by_cases c13 : what = 6
    · refine sw_in (off := 99) (tgt := 110) C.hx C.hb dX8_about_11 c13 (by decide) (by decide) (by decide) (by decide) ?_
      refine lv_aload_n C.hx C.hb dX8_about_110 rfl (lv_at hl 0 rfl) ?_
      refine lv_iload_n C.hx C.hb dX8_about_111 rfl (lv_at hl 1 rfl) ?_
      refine kVR (As := [.int (nI cN)]) (rest := []) (v := .int (s_X8_lateBy x cN)) C (cM_lateBy l G m0 x z hI cN (by omega)) lk_X8_203 (g_recv C hW.1 rfl) hW rfl rfl hl (Nat.le_of_ble_eq_true rfl) dX8_about_112 ⟨⟨by decide, by decide⟩, by decide, by decide⟩ ?_
      exact rI C hr dX8_about_115 (by unfold s_X8_about; (try simp only [tcN]); rw [if_neg c1, if_neg c2, if_neg c4, if_neg c6, if_neg c7, if_neg c8, if_neg c12, if_pos c13])
    by_cases c14 : what = 7
    · refine sw_in (off := 105) (tgt := 116) C.hx C.hb dX8_about_11 c14 (by decide) (by decide) (by decide) (by decide) ?_
      refine lv_aload_n C.hx C.hb dX8_about_116 rfl (lv_at hl 0 rfl) ?_
      refine g_get (k := 21) (v := .ref (am m0 21)) C hW.1 rfl wu_X8 (by decide) wf_X8_68 rfl rfl dX8_about_117 ?_
      refine lv_iload_n C.hx C.hb dX8_about_120 rfl (lv_at hl 1 rfl) ?_
      refine g_iald (f := x 21) (k := cN) C (hW.2.1 21 rfl) rfl (show cN < 400 by omega) (by decide) dX8_about_121 ?_
      exact rI C hr dX8_about_122 (by unfold s_X8_about; (try simp only [tcN]); rw [if_neg c1, if_neg c2, if_neg c4, if_neg c6, if_neg c7, if_neg c8, if_neg c12, if_neg c13, if_pos c14])
    refine lv_tableOut (tgt := 123) C.hx C.hb dX8_about_11 (by have nc2 := lv_neT c2 (a := 0) (by decide); have nc4 := lv_neT c4 (a := 1) (by decide); have nc6 := lv_neT c6 (a := 2) (by decide); have nc7 := lv_neT c7 (a := 3) (by decide); have nc8 := lv_neT c8 (a := 4) (by decide); have nc12 := lv_neT c12 (a := 5) (by decide); have nc13 := lv_neT c13 (a := 6) (by decide); have nc14 := lv_neT c14 (a := 7) (by decide); omega) (by decide) ?_
    refine lv_iconst (v := (-1)) C.hx C.hb dX8_about_123 (by decide) ?_
    exact rI C hr dX8_about_124 (by unfold s_X8_about; (try simp only [tcN]); rw [if_neg c1, if_neg c2, if_neg c4, if_neg c6, if_neg c7, if_neg c8, if_neg c12, if_neg c13, if_neg c14])
  · refine lv_iconst (v := (-1)) C.hx C.hb dX8_about_8 (by decide) ?_
    exact rI C hr dX8_about_9 (by unfold s_X8_about; rw [if_pos c1])
def s_X8_judged (x : Nat → Nat → Int32) (c : Int32) (what : Int32) : Int32 := (if (s_X8_isCase x c) = 0 then (-1) else (if (s_X8_within what 0 2) = 0 then (-1) else (if (x 21 (tn c)) = 0 then (-4) else (if what = 0 then x 24 (tn c) else (if what = 1 then x 25 (tn c) else x 26 (tn c) : Int32) : Int32))))
set_option maxRecDepth 100000 in
set_option maxHeartbeats 4000000 in
theorem cM_judged (l : Launch) (G : GG) (m0 : Nat) (x : Nat → Nat → Int32) (z : Nat → Int64) (hI : MI x) (c : Int32) (what : Int32) : MR l G yX8_judged cX8_judged 3 (some .int) 1 [.ref m0, .int c, .int what] (MWd G m0 x z) (some (.int (s_X8_judged x c what))) := by
  refine MR.of RX8 rfl (by decide) (Nat.le_of_ble_eq_true rfl) ?_
  intro p_ e_ s_ m_ args_ below_ meth_ c_ ls hargs C hr hnm hW hl
  obtain ⟨⟨eP, bP⟩, ⟨eC, bC⟩, ⟨eG, bG⟩, ⟨eV, bV⟩, -, -⟩ := id hI
  have hl : lv_has ls 3 [(0, .ref m0), (1, .int c), (2, .int what)] := hl
  refine lv_aload_n C.hx C.hb dX8_judged_0 rfl (lv_at hl 0 rfl) ?_
  refine lv_iload_n C.hx C.hb dX8_judged_1 rfl (lv_at hl 1 rfl) ?_
  refine kVR (As := [.int c]) (rest := []) (v := .int (s_X8_isCase x c)) C (cM_isCase l G m0 x z hI c) lk_X8_184 (g_recv C hW.1 rfl) hW rfl rfl hl (Nat.le_of_ble_eq_true rfl) dX8_judged_2 ⟨⟨by decide, by decide⟩, by decide, by decide⟩ ?_
  refine lv_if_eq (tgt := 17) C.hx C.hb dX8_judged_5 (by decide) (fun c1 => ?_) (fun c1 => ?_)
  · refine lv_iconst (v := (-1)) C.hx C.hb dX8_judged_17 (by decide) ?_
    exact rI C hr dX8_judged_18 (by unfold s_X8_judged; rw [if_pos c1])
  · obtain ⟨cN, hcN, rfl⟩ := isCase_nz hI c1
    have tcN : tn (nI cN) = cN := nI_clamp (by omega)
    refine lv_iload_n C.hx C.hb dX8_judged_8 rfl (lv_at hl 2 rfl) ?_
    refine lv_iconst (v := 0) C.hx C.hb dX8_judged_9 (by decide) ?_
    refine lv_iconst (v := 2) C.hx C.hb dX8_judged_10 (by decide) ?_
    refine kSR (As := [.int what, .int 0, .int 2]) (rest := []) (v := .int (s_X8_within what 0 2)) C (cM_within l G what 0 2) lk_X8_136 trivial rfl rfl hl (Nat.le_of_ble_eq_true rfl) dX8_judged_11 ⟨⟨by decide, by decide⟩, by decide, by decide⟩ ?_
    refine lv_if_ne (tgt := 19) C.hx C.hb dX8_judged_14 (by decide) (fun c2 => ?_) (fun c2 => ?_)
    · refine lv_aload_n C.hx C.hb dX8_judged_19 rfl (lv_at hl 0 rfl) ?_
      refine g_get (k := 21) (v := .ref (am m0 21)) C hW.1 rfl wu_X8 (by decide) wf_X8_68 rfl rfl dX8_judged_20 ?_
      refine lv_iload_n C.hx C.hb dX8_judged_23 rfl (lv_at hl 1 rfl) ?_
      refine g_iald (f := x 21) (k := cN) C (hW.2.1 21 rfl) rfl (show cN < 400 by omega) (by decide) dX8_judged_24 ?_
      refine lv_if_ne (tgt := 31) C.hx C.hb dX8_judged_25 (by decide) (fun c3 => ?_) (fun c3 => ?_)
      · refine lv_iload_n C.hx C.hb dX8_judged_31 rfl (lv_at hl 2 rfl) ?_
        refine W.joinI (P := fun jv => jv = (if what = 0 then x 24 cN else (if what = 1 then x 25 cN else x 26 cN : Int32) : Int32)) 64 ls [] (fun J6 => ?_) (fun v7 hv7 => ?_)
        · refine lv_if_ne (tgt := 44) C.hx C.hb dX8_judged_32 (by decide) (fun c4 => ?_) (fun c4 => ?_)
          · refine lv_iload_n C.hx C.hb dX8_judged_44 rfl (lv_at hl 2 rfl) ?_
            refine lv_iconst (v := 1) C.hx C.hb dX8_judged_45 (by decide) ?_
            refine lv_icmp_ne (tgt := 58) C.hx C.hb dX8_judged_46 (by decide) (fun c5 => ?_) (fun c5 => ?_)
            · refine lv_aload_n C.hx C.hb dX8_judged_58 rfl (lv_at hl 0 rfl) ?_
              refine g_get (k := 26) (v := .ref (am m0 26)) C hW.1 rfl wu_X8 (by decide) wf_X8_83 rfl rfl dX8_judged_59 ?_
              refine lv_iload_n C.hx C.hb dX8_judged_62 rfl (lv_at hl 1 rfl) ?_
              refine g_iald (f := x 26) (k := cN) C (hW.2.1 26 rfl) rfl (show cN < 400 by omega) (by decide) dX8_judged_63 ?_
              exact J6 _ (by rw [if_neg c4, if_neg c5])
            · refine lv_aload_n C.hx C.hb dX8_judged_49 rfl (lv_at hl 0 rfl) ?_
              refine g_get (k := 25) (v := .ref (am m0 25)) C hW.1 rfl wu_X8 (by decide) wf_X8_80 rfl rfl dX8_judged_50 ?_
              refine lv_iload_n C.hx C.hb dX8_judged_53 rfl (lv_at hl 1 rfl) ?_
              refine g_iald (f := x 25) (k := cN) C (hW.2.1 25 rfl) rfl (show cN < 400 by omega) (by decide) dX8_judged_54 ?_
              refine lv_goto (tgt := 64) C.hx C.hb dX8_judged_55 (by decide) ?_
              exact J6 _ (by rw [if_neg c4, if_pos c5])
          · refine lv_aload_n C.hx C.hb dX8_judged_35 rfl (lv_at hl 0 rfl) ?_
            refine g_get (k := 24) (v := .ref (am m0 24)) C hW.1 rfl wu_X8 (by decide) wf_X8_77 rfl rfl dX8_judged_36 ?_
            refine lv_iload_n C.hx C.hb dX8_judged_39 rfl (lv_at hl 1 rfl) ?_
            refine g_iald (f := x 24) (k := cN) C (hW.2.1 24 rfl) rfl (show cN < 400 by omega) (by decide) dX8_judged_40 ?_
            refine lv_goto (tgt := 64) C.hx C.hb dX8_judged_41 (by decide) ?_
            exact J6 _ (by rw [if_pos c4])
        · exact rI C hr dX8_judged_64 (by subst hv7; unfold s_X8_judged; (try simp only [tcN]); rw [if_neg c1, if_neg c2, if_neg c3])
      · refine lv_bipush (v := (-4)) C.hx C.hb dX8_judged_28 (by decide) ?_
        exact rI C hr dX8_judged_30 (by unfold s_X8_judged; (try simp only [tcN]); rw [if_neg c1, if_neg c2, if_pos c3])
    · refine lv_iconst (v := (-1)) C.hx C.hb dX8_judged_17 (by decide) ?_
      exact rI C hr dX8_judged_18 (by unfold s_X8_judged; (try simp only [tcN]); rw [if_neg c1, if_pos c2])
def s_X8_appeal (x : Nat → Nat → Int32) (c : Int32) : Int32 := (if (s_X8_isCase x c) = 0 then (-1) else (if (x 15 (tn c)) = 2 then 1 else (-4)))
def sx_X8_appeal (x : Nat → Nat → Int32) (c : Int32) : Nat → Nat → Int32 := (if (s_X8_isCase x c) = 0 then x else (if (x 15 (tn c)) = 2 then (up2 (up2 (up2 (up2 x 15 (tn c) 3) 19 (tn c) (if 9 ≤ ((x 19 (tn c)) + 2) then 9 else (x 19 (tn c)) + 2 : Int32)) 20 (tn c) 0) 18 (tn c) (x 0 0)) else x))
set_option maxRecDepth 100000 in
set_option maxHeartbeats 4000000 in
theorem cM_appeal (l : Launch) (G : GG) (m0 : Nat) (x : Nat → Nat → Int32) (z : Nat → Int64) (hI : MI x) (c : Int32) : MW l G yX8_appeal cX8_appeal 2 (some .int) 1 [.ref m0, .int c] (MWd G m0 x z) (some (.int (s_X8_appeal x c))) (MWd G m0 (sx_X8_appeal x c) z) (MA m0) 0 0 := by
  refine MW.of RX8 rfl (by decide) (Nat.le_of_ble_eq_true rfl) ?_
  intro p_ e_ s_ m_ args_ below_ meth_ c_ ls hargs C hr hnm hW hS hl
  obtain ⟨⟨eP, bP⟩, ⟨eC, bC⟩, ⟨eG, bG⟩, ⟨eV, bV⟩, -, -⟩ := id hI
  have hl : lv_has ls 2 [(0, .ref m0), (1, .int c)] := hl
  refine lv_aload_n C.hx C.hb dX8_appeal_0 rfl (lv_at hl 0 rfl) ?_
  refine lv_iload_n C.hx C.hb dX8_appeal_1 rfl (lv_at hl 1 rfl) ?_
  refine kVR (As := [.int c]) (rest := []) (v := .int (s_X8_isCase x c)) C (cM_isCase l G m0 x z hI c) lk_X8_184 (g_recv C hW.1 rfl) hW rfl rfl hl (Nat.le_of_ble_eq_true rfl) dX8_appeal_2 ⟨⟨by decide, by decide⟩, by decide, by decide⟩ ?_
  refine lv_if_ne (tgt := 10) C.hx C.hb dX8_appeal_5 (by decide) (fun c1 => ?_) (fun c1 => ?_)
  · obtain ⟨cN, hcN, rfl⟩ := isCase_nz hI c1
    have tcN : tn (nI cN) = cN := nI_clamp (by omega)
    refine lv_aload_n C.hx C.hb dX8_appeal_10 rfl (lv_at hl 0 rfl) ?_
    refine g_get (k := 15) (v := .ref (am m0 15)) C hW.1 rfl wu_X8 (by decide) wf_X8_50 rfl rfl dX8_appeal_11 ?_
    refine lv_iload_n C.hx C.hb dX8_appeal_14 rfl (lv_at hl 1 rfl) ?_
    refine g_iald (f := x 15) (k := cN) C (hW.2.1 15 rfl) rfl (show cN < 400 by omega) (by decide) dX8_appeal_15 ?_
    refine lv_iconst (v := 2) C.hx C.hb dX8_appeal_16 (by decide) ?_
    refine lv_icmp_eq (tgt := 23) C.hx C.hb dX8_appeal_17 (by decide) (fun c2 => ?_) (fun c2 => ?_)
    · refine lv_aload_n C.hx C.hb dX8_appeal_23 rfl (lv_at hl 0 rfl) ?_
      refine g_get (k := 15) (v := .ref (am m0 15)) C hW.1 rfl wu_X8 (by decide) wf_X8_50 rfl rfl dX8_appeal_24 ?_
      refine lv_iload_n C.hx C.hb dX8_appeal_27 rfl (lv_at hl 1 rfl) ?_
      refine lv_iconst (v := 3) C.hx C.hb dX8_appeal_28 (by decide) ?_
      refine g_iast (f := x 15) (k := cN) C hS (hW.2.1 15 rfl) (am_A (Or.inl rfl)) rfl (show cN < 400 by omega) (by decide) dX8_appeal_29 (fun H locs e1 o1 z1 hS => ?_)
      have hW : MWd G m0 (up2 x 15 cN 3) z H := MWd.putA 15 hW rfl e1 o1 (mfs_up rfl) (by decide) (by decide)
      refine lv_aload_n C.hx C.hb dX8_appeal_30 rfl (lv_at hl 0 rfl) ?_
      refine g_get (k := 19) (v := .ref (am m0 19)) C hW.1 rfl wu_X8 (by decide) wf_X8_62 rfl rfl dX8_appeal_31 ?_
      refine lv_iload_n C.hx C.hb dX8_appeal_34 rfl (lv_at hl 1 rfl) ?_
      refine lv_aload_n C.hx C.hb dX8_appeal_35 rfl (lv_at hl 0 rfl) ?_
      refine g_get (k := 19) (v := .ref (am m0 19)) C hW.1 rfl wu_X8 (by decide) wf_X8_62 rfl rfl dX8_appeal_36 ?_
      refine lv_iload_n C.hx C.hb dX8_appeal_39 rfl (lv_at hl 1 rfl) ?_
      refine g_iald (f := x 19) (k := cN) C (hW.2.1 19 rfl) rfl (show cN < 400 by omega) (by decide) dX8_appeal_40 ?_
      refine lv_iconst (v := 2) C.hx C.hb dX8_appeal_41 (by decide) ?_
      refine lv_iadd C.hx C.hb dX8_appeal_42 ?_
      refine lv_bipush (v := 9) C.hx C.hb dX8_appeal_43 (by decide) ?_
      refine W.joinI (P := fun jv => jv = (if 9 ≤ ((x 19 cN) + 2) then 9 else (x 19 cN) + 2 : Int32)) 61 ls [.int (nI cN), .ref (am m0 19)] (fun J4 => ?_) (fun v5 hv5 => ?_)
      · refine lv_icmp_ge (tgt := 59) C.hx C.hb dX8_appeal_45 (by decide) (fun c3 => ?_) (fun c3 => ?_)
        · refine lv_bipush (v := 9) C.hx C.hb dX8_appeal_59 (by decide) ?_
          exact J4 _ (by rw [if_pos c3])
        · refine lv_aload_n C.hx C.hb dX8_appeal_48 rfl (lv_at hl 0 rfl) ?_
          refine g_get (k := 19) (v := .ref (am m0 19)) C hW.1 rfl wu_X8 (by decide) wf_X8_62 rfl rfl dX8_appeal_49 ?_
          refine lv_iload_n C.hx C.hb dX8_appeal_52 rfl (lv_at hl 1 rfl) ?_
          refine g_iald (f := x 19) (k := cN) C (hW.2.1 19 rfl) rfl (show cN < 400 by omega) (by decide) dX8_appeal_53 ?_
          refine lv_iconst (v := 2) C.hx C.hb dX8_appeal_54 (by decide) ?_
          refine lv_iadd C.hx C.hb dX8_appeal_55 ?_
          refine lv_goto (tgt := 61) C.hx C.hb dX8_appeal_56 (by decide) ?_
          exact J4 _ (by rw [if_neg c3])
      · refine g_iast (f := x 19) (k := cN) C hS (hW.2.1 19 rfl) (am_A (Or.inl rfl)) rfl (show cN < 400 by omega) (by decide) dX8_appeal_61 (fun H locs e1 o1 z1 hS => ?_)
        have hW : MWd G m0 (up2 (up2 x 15 cN 3) 19 cN v5) z H := MWd.putA 19 hW rfl e1 o1 (mfs_up rfl) (by decide) (by decide)
        refine lv_aload_n C.hx C.hb dX8_appeal_62 rfl (lv_at hl 0 rfl) ?_
        refine g_get (k := 20) (v := .ref (am m0 20)) C hW.1 rfl wu_X8 (by decide) wf_X8_65 rfl rfl dX8_appeal_63 ?_
        refine lv_iload_n C.hx C.hb dX8_appeal_66 rfl (lv_at hl 1 rfl) ?_
        refine lv_iconst (v := 0) C.hx C.hb dX8_appeal_67 (by decide) ?_
        refine g_iast (f := x 20) (k := cN) C hS (hW.2.1 20 rfl) (am_A (Or.inl rfl)) rfl (show cN < 400 by omega) (by decide) dX8_appeal_68 (fun H locs e1 o1 z1 hS => ?_)
        have hW : MWd G m0 (up2 (up2 (up2 x 15 cN 3) 19 cN v5) 20 cN 0) z H := MWd.putA 20 hW rfl e1 o1 (mfs_up rfl) (by decide) (by decide)
        refine lv_aload_n C.hx C.hb dX8_appeal_69 rfl (lv_at hl 0 rfl) ?_
        refine g_get (k := 18) (v := .ref (am m0 18)) C hW.1 rfl wu_X8 (by decide) wf_X8_59 rfl rfl dX8_appeal_70 ?_
        refine lv_iload_n C.hx C.hb dX8_appeal_73 rfl (lv_at hl 1 rfl) ?_
        refine lv_aload_n C.hx C.hb dX8_appeal_74 rfl (lv_at hl 0 rfl) ?_
        refine g_get (k := 0) (v := .int (x 0 0)) C hW.1 rfl wu_X8 (by decide) wf_X8_140 rfl rfl dX8_appeal_75 ?_
        refine g_iast (f := x 18) (k := cN) C hS (hW.2.1 18 rfl) (am_A (Or.inl rfl)) rfl (show cN < 400 by omega) (by decide) dX8_appeal_78 (fun H locs e1 o1 z1 hS => ?_)
        have hW : MWd G m0 (up2 (up2 (up2 (up2 x 15 cN 3) 19 cN v5) 20 cN 0) 18 cN (x 0 0)) z H := MWd.putA 18 hW rfl e1 o1 (mfs_up rfl) (by decide) (by decide)
        refine lv_iconst (v := 1) C.hx C.hb dX8_appeal_79 (by decide) ?_
        exact wI C hr dX8_appeal_80 hS (by subst hv5; unfold s_X8_appeal; (try simp only [tcN]); rw [if_neg c1, if_pos c2]) (by subst hv5; unfold sx_X8_appeal; (try simp only [tcN]); rw [if_neg c1, if_pos c2]; exact hW)
    · refine lv_bipush (v := (-4)) C.hx C.hb dX8_appeal_20 (by decide) ?_
      exact wI C hr dX8_appeal_22 hS (by unfold s_X8_appeal; (try simp only [tcN]); rw [if_neg c1, if_neg c2]) (by unfold sx_X8_appeal; (try simp only [tcN]); rw [if_neg c1, if_neg c2]; exact hW)
  · refine lv_iconst (v := (-1)) C.hx C.hb dX8_appeal_8 (by decide) ?_
    exact wI C hr dX8_appeal_9 hS (by unfold s_X8_appeal; rw [if_pos c1]) (by unfold sx_X8_appeal; rw [if_pos c1]; exact hW)
def s_X8_like (x : Nat → Nat → Int32) (c : Int32) (d : Int32) : Int32 := (if (s_X8_isCase x c) = 0 then (-1) else (if (s_X8_within d 0 8) = 0 then (-1) else s_X8_likeOnes x (tn c) d (-1) : Int32))
set_option maxRecDepth 100000 in
set_option maxHeartbeats 4000000 in
theorem cM_like (l : Launch) (G : GG) (m0 : Nat) (x : Nat → Nat → Int32) (z : Nat → Int64) (hI : MI x) (c : Int32) (d : Int32) : MR l G yX8_like cX8_like 3 (some .int) 1 [.ref m0, .int c, .int d] (MWd G m0 x z) (some (.int (s_X8_like x c d))) := by
  refine MR.of RX8 rfl (by decide) (Nat.le_of_ble_eq_true rfl) ?_
  intro p_ e_ s_ m_ args_ below_ meth_ c_ ls hargs C hr hnm hW hl
  obtain ⟨⟨eP, bP⟩, ⟨eC, bC⟩, ⟨eG, bG⟩, ⟨eV, bV⟩, -, -⟩ := id hI
  have hl : lv_has ls 3 [(0, .ref m0), (1, .int c), (2, .int d)] := hl
  refine lv_aload_n C.hx C.hb dX8_like_0 rfl (lv_at hl 0 rfl) ?_
  refine lv_iload_n C.hx C.hb dX8_like_1 rfl (lv_at hl 1 rfl) ?_
  refine kVR (As := [.int c]) (rest := []) (v := .int (s_X8_isCase x c)) C (cM_isCase l G m0 x z hI c) lk_X8_184 (g_recv C hW.1 rfl) hW rfl rfl hl (Nat.le_of_ble_eq_true rfl) dX8_like_2 ⟨⟨by decide, by decide⟩, by decide, by decide⟩ ?_
  refine lv_if_eq (tgt := 28) C.hx C.hb dX8_like_5 (by decide) (fun c1 => ?_) (fun c1 => ?_)
  · refine lv_iconst (v := (-1)) C.hx C.hb dX8_like_28 (by decide) ?_
    exact rI C hr dX8_like_29 (by unfold s_X8_like; rw [if_pos c1])
  · obtain ⟨cN, hcN, rfl⟩ := isCase_nz hI c1
    have tcN : tn (nI cN) = cN := nI_clamp (by omega)
    refine lv_iload_n C.hx C.hb dX8_like_8 rfl (lv_at hl 2 rfl) ?_
    refine lv_iconst (v := 0) C.hx C.hb dX8_like_9 (by decide) ?_
    refine lv_bipush (v := 8) C.hx C.hb dX8_like_10 (by decide) ?_
    refine kSR (As := [.int d, .int 0, .int 8]) (rest := []) (v := .int (s_X8_within d 0 8)) C (cM_within l G d 0 8) lk_X8_136 trivial rfl rfl hl (Nat.le_of_ble_eq_true rfl) dX8_like_12 ⟨⟨by decide, by decide⟩, by decide, by decide⟩ ?_
    refine W.joinI (P := fun jv => jv = (if (s_X8_within d 0 8) = 0 then (-1) else s_X8_likeOnes x cN d (-1) : Int32)) 29 ls [] (fun J3 => ?_) (fun v4 hv4 => ?_)
    · refine lv_if_eq (tgt := 28) C.hx C.hb dX8_like_15 (by decide) (fun c2 => ?_) (fun c2 => ?_)
      · refine lv_iconst (v := (-1)) C.hx C.hb dX8_like_28 (by decide) ?_
        exact J3 _ (by rw [if_pos c2])
      · refine lv_aload_n C.hx C.hb dX8_like_18 rfl (lv_at hl 0 rfl) ?_
        refine lv_iload_n C.hx C.hb dX8_like_19 rfl (lv_at hl 1 rfl) ?_
        refine lv_iload_n C.hx C.hb dX8_like_20 rfl (lv_at hl 2 rfl) ?_
        refine lv_iconst (v := (-1)) C.hx C.hb dX8_like_21 (by decide) ?_
        refine kVR (As := [.int (nI cN), .int d, .int ((-1))]) (rest := []) (v := .int (s_X8_likeOnes x cN d (-1))) C (cM_likeOnes l G m0 x z hI cN d (-1) (by omega)) lk_X8_206 (g_recv C hW.1 rfl) hW rfl rfl hl (Nat.le_of_ble_eq_true rfl) dX8_like_22 ⟨⟨by decide, by decide⟩, by decide, by decide⟩ ?_
        refine lv_goto (tgt := 29) C.hx C.hb dX8_like_25 (by decide) ?_
        exact J3 _ (by rw [if_neg c2])
    · exact rI C hr dX8_like_29 (by subst hv4; unfold s_X8_like; (try simp only [tcN]); rw [if_neg c1])
def s_X8_unlike (x : Nat → Nat → Int32) (c : Int32) (d : Int32) : Int32 := (if (s_X8_isCase x c) = 0 then (-1) else (if (s_X8_within d 0 8) = 0 then (-1) else (if (s_X8_likeOnes x (tn c) d 1) = (s_X8_likeOnes x (tn c) d 0) then 0 else (if (s_X8_likeOnes x (tn c) d 0) ≤ (s_X8_likeOnes x (tn c) d 1) then s_X8_likeOnes x (tn c) d 0 else s_X8_likeOnes x (tn c) d 1 : Int32) : Int32)))
set_option maxRecDepth 100000 in
set_option maxHeartbeats 4000000 in
theorem cM_unlike (l : Launch) (G : GG) (m0 : Nat) (x : Nat → Nat → Int32) (z : Nat → Int64) (hI : MI x) (c : Int32) (d : Int32) : MR l G yX8_unlike cX8_unlike 5 (some .int) 1 [.ref m0, .int c, .int d] (MWd G m0 x z) (some (.int (s_X8_unlike x c d))) := by
  refine MR.of RX8 rfl (by decide) (Nat.le_of_ble_eq_true rfl) ?_
  intro p_ e_ s_ m_ args_ below_ meth_ c_ ls hargs C hr hnm hW hl
  obtain ⟨⟨eP, bP⟩, ⟨eC, bC⟩, ⟨eG, bG⟩, ⟨eV, bV⟩, -, -⟩ := id hI
  have hl : lv_has ls 5 [(0, .ref m0), (1, .int c), (2, .int d)] := hl
  refine lv_aload_n C.hx C.hb dX8_unlike_0 rfl (lv_at hl 0 rfl) ?_
  refine lv_iload_n C.hx C.hb dX8_unlike_1 rfl (lv_at hl 1 rfl) ?_
  refine kVR (As := [.int c]) (rest := []) (v := .int (s_X8_isCase x c)) C (cM_isCase l G m0 x z hI c) lk_X8_184 (g_recv C hW.1 rfl) hW rfl rfl hl (Nat.le_of_ble_eq_true rfl) dX8_unlike_2 ⟨⟨by decide, by decide⟩, by decide, by decide⟩ ?_
  refine lv_if_eq (tgt := 18) C.hx C.hb dX8_unlike_5 (by decide) (fun c1 => ?_) (fun c1 => ?_)
  · refine lv_iconst (v := (-1)) C.hx C.hb dX8_unlike_18 (by decide) ?_
    exact rI C hr dX8_unlike_19 (by unfold s_X8_unlike; rw [if_pos c1])
  · obtain ⟨cN, hcN, rfl⟩ := isCase_nz hI c1
    have tcN : tn (nI cN) = cN := nI_clamp (by omega)
    refine lv_iload_n C.hx C.hb dX8_unlike_8 rfl (lv_at hl 2 rfl) ?_
    refine lv_iconst (v := 0) C.hx C.hb dX8_unlike_9 (by decide) ?_
    refine lv_bipush (v := 8) C.hx C.hb dX8_unlike_10 (by decide) ?_
    refine kSR (As := [.int d, .int 0, .int 8]) (rest := []) (v := .int (s_X8_within d 0 8)) C (cM_within l G d 0 8) lk_X8_136 trivial rfl rfl hl (Nat.le_of_ble_eq_true rfl) dX8_unlike_12 ⟨⟨by decide, by decide⟩, by decide, by decide⟩ ?_
    refine lv_if_ne (tgt := 20) C.hx C.hb dX8_unlike_15 (by decide) (fun c2 => ?_) (fun c2 => ?_)
    · refine lv_aload_n C.hx C.hb dX8_unlike_20 rfl (lv_at hl 0 rfl) ?_
      refine lv_iload_n C.hx C.hb dX8_unlike_21 rfl (lv_at hl 1 rfl) ?_
      refine lv_iload_n C.hx C.hb dX8_unlike_22 rfl (lv_at hl 2 rfl) ?_
      refine lv_iconst (v := 1) C.hx C.hb dX8_unlike_23 (by decide) ?_
      refine kVR (As := [.int (nI cN), .int d, .int 1]) (rest := []) (v := .int (s_X8_likeOnes x cN d 1)) C (cM_likeOnes l G m0 x z hI cN d 1 (by omega)) lk_X8_206 (g_recv C hW.1 rfl) hW rfl rfl hl (Nat.le_of_ble_eq_true rfl) dX8_unlike_24 ⟨⟨by decide, by decide⟩, by decide, by decide⟩ ?_
      refine lv_istore_n (lv' := [(3, .int (s_X8_likeOnes x cN d 1)), (0, .ref m0), (1, .int (nI cN)), (2, .int d)]) C.hx C.hb dX8_unlike_27 rfl hl (by decide) rfl (fun ls hl => ?_)
      refine lv_aload_n C.hx C.hb dX8_unlike_28 rfl (lv_at hl 1 rfl) ?_
      refine lv_iload_n C.hx C.hb dX8_unlike_29 rfl (lv_at hl 2 rfl) ?_
      refine lv_iload_n C.hx C.hb dX8_unlike_30 rfl (lv_at hl 3 rfl) ?_
      refine lv_iconst (v := 0) C.hx C.hb dX8_unlike_31 (by decide) ?_
      refine kVR (As := [.int (nI cN), .int d, .int 0]) (rest := []) (v := .int (s_X8_likeOnes x cN d 0)) C (cM_likeOnes l G m0 x z hI cN d 0 (by omega)) lk_X8_206 (g_recv C hW.1 rfl) hW rfl rfl hl (Nat.le_of_ble_eq_true rfl) dX8_unlike_32 ⟨⟨by decide, by decide⟩, by decide, by decide⟩ ?_
      refine lv_istore (lv' := [(4, .int (s_X8_likeOnes x cN d 0)), (3, .int (s_X8_likeOnes x cN d 1)), (0, .ref m0), (1, .int (nI cN)), (2, .int d)]) C.hx C.hb dX8_unlike_35 hl (by decide) rfl (fun ls hl => ?_)
      refine lv_iload_n C.hx C.hb dX8_unlike_37 rfl (lv_at hl 1 rfl) ?_
      refine lv_iload C.hx C.hb dX8_unlike_38 (lv_at hl 0 rfl) ?_
      refine W.joinI (P := fun jv => jv = (if (s_X8_likeOnes x cN d 1) = (s_X8_likeOnes x cN d 0) then 0 else (if (s_X8_likeOnes x cN d 0) ≤ (s_X8_likeOnes x cN d 1) then s_X8_likeOnes x cN d 0 else s_X8_likeOnes x cN d 1 : Int32) : Int32)) 59 ls [] (fun J5 => ?_) (fun v6 hv6 => ?_)
      · refine lv_icmp_ne (tgt := 47) C.hx C.hb dX8_unlike_40 (by decide) (fun c3 => ?_) (fun c3 => ?_)
        · refine lv_iload_n C.hx C.hb dX8_unlike_47 rfl (lv_at hl 1 rfl) ?_
          refine lv_iload C.hx C.hb dX8_unlike_48 (lv_at hl 0 rfl) ?_
          refine lv_icmp_ge (tgt := 57) C.hx C.hb dX8_unlike_50 (by decide) (fun c4 => ?_) (fun c4 => ?_)
          · refine lv_iload C.hx C.hb dX8_unlike_57 (lv_at hl 0 rfl) ?_
            exact J5 _ (by rw [if_neg c3, if_pos c4])
          · refine lv_iload_n C.hx C.hb dX8_unlike_53 rfl (lv_at hl 1 rfl) ?_
            refine lv_goto (tgt := 59) C.hx C.hb dX8_unlike_54 (by decide) ?_
            exact J5 _ (by rw [if_neg c3, if_neg c4])
        · refine lv_iconst (v := 0) C.hx C.hb dX8_unlike_43 (by decide) ?_
          refine lv_goto (tgt := 59) C.hx C.hb dX8_unlike_44 (by decide) ?_
          exact J5 _ (by rw [if_pos c3])
      · exact rI C hr dX8_unlike_59 (by subst hv6; unfold s_X8_unlike; (try simp only [tcN]); rw [if_neg c1, if_neg c2])
    · refine lv_iconst (v := (-1)) C.hx C.hb dX8_unlike_18 (by decide) ?_
      exact rI C hr dX8_unlike_19 (by unfold s_X8_unlike; (try simp only [tcN]); rw [if_neg c1, if_pos c2])
def s_X8_hidden (x : Nat → Nat → Int32) (pp : Int32) : Int32 := (if pp < 0 then (-1) else (if (x 12 0) ≤ pp then (-1) else (if (s_X8_isHidden x pp) = 0 then 0 else 1 : Int32) : Int32) : Int32)
set_option maxRecDepth 100000 in
set_option maxHeartbeats 4000000 in
theorem cM_hidden (l : Launch) (G : GG) (m0 : Nat) (x : Nat → Nat → Int32) (z : Nat → Int64) (hI : MI x) (pp : Int32) : MR l G yX8_hidden cX8_hidden 2 (some .int) 2 [.ref m0, .int pp] (MWd G m0 x z) (some (.int (s_X8_hidden x pp))) := by
  refine MR.of RX8 rfl (by decide) (Nat.le_of_ble_eq_true rfl) ?_
  intro p_ e_ s_ m_ args_ below_ meth_ c_ ls hargs C hr hnm hW hl
  obtain ⟨⟨eP, bP⟩, ⟨eC, bC⟩, ⟨eG, bG⟩, ⟨eV, bV⟩, -, -⟩ := id hI
  have hl : lv_has ls 2 [(0, .ref m0), (1, .int pp)] := hl
  refine lv_iload_n C.hx C.hb dX8_hidden_0 rfl (lv_at hl 1 rfl) ?_
  refine W.joinI (P := fun jv => jv = (if pp < 0 then (-1) else (if (x 12 0) ≤ pp then (-1) else (if (s_X8_isHidden x pp) = 0 then 0 else 1 : Int32) : Int32) : Int32)) 29 ls [] (fun J4 => ?_) (fun v5 hv5 => ?_)
  · refine lv_if_lt (tgt := 28) C.hx C.hb dX8_hidden_1 (by decide) (fun c1 => ?_) (fun c1 => ?_)
    · refine lv_iconst (v := (-1)) C.hx C.hb dX8_hidden_28 (by decide) ?_
      exact J4 _ (by rw [if_pos c1])
    · refine lv_iload_n C.hx C.hb dX8_hidden_4 rfl (lv_at hl 1 rfl) ?_
      refine lv_aload_n C.hx C.hb dX8_hidden_5 rfl (lv_at hl 0 rfl) ?_
      refine g_get (k := 12) (v := .int (x 12 0)) C hW.1 rfl wu_X8 (by decide) wf_X8_144 rfl rfl dX8_hidden_6 ?_
      refine lv_icmp_ge (tgt := 28) C.hx C.hb dX8_hidden_9 (by decide) (fun c2 => ?_) (fun c2 => ?_)
      · refine lv_iconst (v := (-1)) C.hx C.hb dX8_hidden_28 (by decide) ?_
        exact J4 _ (by rw [if_neg c1, if_pos c2])
      · refine lv_aload_n C.hx C.hb dX8_hidden_12 rfl (lv_at hl 0 rfl) ?_
        refine lv_iload_n C.hx C.hb dX8_hidden_13 rfl (lv_at hl 1 rfl) ?_
        refine kVR (As := [.int pp]) (rest := []) (v := .int (s_X8_isHidden x pp)) C (cM_isHidden l G m0 x z hI pp) lk_X8_219 (g_recv C hW.1 rfl) hW rfl rfl hl (Nat.le_of_ble_eq_true rfl) dX8_hidden_14 ⟨⟨by decide, by decide⟩, by decide, by decide⟩ ?_
        refine lv_if_eq (tgt := 24) C.hx C.hb dX8_hidden_17 (by decide) (fun c3 => ?_) (fun c3 => ?_)
        · refine lv_iconst (v := 0) C.hx C.hb dX8_hidden_24 (by decide) ?_
          refine lv_goto (tgt := 29) C.hx C.hb dX8_hidden_25 (by decide) ?_
          exact J4 _ (by rw [if_neg c1, if_neg c2, if_pos c3])
        · refine lv_iconst (v := 1) C.hx C.hb dX8_hidden_20 (by decide) ?_
          refine lv_goto (tgt := 29) C.hx C.hb dX8_hidden_21 (by decide) ?_
          exact J4 _ (by rw [if_neg c1, if_neg c2, if_neg c3])
  · exact rI C hr dX8_hidden_29 (by subst hv5; unfold s_X8_hidden; try rfl)
end
