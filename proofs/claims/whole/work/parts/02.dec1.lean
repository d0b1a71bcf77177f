theorem dX0_init_0 : decode cX0_init 0 = .ok (.aload_n 0, 1) := by decide +kernel
theorem dX0_init_1 : decode cX0_init 1 = .ok (.invokespecial 3, 3) := by decide +kernel
theorem dX0_init_4 : decode cX0_init 4 = .ok (.aload_n 0, 1) := by decide +kernel
theorem dX0_init_5 : decode cX0_init 5 = .ok (.aconst_null, 1) := by decide +kernel
theorem dX0_init_6 : decode cX0_init 6 = .ok (.putfield 9, 3) := by decide +kernel
theorem dX0_init_9 : decode cX0_init 9 = .ok (.aload_n 0, 1) := by decide +kernel
theorem dX0_init_10 : decode cX0_init 10 = .ok (.iconst 1, 1) := by decide +kernel
theorem dX0_init_11 : decode cX0_init 11 = .ok (.putfield 15, 3) := by decide +kernel
theorem dX0_init_14 : decode cX0_init 14 = .ok (.aload_n 0, 1) := by decide +kernel
theorem dX0_init_15 : decode cX0_init 15 = .ok (.iconst 0, 1) := by decide +kernel
theorem dX0_init_16 : decode cX0_init 16 = .ok (.putfield 19, 3) := by decide +kernel
theorem dX0_init_19 : decode cX0_init 19 = .ok (.aload_n 0, 1) := by decide +kernel
theorem dX0_init_20 : decode cX0_init 20 = .ok (.iconst (-1), 1) := by decide +kernel
theorem dX0_init_21 : decode cX0_init 21 = .ok (.putfield 22, 3) := by decide +kernel
theorem dX0_init_24 : decode cX0_init 24 = .ok (.aload_n 0, 1) := by decide +kernel
theorem dX0_init_25 : decode cX0_init 25 = .ok (.iconst 0, 1) := by decide +kernel
theorem dX0_init_26 : decode cX0_init 26 = .ok (.putfield 25, 3) := by decide +kernel
theorem dX0_init_29 : decode cX0_init 29 = .ok (.aload_n 0, 1) := by decide +kernel
theorem dX0_init_30 : decode cX0_init 30 = .ok (.aconst_null, 1) := by decide +kernel
theorem dX0_init_31 : decode cX0_init 31 = .ok (.putfield 28, 3) := by decide +kernel
theorem dX0_init_34 : decode cX0_init 34 = .ok (.aload_n 0, 1) := by decide +kernel
theorem dX0_init_35 : decode cX0_init 35 = .ok (.iload_n 1, 1) := by decide +kernel
theorem dX0_init_36 : decode cX0_init 36 = .ok (.putfield 32, 3) := by decide +kernel
theorem dX0_init_39 : decode cX0_init 39 = .ok (.aload_n 0, 1) := by decide +kernel
theorem dX0_init_40 : decode cX0_init 40 = .ok (.aload_n 2, 1) := by decide +kernel
theorem dX0_init_41 : decode cX0_init 41 = .ok (.putfield 35, 3) := by decide +kernel
theorem dX0_init_44 : decode cX0_init 44 = .ok (.aload_n 0, 1) := by decide +kernel
theorem dX0_init_45 : decode cX0_init 45 = .ok (.aload_n 3, 1) := by decide +kernel
theorem dX0_init_46 : decode cX0_init 46 = .ok (.putfield 39, 3) := by decide +kernel
theorem dX0_init_49 : decode cX0_init 49 = .ok (.aload_n 0, 1) := by decide +kernel
theorem dX0_init_50 : decode cX0_init 50 = .ok (.aload_n 3, 1) := by decide +kernel
theorem dX0_init_51 : decode cX0_init 51 = .ok (.getfield 43, 3) := by decide +kernel
theorem dX0_init_54 : decode cX0_init 54 = .ok (.putfield 48, 3) := by decide +kernel
theorem dX0_init_57 : decode cX0_init 57 = .ok (.aload_n 0, 1) := by decide +kernel
theorem dX0_init_58 : decode cX0_init 58 = .ok (.new 49, 3) := by decide +kernel
theorem dX0_init_61 : decode cX0_init 61 = .ok (.dup, 1) := by decide +kernel
theorem dX0_init_62 : decode cX0_init 62 = .ok (.iconst 1, 1) := by decide +kernel
theorem dX0_init_63 : decode cX0_init 63 = .ok (.iconst 2, 1) := by decide +kernel
theorem dX0_init_64 : decode cX0_init 64 = .ok (.aload_n 3, 1) := by decide +kernel
theorem dX0_init_65 : decode cX0_init 65 = .ok (.getfield 43, 3) := by decide +kernel
theorem dX0_init_68 : decode cX0_init 68 = .ok (.imul, 1) := by decide +kernel
theorem dX0_init_69 : decode cX0_init 69 = .ok (.iadd, 1) := by decide +kernel
theorem dX0_init_70 : decode cX0_init 70 = .ok (.invokespecial 51, 3) := by decide +kernel
theorem dX0_init_73 : decode cX0_init 73 = .ok (.putfield 54, 3) := by decide +kernel
theorem dX0_init_76 : decode cX0_init 76 = .ok (.aload_n 0, 1) := by decide +kernel
theorem dX0_init_77 : decode cX0_init 77 = .ok (.iload 4, 2) := by decide +kernel
theorem dX0_init_79 : decode cX0_init 79 = .ok (.putfield 57, 3) := by decide +kernel
theorem dX0_init_82 : decode cX0_init 82 = .ok (.return_, 1) := by decide +kernel
theorem dX0_hearing_0 : decode cX0_hearing 0 = .ok (.aload_n 0, 1) := by decide +kernel
theorem dX0_hearing_1 : decode cX0_hearing 1 = .ok (.getfield 9, 3) := by decide +kernel
theorem dX0_hearing_4 : decode cX0_hearing 4 = .ok (.ifnonnull 10, 3) := by decide +kernel
theorem dX0_hearing_7 : decode cX0_hearing 7 = .ok (.aload_n 0, 1) := by decide +kernel
theorem dX0_hearing_8 : decode cX0_hearing 8 = .ok (.getfield 54, 3) := by decide +kernel
theorem dX0_hearing_11 : decode cX0_hearing 11 = .ok (.goto 7, 3) := by decide +kernel
theorem dX0_hearing_14 : decode cX0_hearing 14 = .ok (.aload_n 0, 1) := by decide +kernel
theorem dX0_hearing_15 : decode cX0_hearing 15 = .ok (.getfield 9, 3) := by decide +kernel
theorem dX0_hearing_18 : decode cX0_hearing 18 = .ok (.areturn, 1) := by decide +kernel
theorem dX0_isUndecided_0 : decode cX0_isUndecided 0 = .ok (.aload_n 0, 1) := by decide +kernel
theorem dX0_isUndecided_1 : decode cX0_isUndecided 1 = .ok (.getfield 19, 3) := by decide +kernel
theorem dX0_isUndecided_4 : decode cX0_isUndecided 4 = .ok (.ifCond .eq 11, 3) := by decide +kernel
theorem dX0_isUndecided_7 : decode cX0_isUndecided 7 = .ok (.aload_n 0, 1) := by decide +kernel
theorem dX0_isUndecided_8 : decode cX0_isUndecided 8 = .ok (.getfield 19, 3) := by decide +kernel
theorem dX0_isUndecided_11 : decode cX0_isUndecided 11 = .ok (.iconst 3, 1) := by decide +kernel
theorem dX0_isUndecided_12 : decode cX0_isUndecided 12 = .ok (.if_icmp .ne 7, 3) := by decide +kernel
theorem dX0_isUndecided_15 : decode cX0_isUndecided 15 = .ok (.iconst 1, 1) := by decide +kernel
theorem dX0_isUndecided_16 : decode cX0_isUndecided 16 = .ok (.goto 4, 3) := by decide +kernel
theorem dX0_isUndecided_19 : decode cX0_isUndecided 19 = .ok (.iconst 0, 1) := by decide +kernel
theorem dX0_isUndecided_20 : decode cX0_isUndecided 20 = .ok (.ireturn, 1) := by decide +kernel
theorem dX0_guiltStands_0 : decode cX0_guiltStands 0 = .ok (.aload_n 0, 1) := by decide +kernel
theorem dX0_guiltStands_1 : decode cX0_guiltStands 1 = .ok (.getfield 19, 3) := by decide +kernel
theorem dX0_guiltStands_4 : decode cX0_guiltStands 4 = .ok (.iconst 2, 1) := by decide +kernel
theorem dX0_guiltStands_5 : decode cX0_guiltStands 5 = .ok (.if_icmp .eq 19, 3) := by decide +kernel
theorem dX0_guiltStands_8 : decode cX0_guiltStands 8 = .ok (.aload_n 0, 1) := by decide +kernel
theorem dX0_guiltStands_9 : decode cX0_guiltStands 9 = .ok (.getfield 19, 3) := by decide +kernel
theorem dX0_guiltStands_12 : decode cX0_guiltStands 12 = .ok (.iconst 3, 1) := by decide +kernel
theorem dX0_guiltStands_13 : decode cX0_guiltStands 13 = .ok (.if_icmp .eq 11, 3) := by decide +kernel
theorem dX0_guiltStands_16 : decode cX0_guiltStands 16 = .ok (.aload_n 0, 1) := by decide +kernel
theorem dX0_guiltStands_17 : decode cX0_guiltStands 17 = .ok (.getfield 19, 3) := by decide +kernel
theorem dX0_guiltStands_20 : decode cX0_guiltStands 20 = .ok (.iconst 5, 1) := by decide +kernel
theorem dX0_guiltStands_21 : decode cX0_guiltStands 21 = .ok (.if_icmp .ne 7, 3) := by decide +kernel
theorem dX0_guiltStands_24 : decode cX0_guiltStands 24 = .ok (.iconst 1, 1) := by decide +kernel
theorem dX0_guiltStands_25 : decode cX0_guiltStands 25 = .ok (.goto 4, 3) := by decide +kernel
theorem dX0_guiltStands_28 : decode cX0_guiltStands 28 = .ok (.iconst 0, 1) := by decide +kernel
theorem dX0_guiltStands_29 : decode cX0_guiltStands 29 = .ok (.ireturn, 1) := by decide +kernel
theorem dX0_bringsStrike_0 : decode cX0_bringsStrike 0 = .ok (.aload_n 0, 1) := by decide +kernel
theorem dX0_bringsStrike_1 : decode cX0_bringsStrike 1 = .ok (.invokevirtual 60, 3) := by decide +kernel
theorem dX0_bringsStrike_4 : decode cX0_bringsStrike 4 = .ok (.ifCond .eq 18, 3) := by decide +kernel
theorem dX0_bringsStrike_7 : decode cX0_bringsStrike 7 = .ok (.aload_n 0, 1) := by decide +kernel
theorem dX0_bringsStrike_8 : decode cX0_bringsStrike 8 = .ok (.getfield 39, 3) := by decide +kernel
theorem dX0_bringsStrike_11 : decode cX0_bringsStrike 11 = .ok (.getfield 64, 3) := by decide +kernel
theorem dX0_bringsStrike_14 : decode cX0_bringsStrike 14 = .ok (.iconst 2, 1) := by decide +kernel
theorem dX0_bringsStrike_15 : decode cX0_bringsStrike 15 = .ok (.if_icmp .ne 7, 3) := by decide +kernel
theorem dX0_bringsStrike_18 : decode cX0_bringsStrike 18 = .ok (.iconst 1, 1) := by decide +kernel
theorem dX0_bringsStrike_19 : decode cX0_bringsStrike 19 = .ok (.goto 4, 3) := by decide +kernel
theorem dX0_bringsStrike_22 : decode cX0_bringsStrike 22 = .ok (.iconst 0, 1) := by decide +kernel
theorem dX0_bringsStrike_23 : decode cX0_bringsStrike 23 = .ok (.ireturn, 1) := by decide +kernel
theorem dX0_giftsOut_0 : decode cX0_giftsOut 0 = .ok (.aload_n 0, 1) := by decide +kernel
theorem dX0_giftsOut_1 : decode cX0_giftsOut 1 = .ok (.getfield 25, 3) := by decide +kernel
theorem dX0_giftsOut_4 : decode cX0_giftsOut 4 = .ok (.invokestatic 67, 3) := by decide +kernel
theorem dX0_giftsOut_7 : decode cX0_giftsOut 7 = .ok (.ireturn, 1) := by decide +kernel
theorem dX0_wantsJudges_0 : decode cX0_wantsJudges 0 = .ok (.aload_n 0, 1) := by decide +kernel
theorem dX0_wantsJudges_1 : decode cX0_wantsJudges 1 = .ok (.invokevirtual 73, 3) := by decide +kernel
theorem dX0_wantsJudges_4 : decode cX0_wantsJudges 4 = .ok (.getfield 77, 3) := by decide +kernel
theorem dX0_wantsJudges_7 : decode cX0_wantsJudges 7 = .ok (.aload_n 0, 1) := by decide +kernel
theorem dX0_wantsJudges_8 : decode cX0_wantsJudges 8 = .ok (.invokevirtual 73, 3) := by decide +kernel
theorem dX0_wantsJudges_11 : decode cX0_wantsJudges 11 = .ok (.invokevirtual 80, 3) := by decide +kernel
theorem dX0_wantsJudges_14 : decode cX0_wantsJudges 14 = .ok (.aload_n 0, 1) := by decide +kernel
theorem dX0_wantsJudges_15 : decode cX0_wantsJudges 15 = .ok (.invokevirtual 84, 3) := by decide +kernel
theorem dX0_wantsJudges_18 : decode cX0_wantsJudges 18 = .ok (.iadd, 1) := by decide +kernel
theorem dX0_wantsJudges_19 : decode cX0_wantsJudges 19 = .ok (.if_icmp .le 7, 3) := by decide +kernel
theorem dX0_wantsJudges_22 : decode cX0_wantsJudges 22 = .ok (.iconst 1, 1) := by decide +kernel
theorem dX0_wantsJudges_23 : decode cX0_wantsJudges 23 = .ok (.goto 4, 3) := by decide +kernel
theorem dX0_wantsJudges_26 : decode cX0_wantsJudges 26 = .ok (.iconst 0, 1) := by decide +kernel
theorem dX0_wantsJudges_27 : decode cX0_wantsJudges 27 = .ok (.ireturn, 1) := by decide +kernel
theorem dX0_isHeldBy_0 : decode cX0_isHeldBy 0 = .ok (.aload_n 0, 1) := by decide +kernel
theorem dX0_isHeldBy_1 : decode cX0_isHeldBy 1 = .ok (.getfield 25, 3) := by decide +kernel
theorem dX0_isHeldBy_4 : decode cX0_isHeldBy 4 = .ok (.aload_n 1, 1) := by decide +kernel
theorem dX0_isHeldBy_5 : decode cX0_isHeldBy 5 = .ok (.getfield 87, 3) := by decide +kernel
theorem dX0_isHeldBy_8 : decode cX0_isHeldBy 8 = .ok (.iand, 1) := by decide +kernel
theorem dX0_isHeldBy_9 : decode cX0_isHeldBy 9 = .ok (.ifCond .eq 7, 3) := by decide +kernel
theorem dX0_isHeldBy_12 : decode cX0_isHeldBy 12 = .ok (.iconst 1, 1) := by decide +kernel
theorem dX0_isHeldBy_13 : decode cX0_isHeldBy 13 = .ok (.goto 4, 3) := by decide +kernel
theorem dX0_isHeldBy_16 : decode cX0_isHeldBy 16 = .ok (.iconst 0, 1) := by decide +kernel
theorem dX0_isHeldBy_17 : decode cX0_isHeldBy 17 = .ok (.ireturn, 1) := by decide +kernel
theorem dX0_hasVoteOf_0 : decode cX0_hasVoteOf 0 = .ok (.aload_n 0, 1) := by decide +kernel
theorem dX0_hasVoteOf_1 : decode cX0_hasVoteOf 1 = .ok (.getfield 54, 3) := by decide +kernel
theorem dX0_hasVoteOf_4 : decode cX0_hasVoteOf 4 = .ok (.aload_n 1, 1) := by decide +kernel
theorem dX0_hasVoteOf_5 : decode cX0_hasVoteOf 5 = .ok (.invokevirtual 92, 3) := by decide +kernel
theorem dX0_hasVoteOf_8 : decode cX0_hasVoteOf 8 = .ok (.ifCond .ne 21, 3) := by decide +kernel
theorem dX0_hasVoteOf_11 : decode cX0_hasVoteOf 11 = .ok (.aload_n 0, 1) := by decide +kernel
theorem dX0_hasVoteOf_12 : decode cX0_hasVoteOf 12 = .ok (.getfield 9, 3) := by decide +kernel
theorem dX0_hasVoteOf_15 : decode cX0_hasVoteOf 15 = .ok (.ifnull 18, 3) := by decide +kernel
theorem dX0_hasVoteOf_18 : decode cX0_hasVoteOf 18 = .ok (.aload_n 0, 1) := by decide +kernel
theorem dX0_hasVoteOf_19 : decode cX0_hasVoteOf 19 = .ok (.getfield 9, 3) := by decide +kernel
theorem dX0_hasVoteOf_22 : decode cX0_hasVoteOf 22 = .ok (.aload_n 1, 1) := by decide +kernel
theorem dX0_hasVoteOf_23 : decode cX0_hasVoteOf 23 = .ok (.invokevirtual 92, 3) := by decide +kernel
theorem dX0_hasVoteOf_26 : decode cX0_hasVoteOf 26 = .ok (.ifCond .eq 7, 3) := by decide +kernel
theorem dX0_hasVoteOf_29 : decode cX0_hasVoteOf 29 = .ok (.iconst 1, 1) := by decide +kernel
theorem dX0_hasVoteOf_30 : decode cX0_hasVoteOf 30 = .ok (.goto 4, 3) := by decide +kernel
theorem dX0_hasVoteOf_33 : decode cX0_hasVoteOf 33 = .ok (.iconst 0, 1) := by decide +kernel
theorem dX0_hasVoteOf_34 : decode cX0_hasVoteOf 34 = .ok (.ireturn, 1) := by decide +kernel
theorem dX0_hearAgain_0 : decode cX0_hearAgain 0 = .ok (.aload_n 0, 1) := by decide +kernel
theorem dX0_hearAgain_1 : decode cX0_hearAgain 1 = .ok (.new 49, 3) := by decide +kernel
theorem dX0_hearAgain_4 : decode cX0_hearAgain 4 = .ok (.dup, 1) := by decide +kernel
theorem dX0_hearAgain_5 : decode cX0_hearAgain 5 = .ok (.bipush 9, 2) := by decide +kernel
theorem dX0_hearAgain_7 : decode cX0_hearAgain 7 = .ok (.aload_n 0, 1) := by decide +kernel
theorem dX0_hearAgain_8 : decode cX0_hearAgain 8 = .ok (.getfield 54, 3) := by decide +kernel
theorem dX0_hearAgain_11 : decode cX0_hearAgain 11 = .ok (.getfield 77, 3) := by decide +kernel
theorem dX0_hearAgain_14 : decode cX0_hearAgain 14 = .ok (.iconst 2, 1) := by decide +kernel
theorem dX0_hearAgain_15 : decode cX0_hearAgain 15 = .ok (.iadd, 1) := by decide +kernel
theorem dX0_hearAgain_16 : decode cX0_hearAgain 16 = .ok (.invokestatic 96, 3) := by decide +kernel
theorem dX0_hearAgain_19 : decode cX0_hearAgain 19 = .ok (.invokespecial 51, 3) := by decide +kernel
theorem dX0_hearAgain_22 : decode cX0_hearAgain 22 = .ok (.putfield 9, 3) := by decide +kernel
theorem dX0_hearAgain_25 : decode cX0_hearAgain 25 = .ok (.aload_n 0, 1) := by decide +kernel
theorem dX0_hearAgain_26 : decode cX0_hearAgain 26 = .ok (.iload_n 1, 1) := by decide +kernel
theorem dX0_hearAgain_27 : decode cX0_hearAgain 27 = .ok (.putfield 57, 3) := by decide +kernel
theorem dX0_hearAgain_30 : decode cX0_hearAgain 30 = .ok (.aload_n 0, 1) := by decide +kernel
theorem dX0_hearAgain_31 : decode cX0_hearAgain 31 = .ok (.iconst 3, 1) := by decide +kernel
theorem dX0_hearAgain_32 : decode cX0_hearAgain 32 = .ok (.putfield 19, 3) := by decide +kernel
theorem dX0_hearAgain_35 : decode cX0_hearAgain 35 = .ok (.return_, 1) := by decide +kernel
theorem dX0_close_0 : decode cX0_close 0 = .ok (.aload_n 0, 1) := by decide +kernel
theorem dX0_close_1 : decode cX0_close 1 = .ok (.invokevirtual 73, 3) := by decide +kernel
theorem dX0_close_4 : decode cX0_close 4 = .ok (.astore_n 1, 1) := by decide +kernel
theorem dX0_close_5 : decode cX0_close 5 = .ok (.aload_n 1, 1) := by decide +kernel
theorem dX0_close_6 : decode cX0_close 6 = .ok (.iconst 1, 1) := by decide +kernel
theorem dX0_close_7 : decode cX0_close 7 = .ok (.putfield 102, 3) := by decide +kernel
theorem dX0_close_10 : decode cX0_close 10 = .ok (.aload_n 0, 1) := by decide +kernel
theorem dX0_close_11 : decode cX0_close 11 = .ok (.getfield 19, 3) := by decide +kernel
theorem dX0_close_14 : decode cX0_close 14 = .ok (.iconst 3, 1) := by decide +kernel
theorem dX0_close_15 : decode cX0_close 15 = .ok (.if_icmp .ne 22, 3) := by decide +kernel
theorem dX0_close_18 : decode cX0_close 18 = .ok (.aload_n 0, 1) := by decide +kernel
theorem dX0_close_19 : decode cX0_close 19 = .ok (.aload_n 1, 1) := by decide +kernel
theorem dX0_close_20 : decode cX0_close 20 = .ok (.invokevirtual 106, 3) := by decide +kernel
theorem dX0_close_23 : decode cX0_close 23 = .ok (.ifCond .eq 7, 3) := by decide +kernel
theorem dX0_close_26 : decode cX0_close 26 = .ok (.iconst 5, 1) := by decide +kernel
theorem dX0_close_27 : decode cX0_close 27 = .ok (.goto 4, 3) := by decide +kernel
theorem dX0_close_30 : decode cX0_close 30 = .ok (.iconst 4, 1) := by decide +kernel
theorem dX0_close_31 : decode cX0_close 31 = .ok (.putfield 19, 3) := by decide +kernel
theorem dX0_close_34 : decode cX0_close 34 = .ok (.goto 19, 3) := by decide +kernel
theorem dX0_close_37 : decode cX0_close 37 = .ok (.aload_n 0, 1) := by decide +kernel
theorem dX0_close_38 : decode cX0_close 38 = .ok (.aload_n 1, 1) := by decide +kernel
theorem dX0_close_39 : decode cX0_close 39 = .ok (.invokevirtual 106, 3) := by decide +kernel
theorem dX0_close_42 : decode cX0_close 42 = .ok (.ifCond .eq 7, 3) := by decide +kernel
theorem dX0_close_45 : decode cX0_close 45 = .ok (.iconst 2, 1) := by decide +kernel
theorem dX0_close_46 : decode cX0_close 46 = .ok (.goto 4, 3) := by decide +kernel
theorem dX0_close_49 : decode cX0_close 49 = .ok (.iconst 1, 1) := by decide +kernel
theorem dX0_close_50 : decode cX0_close 50 = .ok (.putfield 19, 3) := by decide +kernel
theorem dX0_close_53 : decode cX0_close 53 = .ok (.return_, 1) := by decide +kernel
theorem dX0_latestJudgement_0 : decode cX0_latestJudgement 0 = .ok (.aload_n 0, 1) := by decide +kernel
theorem dX0_latestJudgement_1 : decode cX0_latestJudgement 1 = .ok (.getfield 9, 3) := by decide +kernel
theorem dX0_latestJudgement_4 : decode cX0_latestJudgement 4 = .ok (.ifnull 18, 3) := by decide +kernel
theorem dX0_latestJudgement_7 : decode cX0_latestJudgement 7 = .ok (.aload_n 0, 1) := by decide +kernel
theorem dX0_latestJudgement_8 : decode cX0_latestJudgement 8 = .ok (.getfield 9, 3) := by decide +kernel
theorem dX0_latestJudgement_11 : decode cX0_latestJudgement 11 = .ok (.getfield 102, 3) := by decide +kernel
theorem dX0_latestJudgement_14 : decode cX0_latestJudgement 14 = .ok (.ifCond .eq 8, 3) := by decide +kernel
theorem dX0_latestJudgement_17 : decode cX0_latestJudgement 17 = .ok (.aload_n 0, 1) := by decide +kernel
theorem dX0_latestJudgement_18 : decode cX0_latestJudgement 18 = .ok (.getfield 9, 3) := by decide +kernel
theorem dX0_latestJudgement_21 : decode cX0_latestJudgement 21 = .ok (.areturn, 1) := by decide +kernel
theorem dX0_latestJudgement_22 : decode cX0_latestJudgement 22 = .ok (.aload_n 0, 1) := by decide +kernel
theorem dX0_latestJudgement_23 : decode cX0_latestJudgement 23 = .ok (.getfield 54, 3) := by decide +kernel
theorem dX0_latestJudgement_26 : decode cX0_latestJudgement 26 = .ok (.getfield 102, 3) := by decide +kernel
theorem dX0_latestJudgement_29 : decode cX0_latestJudgement 29 = .ok (.ifCond .eq 10, 3) := by decide +kernel
theorem dX0_latestJudgement_32 : decode cX0_latestJudgement 32 = .ok (.aload_n 0, 1) := by decide +kernel
theorem dX0_latestJudgement_33 : decode cX0_latestJudgement 33 = .ok (.getfield 54, 3) := by decide +kernel
theorem dX0_latestJudgement_36 : decode cX0_latestJudgement 36 = .ok (.goto 4, 3) := by decide +kernel
theorem dX0_latestJudgement_39 : decode cX0_latestJudgement 39 = .ok (.aconst_null, 1) := by decide +kernel
theorem dX0_latestJudgement_40 : decode cX0_latestJudgement 40 = .ok (.areturn, 1) := by decide +kernel
theorem dX0_timesJudged_0 : decode cX0_timesJudged 0 = .ok (.aload_n 0, 1) := by decide +kernel
theorem dX0_timesJudged_1 : decode cX0_timesJudged 1 = .ok (.getfield 54, 3) := by decide +kernel
theorem dX0_timesJudged_4 : decode cX0_timesJudged 4 = .ok (.getfield 102, 3) := by decide +kernel
theorem dX0_timesJudged_7 : decode cX0_timesJudged 7 = .ok (.invokestatic 109, 3) := by decide +kernel
theorem dX0_timesJudged_10 : decode cX0_timesJudged 10 = .ok (.aload_n 0, 1) := by decide +kernel
theorem dX0_timesJudged_11 : decode cX0_timesJudged 11 = .ok (.getfield 9, 3) := by decide +kernel
theorem dX0_timesJudged_14 : decode cX0_timesJudged 14 = .ok (.ifnull 17, 3) := by decide +kernel
theorem dX0_timesJudged_17 : decode cX0_timesJudged 17 = .ok (.aload_n 0, 1) := by decide +kernel
theorem dX0_timesJudged_18 : decode cX0_timesJudged 18 = .ok (.getfield 9, 3) := by decide +kernel
theorem dX0_timesJudged_21 : decode cX0_timesJudged 21 = .ok (.getfield 102, 3) := by decide +kernel
theorem dX0_timesJudged_24 : decode cX0_timesJudged 24 = .ok (.ifCond .eq 7, 3) := by decide +kernel
theorem dX0_timesJudged_27 : decode cX0_timesJudged 27 = .ok (.iconst 1, 1) := by decide +kernel
theorem dX0_timesJudged_28 : decode cX0_timesJudged 28 = .ok (.goto 4, 3) := by decide +kernel
theorem dX0_timesJudged_31 : decode cX0_timesJudged 31 = .ok (.iconst 0, 1) := by decide +kernel
theorem dX0_timesJudged_32 : decode cX0_timesJudged 32 = .ok (.invokestatic 109, 3) := by decide +kernel
theorem dX0_timesJudged_35 : decode cX0_timesJudged 35 = .ok (.iadd, 1) := by decide +kernel
theorem dX0_timesJudged_36 : decode cX0_timesJudged 36 = .ok (.ireturn, 1) := by decide +kernel
theorem dX0_isAlike_0 : decode cX0_isAlike 0 = .ok (.aload_n 0, 1) := by decide +kernel
theorem dX0_isAlike_1 : decode cX0_isAlike 1 = .ok (.invokevirtual 113, 3) := by decide +kernel
theorem dX0_isAlike_4 : decode cX0_isAlike 4 = .ok (.ifCond .ne 40, 3) := by decide +kernel
theorem dX0_isAlike_7 : decode cX0_isAlike 7 = .ok (.aload_n 0, 1) := by decide +kernel
theorem dX0_isAlike_8 : decode cX0_isAlike 8 = .ok (.getfield 39, 3) := by decide +kernel
theorem dX0_isAlike_11 : decode cX0_isAlike 11 = .ok (.aload_n 1, 1) := by decide +kernel
theorem dX0_isAlike_12 : decode cX0_isAlike 12 = .ok (.getfield 39, 3) := by decide +kernel
theorem dX0_isAlike_15 : decode cX0_isAlike 15 = .ok (.if_acmp .ne 29, 3) := by decide +kernel
theorem dX0_isAlike_18 : decode cX0_isAlike 18 = .ok (.aload_n 0, 1) := by decide +kernel
theorem dX0_isAlike_19 : decode cX0_isAlike 19 = .ok (.getfield 35, 3) := by decide +kernel
theorem dX0_isAlike_22 : decode cX0_isAlike 22 = .ok (.getfield 116, 3) := by decide +kernel
theorem dX0_isAlike_25 : decode cX0_isAlike 25 = .ok (.aload_n 1, 1) := by decide +kernel
theorem dX0_isAlike_26 : decode cX0_isAlike 26 = .ok (.getfield 35, 3) := by decide +kernel
theorem dX0_isAlike_29 : decode cX0_isAlike 29 = .ok (.getfield 116, 3) := by decide +kernel
theorem dX0_isAlike_32 : decode cX0_isAlike 32 = .ok (.ixor, 1) := by decide +kernel
theorem dX0_isAlike_33 : decode cX0_isAlike 33 = .ok (.invokestatic 67, 3) := by decide +kernel
theorem dX0_isAlike_36 : decode cX0_isAlike 36 = .ok (.iload_n 2, 1) := by decide +kernel
theorem dX0_isAlike_37 : decode cX0_isAlike 37 = .ok (.if_icmp .gt 7, 3) := by decide +kernel
theorem dX0_isAlike_40 : decode cX0_isAlike 40 = .ok (.iconst 1, 1) := by decide +kernel
theorem dX0_isAlike_41 : decode cX0_isAlike 41 = .ok (.goto 4, 3) := by decide +kernel
theorem dX0_isAlike_44 : decode cX0_isAlike 44 = .ok (.iconst 0, 1) := by decide +kernel
theorem dX0_isAlike_45 : decode cX0_isAlike 45 = .ok (.ireturn, 1) := by decide +kernel
theorem dX0_standOf_0 : decode cX0_standOf 0 = .ok (.aload_n 0, 1) := by decide +kernel
theorem dX0_standOf_1 : decode cX0_standOf 1 = .ok (.getfield 54, 3) := by decide +kernel
theorem dX0_standOf_4 : decode cX0_standOf 4 = .ok (.aload_n 1, 1) := by decide +kernel
theorem dX0_standOf_5 : decode cX0_standOf 5 = .ok (.aload_n 0, 1) := by decide +kernel
theorem dX0_standOf_6 : decode cX0_standOf 6 = .ok (.getfield 22, 3) := by decide +kernel
theorem dX0_standOf_9 : decode cX0_standOf 9 = .ok (.invokevirtual 121, 3) := by decide +kernel
theorem dX0_standOf_12 : decode cX0_standOf 12 = .ok (.istore_n 2, 1) := by decide +kernel
theorem dX0_standOf_13 : decode cX0_standOf 13 = .ok (.iload_n 2, 1) := by decide +kernel
theorem dX0_standOf_14 : decode cX0_standOf 14 = .ok (.ifCond .ne 23, 3) := by decide +kernel
theorem dX0_standOf_17 : decode cX0_standOf 17 = .ok (.aload_n 0, 1) := by decide +kernel
theorem dX0_standOf_18 : decode cX0_standOf 18 = .ok (.getfield 9, 3) := by decide +kernel
theorem dX0_standOf_21 : decode cX0_standOf 21 = .ok (.ifnull 16, 3) := by decide +kernel
theorem dX0_standOf_24 : decode cX0_standOf 24 = .ok (.aload_n 0, 1) := by decide +kernel
theorem dX0_standOf_25 : decode cX0_standOf 25 = .ok (.getfield 9, 3) := by decide +kernel
theorem dX0_standOf_28 : decode cX0_standOf 28 = .ok (.aload_n 1, 1) := by decide +kernel
theorem dX0_standOf_29 : decode cX0_standOf 29 = .ok (.aload_n 0, 1) := by decide +kernel
theorem dX0_standOf_30 : decode cX0_standOf 30 = .ok (.getfield 22, 3) := by decide +kernel
theorem dX0_standOf_33 : decode cX0_standOf 33 = .ok (.invokevirtual 121, 3) := by decide +kernel
theorem dX0_standOf_36 : decode cX0_standOf 36 = .ok (.istore_n 2, 1) := by decide +kernel
theorem dX0_standOf_37 : decode cX0_standOf 37 = .ok (.iload_n 2, 1) := by decide +kernel
theorem dX0_standOf_38 : decode cX0_standOf 38 = .ok (.ireturn, 1) := by decide +kernel
theorem dX0_staysWithinAsked_0 : decode cX0_staysWithinAsked 0 = .ok (.aload_n 0, 1) := by decide +kernel
theorem dX0_staysWithinAsked_1 : decode cX0_staysWithinAsked 1 = .ok (.invokevirtual 113, 3) := by decide +kernel
theorem dX0_staysWithinAsked_4 : decode cX0_staysWithinAsked 4 = .ok (.ifCond .eq 25, 3) := by decide +kernel
theorem dX0_staysWithinAsked_7 : decode cX0_staysWithinAsked 7 = .ok (.aload_n 0, 1) := by decide +kernel
theorem dX0_staysWithinAsked_8 : decode cX0_staysWithinAsked 8 = .ok (.invokevirtual 73, 3) := by decide +kernel
theorem dX0_staysWithinAsked_11 : decode cX0_staysWithinAsked 11 = .ok (.invokevirtual 80, 3) := by decide +kernel
theorem dX0_staysWithinAsked_14 : decode cX0_staysWithinAsked 14 = .ok (.aload_n 0, 1) := by decide +kernel
theorem dX0_staysWithinAsked_15 : decode cX0_staysWithinAsked 15 = .ok (.invokevirtual 84, 3) := by decide +kernel
theorem dX0_staysWithinAsked_18 : decode cX0_staysWithinAsked 18 = .ok (.iadd, 1) := by decide +kernel
theorem dX0_staysWithinAsked_19 : decode cX0_staysWithinAsked 19 = .ok (.aload_n 0, 1) := by decide +kernel
theorem dX0_staysWithinAsked_20 : decode cX0_staysWithinAsked 20 = .ok (.invokevirtual 73, 3) := by decide +kernel
theorem dX0_staysWithinAsked_23 : decode cX0_staysWithinAsked 23 = .ok (.getfield 77, 3) := by decide +kernel
theorem dX0_staysWithinAsked_26 : decode cX0_staysWithinAsked 26 = .ok (.if_icmp .gt 7, 3) := by decide +kernel
theorem dX0_staysWithinAsked_29 : decode cX0_staysWithinAsked 29 = .ok (.iconst 1, 1) := by decide +kernel
theorem dX0_staysWithinAsked_30 : decode cX0_staysWithinAsked 30 = .ok (.goto 4, 3) := by decide +kernel
theorem dX0_staysWithinAsked_33 : decode cX0_staysWithinAsked 33 = .ok (.iconst 0, 1) := by decide +kernel
theorem dX0_staysWithinAsked_34 : decode cX0_staysWithinAsked 34 = .ok (.ireturn, 1) := by decide +kernel
theorem dX0_everyJudgeOnce_0 : decode cX0_everyJudgeOnce 0 = .ok (.aload_n 0, 1) := by decide +kernel
theorem dX0_everyJudgeOnce_1 : decode cX0_everyJudgeOnce 1 = .ok (.getfield 9, 3) := by decide +kernel
theorem dX0_everyJudgeOnce_4 : decode cX0_everyJudgeOnce 4 = .ok (.ifnonnull 7, 3) := by decide +kernel
theorem dX0_everyJudgeOnce_7 : decode cX0_everyJudgeOnce 7 = .ok (.iconst 0, 1) := by decide +kernel
theorem dX0_everyJudgeOnce_8 : decode cX0_everyJudgeOnce 8 = .ok (.goto 10, 3) := by decide +kernel
theorem dX0_everyJudgeOnce_11 : decode cX0_everyJudgeOnce 11 = .ok (.aload_n 0, 1) := by decide +kernel
theorem dX0_everyJudgeOnce_12 : decode cX0_everyJudgeOnce 12 = .ok (.getfield 9, 3) := by decide +kernel
theorem dX0_everyJudgeOnce_15 : decode cX0_everyJudgeOnce 15 = .ok (.getfield 125, 3) := by decide +kernel
theorem dX0_everyJudgeOnce_18 : decode cX0_everyJudgeOnce 18 = .ok (.istore_n 1, 1) := by decide +kernel
theorem dX0_everyJudgeOnce_19 : decode cX0_everyJudgeOnce 19 = .ok (.aload_n 0, 1) := by decide +kernel
theorem dX0_everyJudgeOnce_20 : decode cX0_everyJudgeOnce 20 = .ok (.getfield 54, 3) := by decide +kernel
theorem dX0_everyJudgeOnce_23 : decode cX0_everyJudgeOnce 23 = .ok (.getfield 125, 3) := by decide +kernel
theorem dX0_everyJudgeOnce_26 : decode cX0_everyJudgeOnce 26 = .ok (.iload_n 1, 1) := by decide +kernel
theorem dX0_everyJudgeOnce_27 : decode cX0_everyJudgeOnce 27 = .ok (.iand, 1) := by decide +kernel
theorem dX0_everyJudgeOnce_28 : decode cX0_everyJudgeOnce 28 = .ok (.ifCond .ne 24, 3) := by decide +kernel
theorem dX0_everyJudgeOnce_31 : decode cX0_everyJudgeOnce 31 = .ok (.aload_n 0, 1) := by decide +kernel
theorem dX0_everyJudgeOnce_32 : decode cX0_everyJudgeOnce 32 = .ok (.getfield 54, 3) := by decide +kernel
theorem dX0_everyJudgeOnce_35 : decode cX0_everyJudgeOnce 35 = .ok (.getfield 125, 3) := by decide +kernel
theorem dX0_everyJudgeOnce_38 : decode cX0_everyJudgeOnce 38 = .ok (.iload_n 1, 1) := by decide +kernel
theorem dX0_everyJudgeOnce_39 : decode cX0_everyJudgeOnce 39 = .ok (.ior, 1) := by decide +kernel
theorem dX0_everyJudgeOnce_40 : decode cX0_everyJudgeOnce 40 = .ok (.aload_n 0, 1) := by decide +kernel
theorem dX0_everyJudgeOnce_41 : decode cX0_everyJudgeOnce 41 = .ok (.getfield 25, 3) := by decide +kernel
theorem dX0_everyJudgeOnce_44 : decode cX0_everyJudgeOnce 44 = .ok (.iand, 1) := by decide +kernel
theorem dX0_everyJudgeOnce_45 : decode cX0_everyJudgeOnce 45 = .ok (.ifCond .ne 7, 3) := by decide +kernel
theorem dX0_everyJudgeOnce_48 : decode cX0_everyJudgeOnce 48 = .ok (.iconst 1, 1) := by decide +kernel
theorem dX0_everyJudgeOnce_49 : decode cX0_everyJudgeOnce 49 = .ok (.goto 4, 3) := by decide +kernel
theorem dX0_everyJudgeOnce_52 : decode cX0_everyJudgeOnce 52 = .ok (.iconst 0, 1) := by decide +kernel
theorem dX0_everyJudgeOnce_53 : decode cX0_everyJudgeOnce 53 = .ok (.ireturn, 1) := by decide +kernel
theorem dX1_init_0 : decode cX1_init 0 = .ok (.aload_n 0, 1) := by decide +kernel
theorem dX1_init_1 : decode cX1_init 1 = .ok (.invokespecial 1, 3) := by decide +kernel
theorem dX1_init_4 : decode cX1_init 4 = .ok (.aload_n 0, 1) := by decide +kernel
theorem dX1_init_5 : decode cX1_init 5 = .ok (.aload_n 1, 1) := by decide +kernel
theorem dX1_init_6 : decode cX1_init 6 = .ok (.putfield 7, 3) := by decide +kernel
theorem dX1_init_9 : decode cX1_init 9 = .ok (.aload_n 0, 1) := by decide +kernel
theorem dX1_init_10 : decode cX1_init 10 = .ok (.aload_n 2, 1) := by decide +kernel
theorem dX1_init_11 : decode cX1_init 11 = .ok (.putfield 13, 3) := by decide +kernel
theorem dX1_init_14 : decode cX1_init 14 = .ok (.return_, 1) := by decide +kernel
theorem dX2_init_0 : decode cX2_init 0 = .ok (.aload_n 0, 1) := by decide +kernel
theorem dX2_init_1 : decode cX2_init 1 = .ok (.invokespecial 3, 3) := by decide +kernel
theorem dX2_init_4 : decode cX2_init 4 = .ok (.aload_n 0, 1) := by decide +kernel
theorem dX2_init_5 : decode cX2_init 5 = .ok (.iconst 0, 1) := by decide +kernel
theorem dX2_init_6 : decode cX2_init 6 = .ok (.putfield 9, 3) := by decide +kernel
theorem dX2_init_9 : decode cX2_init 9 = .ok (.aload_n 0, 1) := by decide +kernel
theorem dX2_init_10 : decode cX2_init 10 = .ok (.iconst 0, 1) := by decide +kernel
theorem dX2_init_11 : decode cX2_init 11 = .ok (.putfield 15, 3) := by decide +kernel
theorem dX2_init_14 : decode cX2_init 14 = .ok (.aload_n 0, 1) := by decide +kernel
theorem dX2_init_15 : decode cX2_init 15 = .ok (.iconst 0, 1) := by decide +kernel
theorem dX2_init_16 : decode cX2_init 16 = .ok (.putfield 18, 3) := by decide +kernel
theorem dX2_init_19 : decode cX2_init 19 = .ok (.aload_n 0, 1) := by decide +kernel
theorem dX2_init_20 : decode cX2_init 20 = .ok (.iconst 0, 1) := by decide +kernel
theorem dX2_init_21 : decode cX2_init 21 = .ok (.putfield 21, 3) := by decide +kernel
theorem dX2_init_24 : decode cX2_init 24 = .ok (.aload_n 0, 1) := by decide +kernel
theorem dX2_init_25 : decode cX2_init 25 = .ok (.iconst 0, 1) := by decide +kernel
theorem dX2_init_26 : decode cX2_init 26 = .ok (.putfield 24, 3) := by decide +kernel
theorem dX2_init_29 : decode cX2_init 29 = .ok (.aload_n 0, 1) := by decide +kernel
theorem dX2_init_30 : decode cX2_init 30 = .ok (.iconst 0, 1) := by decide +kernel
theorem dX2_init_31 : decode cX2_init 31 = .ok (.putfield 27, 3) := by decide +kernel
theorem dX2_init_34 : decode cX2_init 34 = .ok (.aload_n 0, 1) := by decide +kernel
theorem dX2_init_35 : decode cX2_init 35 = .ok (.iload_n 1, 1) := by decide +kernel
theorem dX2_init_36 : decode cX2_init 36 = .ok (.putfield 31, 3) := by decide +kernel
theorem dX2_init_39 : decode cX2_init 39 = .ok (.return_, 1) := by decide +kernel
theorem dX2_votes_0 : decode cX2_votes 0 = .ok (.aload_n 0, 1) := by decide +kernel
theorem dX2_votes_1 : decode cX2_votes 1 = .ok (.getfield 15, 3) := by decide +kernel
theorem dX2_votes_4 : decode cX2_votes 4 = .ok (.invokestatic 34, 3) := by decide +kernel
theorem dX2_votes_7 : decode cX2_votes 7 = .ok (.ireturn, 1) := by decide +kernel
theorem dX2_cast_0 : decode cX2_cast 0 = .ok (.aload_n 0, 1) := by decide +kernel
theorem dX2_cast_1 : decode cX2_cast 1 = .ok (.dup, 1) := by decide +kernel
theorem dX2_cast_2 : decode cX2_cast 2 = .ok (.getfield 15, 3) := by decide +kernel
theorem dX2_cast_5 : decode cX2_cast 5 = .ok (.aload_n 1, 1) := by decide +kernel
theorem dX2_cast_6 : decode cX2_cast 6 = .ok (.getfield 40, 3) := by decide +kernel
theorem dX2_cast_9 : decode cX2_cast 9 = .ok (.ior, 1) := by decide +kernel
theorem dX2_cast_10 : decode cX2_cast 10 = .ok (.putfield 15, 3) := by decide +kernel
theorem dX2_cast_13 : decode cX2_cast 13 = .ok (.iload_n 2, 1) := by decide +kernel
theorem dX2_cast_14 : decode cX2_cast 14 = .ok (.ifCond .eq 32, 3) := by decide +kernel
theorem dX2_cast_17 : decode cX2_cast 17 = .ok (.aload_n 0, 1) := by decide +kernel
theorem dX2_cast_18 : decode cX2_cast 18 = .ok (.dup, 1) := by decide +kernel
theorem dX2_cast_19 : decode cX2_cast 19 = .ok (.getfield 18, 3) := by decide +kernel
theorem dX2_cast_22 : decode cX2_cast 22 = .ok (.aload_n 1, 1) := by decide +kernel
theorem dX2_cast_23 : decode cX2_cast 23 = .ok (.getfield 40, 3) := by decide +kernel
theorem dX2_cast_26 : decode cX2_cast 26 = .ok (.ior, 1) := by decide +kernel
theorem dX2_cast_27 : decode cX2_cast 27 = .ok (.putfield 18, 3) := by decide +kernel
theorem dX2_cast_30 : decode cX2_cast 30 = .ok (.aload_n 0, 1) := by decide +kernel
theorem dX2_cast_31 : decode cX2_cast 31 = .ok (.dup, 1) := by decide +kernel
theorem dX2_cast_32 : decode cX2_cast 32 = .ok (.getfield 21, 3) := by decide +kernel
theorem dX2_cast_35 : decode cX2_cast 35 = .ok (.aload_n 1, 1) := by decide +kernel
theorem dX2_cast_36 : decode cX2_cast 36 = .ok (.getfield 45, 3) := by decide +kernel
theorem dX2_cast_39 : decode cX2_cast 39 = .ok (.iadd, 1) := by decide +kernel
theorem dX2_cast_40 : decode cX2_cast 40 = .ok (.putfield 21, 3) := by decide +kernel
theorem dX2_cast_43 : decode cX2_cast 43 = .ok (.goto 16, 3) := by decide +kernel
theorem dX2_cast_46 : decode cX2_cast 46 = .ok (.aload_n 0, 1) := by decide +kernel
theorem dX2_cast_47 : decode cX2_cast 47 = .ok (.dup, 1) := by decide +kernel
theorem dX2_cast_48 : decode cX2_cast 48 = .ok (.getfield 24, 3) := by decide +kernel
theorem dX2_cast_51 : decode cX2_cast 51 = .ok (.aload_n 1, 1) := by decide +kernel
theorem dX2_cast_52 : decode cX2_cast 52 = .ok (.getfield 45, 3) := by decide +kernel
theorem dX2_cast_55 : decode cX2_cast 55 = .ok (.iadd, 1) := by decide +kernel
theorem dX2_cast_56 : decode cX2_cast 56 = .ok (.putfield 24, 3) := by decide +kernel
theorem dX2_cast_59 : decode cX2_cast 59 = .ok (.return_, 1) := by decide +kernel
theorem dX2_isAgreed_0 : decode cX2_isAgreed 0 = .ok (.iconst 2, 1) := by decide +kernel
theorem dX2_isAgreed_1 : decode cX2_isAgreed 1 = .ok (.aload_n 0, 1) := by decide +kernel
theorem dX2_isAgreed_2 : decode cX2_isAgreed 2 = .ok (.getfield 21, 3) := by decide +kernel
theorem dX2_isAgreed_5 : decode cX2_isAgreed 5 = .ok (.imul, 1) := by decide +kernel
theorem dX2_isAgreed_6 : decode cX2_isAgreed 6 = .ok (.iconst 2, 1) := by decide +kernel
theorem dX2_isAgreed_7 : decode cX2_isAgreed 7 = .ok (.aload_n 0, 1) := by decide +kernel
theorem dX2_isAgreed_8 : decode cX2_isAgreed 8 = .ok (.getfield 24, 3) := by decide +kernel
theorem dX2_isAgreed_11 : decode cX2_isAgreed 11 = .ok (.imul, 1) := by decide +kernel
theorem dX2_isAgreed_12 : decode cX2_isAgreed 12 = .ok (.iadd, 1) := by decide +kernel
theorem dX2_isAgreed_13 : decode cX2_isAgreed 13 = .ok (.istore_n 1, 1) := by decide +kernel
theorem dX2_isAgreed_14 : decode cX2_isAgreed 14 = .ok (.iconst 3, 1) := by decide +kernel
theorem dX2_isAgreed_15 : decode cX2_isAgreed 15 = .ok (.aload_n 0, 1) := by decide +kernel
theorem dX2_isAgreed_16 : decode cX2_isAgreed 16 = .ok (.getfield 21, 3) := by decide +kernel
theorem dX2_isAgreed_19 : decode cX2_isAgreed 19 = .ok (.imul, 1) := by decide +kernel
theorem dX2_isAgreed_20 : decode cX2_isAgreed 20 = .ok (.iload_n 1, 1) := by decide +kernel
theorem dX2_isAgreed_21 : decode cX2_isAgreed 21 = .ok (.if_icmp .ge 13, 3) := by decide +kernel
theorem dX2_isAgreed_24 : decode cX2_isAgreed 24 = .ok (.iconst 3, 1) := by decide +kernel
theorem dX2_isAgreed_25 : decode cX2_isAgreed 25 = .ok (.aload_n 0, 1) := by decide +kernel
theorem dX2_isAgreed_26 : decode cX2_isAgreed 26 = .ok (.getfield 24, 3) := by decide +kernel
theorem dX2_isAgreed_29 : decode cX2_isAgreed 29 = .ok (.imul, 1) := by decide +kernel
theorem dX2_isAgreed_30 : decode cX2_isAgreed 30 = .ok (.iload_n 1, 1) := by decide +kernel
theorem dX2_isAgreed_31 : decode cX2_isAgreed 31 = .ok (.if_icmp .lt 7, 3) := by decide +kernel
theorem dX2_isAgreed_34 : decode cX2_isAgreed 34 = .ok (.iconst 1, 1) := by decide +kernel
theorem dX2_isAgreed_35 : decode cX2_isAgreed 35 = .ok (.goto 4, 3) := by decide +kernel
theorem dX2_isAgreed_38 : decode cX2_isAgreed 38 = .ok (.iconst 0, 1) := by decide +kernel
theorem dX2_isAgreed_39 : decode cX2_isAgreed 39 = .ok (.ireturn, 1) := by decide +kernel
theorem dX2_mayAskMore_0 : decode cX2_mayAskMore 0 = .ok (.aload_n 0, 1) := by decide +kernel
theorem dX2_mayAskMore_1 : decode cX2_mayAskMore 1 = .ok (.getfield 9, 3) := by decide +kernel
theorem dX2_mayAskMore_4 : decode cX2_mayAskMore 4 = .ok (.iconst 2, 1) := by decide +kernel
theorem dX2_mayAskMore_5 : decode cX2_mayAskMore 5 = .ok (.if_icmp .ge 16, 3) := by decide +kernel
theorem dX2_mayAskMore_8 : decode cX2_mayAskMore 8 = .ok (.aload_n 0, 1) := by decide +kernel
theorem dX2_mayAskMore_9 : decode cX2_mayAskMore 9 = .ok (.getfield 31, 3) := by decide +kernel
theorem dX2_mayAskMore_12 : decode cX2_mayAskMore 12 = .ok (.bipush 7, 2) := by decide +kernel
theorem dX2_mayAskMore_14 : decode cX2_mayAskMore 14 = .ok (.if_icmp .gt 7, 3) := by decide +kernel
theorem dX2_mayAskMore_17 : decode cX2_mayAskMore 17 = .ok (.iconst 1, 1) := by decide +kernel
theorem dX2_mayAskMore_18 : decode cX2_mayAskMore 18 = .ok (.goto 4, 3) := by decide +kernel
theorem dX2_mayAskMore_21 : decode cX2_mayAskMore 21 = .ok (.iconst 0, 1) := by decide +kernel
theorem dX2_mayAskMore_22 : decode cX2_mayAskMore 22 = .ok (.ireturn, 1) := by decide +kernel
theorem dX2_askMore_0 : decode cX2_askMore 0 = .ok (.aload_n 0, 1) := by decide +kernel
theorem dX2_askMore_1 : decode cX2_askMore 1 = .ok (.dup, 1) := by decide +kernel
theorem dX2_askMore_2 : decode cX2_askMore 2 = .ok (.getfield 31, 3) := by decide +kernel
theorem dX2_askMore_5 : decode cX2_askMore 5 = .ok (.iconst 2, 1) := by decide +kernel
theorem dX2_askMore_6 : decode cX2_askMore 6 = .ok (.iadd, 1) := by decide +kernel
theorem dX2_askMore_7 : decode cX2_askMore 7 = .ok (.putfield 31, 3) := by decide +kernel
theorem dX2_askMore_10 : decode cX2_askMore 10 = .ok (.aload_n 0, 1) := by decide +kernel
theorem dX2_askMore_11 : decode cX2_askMore 11 = .ok (.dup, 1) := by decide +kernel
theorem dX2_askMore_12 : decode cX2_askMore 12 = .ok (.getfield 9, 3) := by decide +kernel
theorem dX2_askMore_15 : decode cX2_askMore 15 = .ok (.iconst 1, 1) := by decide +kernel
theorem dX2_askMore_16 : decode cX2_askMore 16 = .ok (.iadd, 1) := by decide +kernel
theorem dX2_askMore_17 : decode cX2_askMore 17 = .ok (.putfield 9, 3) := by decide +kernel
theorem dX2_askMore_20 : decode cX2_askMore 20 = .ok (.return_, 1) := by decide +kernel
theorem dX2_findsGuilty_0 : decode cX2_findsGuilty 0 = .ok (.aload_n 0, 1) := by decide +kernel
theorem dX2_findsGuilty_1 : decode cX2_findsGuilty 1 = .ok (.getfield 21, 3) := by decide +kernel
theorem dX2_findsGuilty_4 : decode cX2_findsGuilty 4 = .ok (.aload_n 0, 1) := by decide +kernel
theorem dX2_findsGuilty_5 : decode cX2_findsGuilty 5 = .ok (.getfield 24, 3) := by decide +kernel
theorem dX2_findsGuilty_8 : decode cX2_findsGuilty 8 = .ok (.if_icmp .le 7, 3) := by decide +kernel
theorem dX2_findsGuilty_11 : decode cX2_findsGuilty 11 = .ok (.iconst 1, 1) := by decide +kernel
theorem dX2_findsGuilty_12 : decode cX2_findsGuilty 12 = .ok (.goto 4, 3) := by decide +kernel
theorem dX2_findsGuilty_15 : decode cX2_findsGuilty 15 = .ok (.iconst 0, 1) := by decide +kernel
theorem dX2_findsGuilty_16 : decode cX2_findsGuilty 16 = .ok (.ireturn, 1) := by decide +kernel
theorem dX2_hasVoter_0 : decode cX2_hasVoter 0 = .ok (.aload_n 0, 1) := by decide +kernel
theorem dX2_hasVoter_1 : decode cX2_hasVoter 1 = .ok (.getfield 15, 3) := by decide +kernel
theorem dX2_hasVoter_4 : decode cX2_hasVoter 4 = .ok (.aload_n 1, 1) := by decide +kernel
theorem dX2_hasVoter_5 : decode cX2_hasVoter 5 = .ok (.getfield 40, 3) := by decide +kernel
theorem dX2_hasVoter_8 : decode cX2_hasVoter 8 = .ok (.iand, 1) := by decide +kernel
theorem dX2_hasVoter_9 : decode cX2_hasVoter 9 = .ok (.ifCond .eq 7, 3) := by decide +kernel
theorem dX2_hasVoter_12 : decode cX2_hasVoter 12 = .ok (.iconst 1, 1) := by decide +kernel
theorem dX2_hasVoter_13 : decode cX2_hasVoter 13 = .ok (.goto 4, 3) := by decide +kernel
theorem dX2_hasVoter_16 : decode cX2_hasVoter 16 = .ok (.iconst 0, 1) := by decide +kernel
theorem dX2_hasVoter_17 : decode cX2_hasVoter 17 = .ok (.ireturn, 1) := by decide +kernel
theorem dX2_standAgainst_0 : decode cX2_standAgainst 0 = .ok (.aload_n 0, 1) := by decide +kernel
theorem dX2_standAgainst_1 : decode cX2_standAgainst 1 = .ok (.aload_n 1, 1) := by decide +kernel
theorem dX2_standAgainst_2 : decode cX2_standAgainst 2 = .ok (.invokevirtual 48, 3) := by decide +kernel
theorem dX2_standAgainst_5 : decode cX2_standAgainst 5 = .ok (.ifCond .eq 15, 3) := by decide +kernel
theorem dX2_standAgainst_8 : decode cX2_standAgainst 8 = .ok (.iload_n 2, 1) := by decide +kernel
theorem dX2_standAgainst_9 : decode cX2_standAgainst 9 = .ok (.iconst (-1), 1) := by decide +kernel
theorem dX2_standAgainst_10 : decode cX2_standAgainst 10 = .ok (.if_icmp .ne 12, 3) := by decide +kernel
theorem dX2_standAgainst_13 : decode cX2_standAgainst 13 = .ok (.aload_n 0, 1) := by decide +kernel
theorem dX2_standAgainst_14 : decode cX2_standAgainst 14 = .ok (.getfield 27, 3) := by decide +kernel
theorem dX2_standAgainst_17 : decode cX2_standAgainst 17 = .ok (.ifCond .ne 5, 3) := by decide +kernel
theorem dX2_standAgainst_20 : decode cX2_standAgainst 20 = .ok (.iconst 0, 1) := by decide +kernel
theorem dX2_standAgainst_21 : decode cX2_standAgainst 21 = .ok (.ireturn, 1) := by decide +kernel
theorem dX2_standAgainst_22 : decode cX2_standAgainst 22 = .ok (.iload_n 2, 1) := by decide +kernel
theorem dX2_standAgainst_23 : decode cX2_standAgainst 23 = .ok (.iconst (-1), 1) := by decide +kernel
theorem dX2_standAgainst_24 : decode cX2_standAgainst 24 = .ok (.if_icmp .ne 10, 3) := by decide +kernel
theorem dX2_standAgainst_27 : decode cX2_standAgainst 27 = .ok (.aload_n 0, 1) := by decide +kernel
theorem dX2_standAgainst_28 : decode cX2_standAgainst 28 = .ok (.invokevirtual 52, 3) := by decide +kernel
theorem dX2_standAgainst_31 : decode cX2_standAgainst 31 = .ok (.goto 13, 3) := by decide +kernel
theorem dX2_standAgainst_34 : decode cX2_standAgainst 34 = .ok (.iload_n 2, 1) := by decide +kernel
theorem dX2_standAgainst_35 : decode cX2_standAgainst 35 = .ok (.iconst 1, 1) := by decide +kernel
theorem dX2_standAgainst_36 : decode cX2_standAgainst 36 = .ok (.if_icmp .ne 7, 3) := by decide +kernel
theorem dX2_standAgainst_39 : decode cX2_standAgainst 39 = .ok (.iconst 1, 1) := by decide +kernel
theorem dX2_standAgainst_40 : decode cX2_standAgainst 40 = .ok (.goto 4, 3) := by decide +kernel
theorem dX2_standAgainst_43 : decode cX2_standAgainst 43 = .ok (.iconst 0, 1) := by decide +kernel
theorem dX2_standAgainst_44 : decode cX2_standAgainst 44 = .ok (.istore_n 3, 1) := by decide +kernel
theorem dX2_standAgainst_45 : decode cX2_standAgainst 45 = .ok (.aload_n 0, 1) := by decide +kernel
theorem dX2_standAgainst_46 : decode cX2_standAgainst 46 = .ok (.getfield 18, 3) := by decide +kernel
theorem dX2_standAgainst_49 : decode cX2_standAgainst 49 = .ok (.aload_n 1, 1) := by decide +kernel
theorem dX2_standAgainst_50 : decode cX2_standAgainst 50 = .ok (.getfield 40, 3) := by decide +kernel
theorem dX2_standAgainst_53 : decode cX2_standAgainst 53 = .ok (.iand, 1) := by decide +kernel
theorem dX2_standAgainst_54 : decode cX2_standAgainst 54 = .ok (.ifCond .eq 7, 3) := by decide +kernel
theorem dX2_standAgainst_57 : decode cX2_standAgainst 57 = .ok (.iconst 1, 1) := by decide +kernel
theorem dX2_standAgainst_58 : decode cX2_standAgainst 58 = .ok (.goto 4, 3) := by decide +kernel
theorem dX2_standAgainst_61 : decode cX2_standAgainst 61 = .ok (.iconst 0, 1) := by decide +kernel
theorem dX2_standAgainst_62 : decode cX2_standAgainst 62 = .ok (.istore 4, 2) := by decide +kernel
theorem dX2_standAgainst_64 : decode cX2_standAgainst 64 = .ok (.iload 4, 2) := by decide +kernel
theorem dX2_standAgainst_66 : decode cX2_standAgainst 66 = .ok (.iload_n 3, 1) := by decide +kernel
theorem dX2_standAgainst_67 : decode cX2_standAgainst 67 = .ok (.if_icmp .ne 7, 3) := by decide +kernel
theorem dX2_standAgainst_70 : decode cX2_standAgainst 70 = .ok (.iconst 1, 1) := by decide +kernel
theorem dX2_standAgainst_71 : decode cX2_standAgainst 71 = .ok (.goto 4, 3) := by decide +kernel
theorem dX2_standAgainst_74 : decode cX2_standAgainst 74 = .ok (.iconst 2, 1) := by decide +kernel
theorem dX2_standAgainst_75 : decode cX2_standAgainst 75 = .ok (.ireturn, 1) := by decide +kernel
theorem dX3_init_0 : decode cX3_init 0 = .ok (.aload_n 0, 1) := by decide +kernel
theorem dX3_init_1 : decode cX3_init 1 = .ok (.invokespecial 1, 3) := by decide +kernel
theorem dX3_init_4 : decode cX3_init 4 = .ok (.aload_n 0, 1) := by decide +kernel
theorem dX3_init_5 : decode cX3_init 5 = .ok (.iconst 0, 1) := by decide +kernel
theorem dX3_init_6 : decode cX3_init 6 = .ok (.putfield 7, 3) := by decide +kernel
theorem dX3_init_9 : decode cX3_init 9 = .ok (.aload_n 0, 1) := by decide +kernel
theorem dX3_init_10 : decode cX3_init 10 = .ok (.lconst 0, 1) := by decide +kernel
theorem dX3_init_11 : decode cX3_init 11 = .ok (.putfield 13, 3) := by decide +kernel
theorem dX3_init_14 : decode cX3_init 14 = .ok (.aload_n 0, 1) := by decide +kernel
theorem dX3_init_15 : decode cX3_init 15 = .ok (.iconst 2, 1) := by decide +kernel
theorem dX3_init_16 : decode cX3_init 16 = .ok (.putfield 17, 3) := by decide +kernel
theorem dX3_init_19 : decode cX3_init 19 = .ok (.aload_n 0, 1) := by decide +kernel
theorem dX3_init_20 : decode cX3_init 20 = .ok (.iconst 1, 1) := by decide +kernel
theorem dX3_init_21 : decode cX3_init 21 = .ok (.putfield 20, 3) := by decide +kernel
theorem dX3_init_24 : decode cX3_init 24 = .ok (.aload_n 0, 1) := by decide +kernel
theorem dX3_init_25 : decode cX3_init 25 = .ok (.iconst 0, 1) := by decide +kernel
theorem dX3_init_26 : decode cX3_init 26 = .ok (.putfield 23, 3) := by decide +kernel
theorem dX3_init_29 : decode cX3_init 29 = .ok (.aload_n 0, 1) := by decide +kernel
theorem dX3_init_30 : decode cX3_init 30 = .ok (.iconst 0, 1) := by decide +kernel
theorem dX3_init_31 : decode cX3_init 31 = .ok (.putfield 27, 3) := by decide +kernel
theorem dX3_init_34 : decode cX3_init 34 = .ok (.aload_n 0, 1) := by decide +kernel
theorem dX3_init_35 : decode cX3_init 35 = .ok (.iconst 0, 1) := by decide +kernel
theorem dX3_init_36 : decode cX3_init 36 = .ok (.putfield 30, 3) := by decide +kernel
theorem dX3_init_39 : decode cX3_init 39 = .ok (.aload_n 0, 1) := by decide +kernel
theorem dX3_init_40 : decode cX3_init 40 = .ok (.iconst 1, 1) := by decide +kernel
theorem dX3_init_41 : decode cX3_init 41 = .ok (.iload_n 1, 1) := by decide +kernel
theorem dX3_init_42 : decode cX3_init 42 = .ok (.ishl, 1) := by decide +kernel
theorem dX3_init_43 : decode cX3_init 43 = .ok (.putfield 33, 3) := by decide +kernel
theorem dX3_init_46 : decode cX3_init 46 = .ok (.return_, 1) := by decide +kernel
theorem dX3_isFree_0 : decode cX3_isFree 0 = .ok (.aload_n 0, 1) := by decide +kernel
theorem dX3_isFree_1 : decode cX3_isFree 1 = .ok (.getfield 23, 3) := by decide +kernel
theorem dX3_isFree_4 : decode cX3_isFree 4 = .ok (.ifCond .ne 18, 3) := by decide +kernel
theorem dX3_isFree_7 : decode cX3_isFree 7 = .ok (.aload_n 0, 1) := by decide +kernel
theorem dX3_isFree_8 : decode cX3_isFree 8 = .ok (.getfield 27, 3) := by decide +kernel
theorem dX3_isFree_11 : decode cX3_isFree 11 = .ok (.aload_n 0, 1) := by decide +kernel
theorem dX3_isFree_12 : decode cX3_isFree 12 = .ok (.getfield 17, 3) := by decide +kernel
theorem dX3_isFree_15 : decode cX3_isFree 15 = .ok (.if_icmp .ge 7, 3) := by decide +kernel
theorem dX3_isFree_18 : decode cX3_isFree 18 = .ok (.iconst 1, 1) := by decide +kernel
theorem dX3_isFree_19 : decode cX3_isFree 19 = .ok (.goto 4, 3) := by decide +kernel
theorem dX3_isFree_22 : decode cX3_isFree 22 = .ok (.iconst 0, 1) := by decide +kernel
theorem dX3_isFree_23 : decode cX3_isFree 23 = .ok (.ireturn, 1) := by decide +kernel
theorem dX3_isSkilledIn_0 : decode cX3_isSkilledIn 0 = .ok (.aload_n 0, 1) := by decide +kernel
theorem dX3_isSkilledIn_1 : decode cX3_isSkilledIn 1 = .ok (.getfield 7, 3) := by decide +kernel
theorem dX3_isSkilledIn_4 : decode cX3_isSkilledIn 4 = .ok (.iload_n 1, 1) := by decide +kernel
theorem dX3_isSkilledIn_5 : decode cX3_isSkilledIn 5 = .ok (.ishr, 1) := by decide +kernel
theorem dX3_isSkilledIn_6 : decode cX3_isSkilledIn 6 = .ok (.iconst 1, 1) := by decide +kernel
theorem dX3_isSkilledIn_7 : decode cX3_isSkilledIn 7 = .ok (.iand, 1) := by decide +kernel
theorem dX3_isSkilledIn_8 : decode cX3_isSkilledIn 8 = .ok (.iconst 1, 1) := by decide +kernel
theorem dX3_isSkilledIn_9 : decode cX3_isSkilledIn 9 = .ok (.if_icmp .ne 7, 3) := by decide +kernel
theorem dX3_isSkilledIn_12 : decode cX3_isSkilledIn 12 = .ok (.iconst 1, 1) := by decide +kernel
theorem dX3_isSkilledIn_13 : decode cX3_isSkilledIn 13 = .ok (.goto 4, 3) := by decide +kernel
theorem dX3_isSkilledIn_16 : decode cX3_isSkilledIn 16 = .ok (.iconst 0, 1) := by decide +kernel
theorem dX3_isSkilledIn_17 : decode cX3_isSkilledIn 17 = .ok (.ireturn, 1) := by decide +kernel
theorem dX3_isKinOf_0 : decode cX3_isKinOf 0 = .ok (.aload_n 0, 1) := by decide +kernel
theorem dX3_isKinOf_1 : decode cX3_isKinOf 1 = .ok (.getfield 13, 3) := by decide +kernel
theorem dX3_isKinOf_4 : decode cX3_isKinOf 4 = .ok (.iload_n 1, 1) := by decide +kernel
theorem dX3_isKinOf_5 : decode cX3_isKinOf 5 = .ok (.lshr, 1) := by decide +kernel
theorem dX3_isKinOf_6 : decode cX3_isKinOf 6 = .ok (.lconst 1, 1) := by decide +kernel
theorem dX3_isKinOf_7 : decode cX3_isKinOf 7 = .ok (.land, 1) := by decide +kernel
theorem dX3_isKinOf_8 : decode cX3_isKinOf 8 = .ok (.lconst 1, 1) := by decide +kernel
theorem dX3_isKinOf_9 : decode cX3_isKinOf 9 = .ok (.lcmp, 1) := by decide +kernel
theorem dX3_isKinOf_10 : decode cX3_isKinOf 10 = .ok (.ifCond .ne 7, 3) := by decide +kernel
theorem dX3_isKinOf_13 : decode cX3_isKinOf 13 = .ok (.iconst 1, 1) := by decide +kernel
theorem dX3_isKinOf_14 : decode cX3_isKinOf 14 = .ok (.goto 4, 3) := by decide +kernel
theorem dX3_isKinOf_17 : decode cX3_isKinOf 17 = .ok (.iconst 0, 1) := by decide +kernel
theorem dX3_isKinOf_18 : decode cX3_isKinOf 18 = .ok (.ireturn, 1) := by decide +kernel
theorem dX3_setKin_0 : decode cX3_setKin 0 = .ok (.iload_n 2, 1) := by decide +kernel
theorem dX3_setKin_1 : decode cX3_setKin 1 = .ok (.ifCond .eq 18, 3) := by decide +kernel
theorem dX3_setKin_4 : decode cX3_setKin 4 = .ok (.aload_n 0, 1) := by decide +kernel
theorem dX3_setKin_5 : decode cX3_setKin 5 = .ok (.dup, 1) := by decide +kernel
theorem dX3_setKin_6 : decode cX3_setKin 6 = .ok (.getfield 13, 3) := by decide +kernel
theorem dX3_setKin_9 : decode cX3_setKin 9 = .ok (.lconst 1, 1) := by decide +kernel
theorem dX3_setKin_10 : decode cX3_setKin 10 = .ok (.iload_n 1, 1) := by decide +kernel
theorem dX3_setKin_11 : decode cX3_setKin 11 = .ok (.lshl, 1) := by decide +kernel
theorem dX3_setKin_12 : decode cX3_setKin 12 = .ok (.lor, 1) := by decide +kernel
theorem dX3_setKin_13 : decode cX3_setKin 13 = .ok (.putfield 13, 3) := by decide +kernel
theorem dX3_setKin_16 : decode cX3_setKin 16 = .ok (.goto 19, 3) := by decide +kernel
theorem dX3_setKin_19 : decode cX3_setKin 19 = .ok (.aload_n 0, 1) := by decide +kernel
theorem dX3_setKin_20 : decode cX3_setKin 20 = .ok (.dup, 1) := by decide +kernel
theorem dX3_setKin_21 : decode cX3_setKin 21 = .ok (.getfield 13, 3) := by decide +kernel
theorem dX3_setKin_24 : decode cX3_setKin 24 = .ok (.lconst 1, 1) := by decide +kernel
theorem dX3_setKin_25 : decode cX3_setKin 25 = .ok (.iload_n 1, 1) := by decide +kernel
theorem dX3_setKin_26 : decode cX3_setKin 26 = .ok (.lshl, 1) := by decide +kernel
theorem dX3_setKin_27 : decode cX3_setKin 27 = .ok (.ldc2_w 36, 3) := by decide +kernel
theorem dX3_setKin_30 : decode cX3_setKin 30 = .ok (.lxor, 1) := by decide +kernel
theorem dX3_setKin_31 : decode cX3_setKin 31 = .ok (.land, 1) := by decide +kernel
theorem dX3_setKin_32 : decode cX3_setKin 32 = .ok (.putfield 13, 3) := by decide +kernel
theorem dX3_setKin_35 : decode cX3_setKin 35 = .ok (.return_, 1) := by decide +kernel
theorem dX4_init_0 : decode cX4_init 0 = .ok (.aload_n 0, 1) := by decide +kernel
theorem dX4_init_1 : decode cX4_init 1 = .ok (.invokespecial 3, 3) := by decide +kernel
theorem dX4_init_4 : decode cX4_init 4 = .ok (.aload_n 0, 1) := by decide +kernel
theorem dX4_init_5 : decode cX4_init 5 = .ok (.bipush 100, 2) := by decide +kernel
theorem dX4_init_7 : decode cX4_init 7 = .ok (.putfield 9, 3) := by decide +kernel
theorem dX4_init_10 : decode cX4_init 10 = .ok (.aload_n 0, 1) := by decide +kernel
theorem dX4_init_11 : decode cX4_init 11 = .ok (.bipush 10, 2) := by decide +kernel
theorem dX4_init_13 : decode cX4_init 13 = .ok (.putfield 15, 3) := by decide +kernel
theorem dX4_init_16 : decode cX4_init 16 = .ok (.aload_n 0, 1) := by decide +kernel
theorem dX4_init_17 : decode cX4_init 17 = .ok (.sipush 400, 3) := by decide +kernel
theorem dX4_init_20 : decode cX4_init 20 = .ok (.newarray .int, 2) := by decide +kernel
theorem dX4_init_22 : decode cX4_init 22 = .ok (.putfield 18, 3) := by decide +kernel
theorem dX4_init_25 : decode cX4_init 25 = .ok (.aload_n 0, 1) := by decide +kernel
theorem dX4_init_26 : decode cX4_init 26 = .ok (.iconst 0, 1) := by decide +kernel
theorem dX4_init_27 : decode cX4_init 27 = .ok (.putfield 22, 3) := by decide +kernel
theorem dX4_init_30 : decode cX4_init 30 = .ok (.aload_n 0, 1) := by decide +kernel
theorem dX4_init_31 : decode cX4_init 31 = .ok (.iconst 0, 1) := by decide +kernel
theorem dX4_init_32 : decode cX4_init 32 = .ok (.putfield 25, 3) := by decide +kernel
theorem dX4_init_35 : decode cX4_init 35 = .ok (.aload_n 0, 1) := by decide +kernel
theorem dX4_init_36 : decode cX4_init 36 = .ok (.iconst 0, 1) := by decide +kernel
theorem dX4_init_37 : decode cX4_init 37 = .ok (.putfield 28, 3) := by decide +kernel
theorem dX4_init_40 : decode cX4_init 40 = .ok (.aload_n 0, 1) := by decide +kernel
theorem dX4_init_41 : decode cX4_init 41 = .ok (.iconst 0, 1) := by decide +kernel
theorem dX4_init_42 : decode cX4_init 42 = .ok (.putfield 31, 3) := by decide +kernel
theorem dX4_init_45 : decode cX4_init 45 = .ok (.aload_n 0, 1) := by decide +kernel
theorem dX4_init_46 : decode cX4_init 46 = .ok (.iconst (-1), 1) := by decide +kernel
theorem dX4_init_47 : decode cX4_init 47 = .ok (.putfield 35, 3) := by decide +kernel
theorem dX4_init_50 : decode cX4_init 50 = .ok (.return_, 1) := by decide +kernel
theorem dX4_restart_0 : decode cX4_restart 0 = .ok (.aload_n 0, 1) := by decide +kernel
theorem dX4_restart_1 : decode cX4_restart 1 = .ok (.iconst 0, 1) := by decide +kernel
theorem dX4_restart_2 : decode cX4_restart 2 = .ok (.putfield 22, 3) := by decide +kernel
theorem dX4_restart_5 : decode cX4_restart 5 = .ok (.aload_n 0, 1) := by decide +kernel
theorem dX4_restart_6 : decode cX4_restart 6 = .ok (.iconst 0, 1) := by decide +kernel
theorem dX4_restart_7 : decode cX4_restart 7 = .ok (.putfield 25, 3) := by decide +kernel
theorem dX4_restart_10 : decode cX4_restart 10 = .ok (.aload_n 0, 1) := by decide +kernel
theorem dX4_restart_11 : decode cX4_restart 11 = .ok (.iconst 0, 1) := by decide +kernel
theorem dX4_restart_12 : decode cX4_restart 12 = .ok (.putfield 28, 3) := by decide +kernel
theorem dX4_restart_15 : decode cX4_restart 15 = .ok (.aload_n 0, 1) := by decide +kernel
theorem dX4_restart_16 : decode cX4_restart 16 = .ok (.iconst 0, 1) := by decide +kernel
theorem dX4_restart_17 : decode cX4_restart 17 = .ok (.putfield 31, 3) := by decide +kernel
theorem dX4_restart_20 : decode cX4_restart 20 = .ok (.aload_n 0, 1) := by decide +kernel
theorem dX4_restart_21 : decode cX4_restart 21 = .ok (.iconst (-1), 1) := by decide +kernel
theorem dX4_restart_22 : decode cX4_restart 22 = .ok (.putfield 35, 3) := by decide +kernel
theorem dX4_restart_25 : decode cX4_restart 25 = .ok (.return_, 1) := by decide +kernel
theorem dX4_climb_0 : decode cX4_climb 0 = .ok (.aload_n 0, 1) := by decide +kernel
theorem dX4_climb_1 : decode cX4_climb 1 = .ok (.iconst 3, 1) := by decide +kernel
theorem dX4_climb_2 : decode cX4_climb 2 = .ok (.aload_n 0, 1) := by decide +kernel
theorem dX4_climb_3 : decode cX4_climb 3 = .ok (.iload_n 1, 1) := by decide +kernel
theorem dX4_climb_4 : decode cX4_climb 4 = .ok (.invokevirtual 38, 3) := by decide +kernel
theorem dX4_climb_7 : decode cX4_climb 7 = .ok (.invokestatic 42, 3) := by decide +kernel
theorem dX4_climb_10 : decode cX4_climb 10 = .ok (.putfield 28, 3) := by decide +kernel
theorem dX4_climb_13 : decode cX4_climb 13 = .ok (.aload_n 0, 1) := by decide +kernel
theorem dX4_climb_14 : decode cX4_climb 14 = .ok (.getfield 22, 3) := by decide +kernel
theorem dX4_climb_17 : decode cX4_climb 17 = .ok (.aload_n 0, 1) := by decide +kernel
theorem dX4_climb_18 : decode cX4_climb 18 = .ok (.getfield 18, 3) := by decide +kernel
theorem dX4_climb_21 : decode cX4_climb 21 = .ok (.arraylength, 1) := by decide +kernel
theorem dX4_climb_22 : decode cX4_climb 22 = .ok (.if_icmp .ge 23, 3) := by decide +kernel
theorem dX4_climb_25 : decode cX4_climb 25 = .ok (.aload_n 0, 1) := by decide +kernel
theorem dX4_climb_26 : decode cX4_climb 26 = .ok (.getfield 18, 3) := by decide +kernel
theorem dX4_climb_29 : decode cX4_climb 29 = .ok (.aload_n 0, 1) := by decide +kernel
theorem dX4_climb_30 : decode cX4_climb 30 = .ok (.getfield 22, 3) := by decide +kernel
theorem dX4_climb_33 : decode cX4_climb 33 = .ok (.iload_n 1, 1) := by decide +kernel
theorem dX4_climb_34 : decode cX4_climb 34 = .ok (.iastore, 1) := by decide +kernel
theorem dX4_climb_35 : decode cX4_climb 35 = .ok (.aload_n 0, 1) := by decide +kernel
theorem dX4_climb_36 : decode cX4_climb 36 = .ok (.dup, 1) := by decide +kernel
theorem dX4_climb_37 : decode cX4_climb 37 = .ok (.getfield 22, 3) := by decide +kernel
theorem dX4_climb_40 : decode cX4_climb 40 = .ok (.iconst 1, 1) := by decide +kernel
theorem dX4_climb_41 : decode cX4_climb 41 = .ok (.iadd, 1) := by decide +kernel
theorem dX4_climb_42 : decode cX4_climb 42 = .ok (.putfield 22, 3) := by decide +kernel
theorem dX4_climb_45 : decode cX4_climb 45 = .ok (.aload_n 0, 1) := by decide +kernel
theorem dX4_climb_46 : decode cX4_climb 46 = .ok (.getfield 28, 3) := by decide +kernel
theorem dX4_climb_49 : decode cX4_climb 49 = .ok (.iconst 3, 1) := by decide +kernel
theorem dX4_climb_50 : decode cX4_climb 50 = .ok (.if_icmp .ge 37, 3) := by decide +kernel
theorem dX4_climb_53 : decode cX4_climb 53 = .ok (.aload_n 0, 1) := by decide +kernel
theorem dX4_climb_54 : decode cX4_climb 54 = .ok (.aload_n 0, 1) := by decide +kernel
theorem dX4_climb_55 : decode cX4_climb 55 = .ok (.getfield 31, 3) := by decide +kernel
theorem dX4_climb_58 : decode cX4_climb 58 = .ok (.ifCond .ne 18, 3) := by decide +kernel
theorem dX4_climb_61 : decode cX4_climb 61 = .ok (.iload_n 2, 1) := by decide +kernel
theorem dX4_climb_62 : decode cX4_climb 62 = .ok (.iload_n 1, 1) := by decide +kernel
theorem dX4_climb_63 : decode cX4_climb 63 = .ok (.isub, 1) := by decide +kernel
theorem dX4_climb_64 : decode cX4_climb 64 = .ok (.aload_n 0, 1) := by decide +kernel
theorem dX4_climb_65 : decode cX4_climb 65 = .ok (.getfield 28, 3) := by decide +kernel
theorem dX4_climb_68 : decode cX4_climb 68 = .ok (.aload_n 0, 1) := by decide +kernel
theorem dX4_climb_69 : decode cX4_climb 69 = .ok (.getfield 15, 3) := by decide +kernel
theorem dX4_climb_72 : decode cX4_climb 72 = .ok (.imul, 1) := by decide +kernel
theorem dX4_climb_73 : decode cX4_climb 73 = .ok (.if_icmp .ge 7, 3) := by decide +kernel
theorem dX4_climb_76 : decode cX4_climb 76 = .ok (.iconst 1, 1) := by decide +kernel
theorem dX4_climb_77 : decode cX4_climb 77 = .ok (.goto 4, 3) := by decide +kernel
theorem dX4_climb_80 : decode cX4_climb 80 = .ok (.iconst 0, 1) := by decide +kernel
theorem dX4_climb_81 : decode cX4_climb 81 = .ok (.putfield 31, 3) := by decide +kernel
theorem dX4_climb_84 : decode cX4_climb 84 = .ok (.goto 15, 3) := by decide +kernel
theorem dX4_climb_87 : decode cX4_climb 87 = .ok (.aload_n 0, 1) := by decide +kernel
theorem dX4_climb_88 : decode cX4_climb 88 = .ok (.getfield 35, 3) := by decide +kernel
theorem dX4_climb_91 : decode cX4_climb 91 = .ok (.ifCond .ge 8, 3) := by decide +kernel
theorem dX4_climb_94 : decode cX4_climb 94 = .ok (.aload_n 0, 1) := by decide +kernel
theorem dX4_climb_95 : decode cX4_climb 95 = .ok (.iload_n 1, 1) := by decide +kernel
theorem dX4_climb_96 : decode cX4_climb 96 = .ok (.putfield 35, 3) := by decide +kernel
theorem dX4_climb_99 : decode cX4_climb 99 = .ok (.return_, 1) := by decide +kernel
theorem dX4_holdingAt_0 : decode cX4_holdingAt 0 = .ok (.aload_n 0, 1) := by decide +kernel
theorem dX4_holdingAt_1 : decode cX4_holdingAt 1 = .ok (.getfield 25, 3) := by decide +kernel
theorem dX4_holdingAt_4 : decode cX4_holdingAt 4 = .ok (.aload_n 0, 1) := by decide +kernel
theorem dX4_holdingAt_5 : decode cX4_holdingAt 5 = .ok (.getfield 22, 3) := by decide +kernel
theorem dX4_holdingAt_8 : decode cX4_holdingAt 8 = .ok (.if_icmp .ge 34, 3) := by decide +kernel
theorem dX4_holdingAt_11 : decode cX4_holdingAt 11 = .ok (.iload_n 1, 1) := by decide +kernel
theorem dX4_holdingAt_12 : decode cX4_holdingAt 12 = .ok (.aload_n 0, 1) := by decide +kernel
theorem dX4_holdingAt_13 : decode cX4_holdingAt 13 = .ok (.getfield 18, 3) := by decide +kernel
theorem dX4_holdingAt_16 : decode cX4_holdingAt 16 = .ok (.aload_n 0, 1) := by decide +kernel
theorem dX4_holdingAt_17 : decode cX4_holdingAt 17 = .ok (.getfield 25, 3) := by decide +kernel
theorem dX4_holdingAt_20 : decode cX4_holdingAt 20 = .ok (.iaload, 1) := by decide +kernel
theorem dX4_holdingAt_21 : decode cX4_holdingAt 21 = .ok (.isub, 1) := by decide +kernel
theorem dX4_holdingAt_22 : decode cX4_holdingAt 22 = .ok (.aload_n 0, 1) := by decide +kernel
theorem dX4_holdingAt_23 : decode cX4_holdingAt 23 = .ok (.getfield 9, 3) := by decide +kernel
theorem dX4_holdingAt_26 : decode cX4_holdingAt 26 = .ok (.if_icmp .lt 16, 3) := by decide +kernel
theorem dX4_holdingAt_29 : decode cX4_holdingAt 29 = .ok (.aload_n 0, 1) := by decide +kernel
theorem dX4_holdingAt_30 : decode cX4_holdingAt 30 = .ok (.dup, 1) := by decide +kernel
theorem dX4_holdingAt_31 : decode cX4_holdingAt 31 = .ok (.getfield 25, 3) := by decide +kernel
theorem dX4_holdingAt_34 : decode cX4_holdingAt 34 = .ok (.iconst 1, 1) := by decide +kernel
theorem dX4_holdingAt_35 : decode cX4_holdingAt 35 = .ok (.iadd, 1) := by decide +kernel
theorem dX4_holdingAt_36 : decode cX4_holdingAt 36 = .ok (.putfield 25, 3) := by decide +kernel
theorem dX4_holdingAt_39 : decode cX4_holdingAt 39 = .ok (.goto (-39), 3) := by decide +kernel
theorem dX4_holdingAt_42 : decode cX4_holdingAt 42 = .ok (.aload_n 0, 1) := by decide +kernel
theorem dX4_holdingAt_43 : decode cX4_holdingAt 43 = .ok (.getfield 22, 3) := by decide +kernel
theorem dX4_holdingAt_46 : decode cX4_holdingAt 46 = .ok (.aload_n 0, 1) := by decide +kernel
theorem dX4_holdingAt_47 : decode cX4_holdingAt 47 = .ok (.getfield 25, 3) := by decide +kernel
theorem dX4_holdingAt_50 : decode cX4_holdingAt 50 = .ok (.isub, 1) := by decide +kernel
theorem dX4_holdingAt_51 : decode cX4_holdingAt 51 = .ok (.ireturn, 1) := by decide +kernel
theorem dX5_init_0 : decode cX5_init 0 = .ok (.aload_n 0, 1) := by decide +kernel
theorem dX5_init_1 : decode cX5_init 1 = .ok (.invokespecial 1, 3) := by decide +kernel
theorem dX5_init_4 : decode cX5_init 4 = .ok (.aload_n 0, 1) := by decide +kernel
theorem dX5_init_5 : decode cX5_init 5 = .ok (.aconst_null, 1) := by decide +kernel
theorem dX5_init_6 : decode cX5_init 6 = .ok (.putfield 7, 3) := by decide +kernel
theorem dX5_init_9 : decode cX5_init 9 = .ok (.aload_n 0, 1) := by decide +kernel
theorem dX5_init_10 : decode cX5_init 10 = .ok (.aconst_null, 1) := by decide +kernel
theorem dX5_init_11 : decode cX5_init 11 = .ok (.putfield 13, 3) := by decide +kernel
theorem dX5_init_14 : decode cX5_init 14 = .ok (.aload_n 0, 1) := by decide +kernel
theorem dX5_init_15 : decode cX5_init 15 = .ok (.iload_n 1, 1) := by decide +kernel
theorem dX5_init_16 : decode cX5_init 16 = .ok (.putfield 16, 3) := by decide +kernel
theorem dX5_init_19 : decode cX5_init 19 = .ok (.aload_n 0, 1) := by decide +kernel
theorem dX5_init_20 : decode cX5_init 20 = .ok (.iload_n 2, 1) := by decide +kernel
theorem dX5_init_21 : decode cX5_init 21 = .ok (.putfield 20, 3) := by decide +kernel
theorem dX5_init_24 : decode cX5_init 24 = .ok (.aload_n 0, 1) := by decide +kernel
theorem dX5_init_25 : decode cX5_init 25 = .ok (.iload_n 3, 1) := by decide +kernel
theorem dX5_init_26 : decode cX5_init 26 = .ok (.putfield 23, 3) := by decide +kernel
theorem dX5_init_29 : decode cX5_init 29 = .ok (.aload_n 0, 1) := by decide +kernel
theorem dX5_init_30 : decode cX5_init 30 = .ok (.iload 4, 2) := by decide +kernel
theorem dX5_init_32 : decode cX5_init 32 = .ok (.putfield 26, 3) := by decide +kernel
theorem dX5_init_35 : decode cX5_init 35 = .ok (.aload_n 0, 1) := by decide +kernel
theorem dX5_init_36 : decode cX5_init 36 = .ok (.iload 5, 2) := by decide +kernel
theorem dX5_init_38 : decode cX5_init 38 = .ok (.putfield 29, 3) := by decide +kernel
theorem dX5_init_41 : decode cX5_init 41 = .ok (.return_, 1) := by decide +kernel
theorem dX5_addCase_0 : decode cX5_addCase 0 = .ok (.aload_n 0, 1) := by decide +kernel
theorem dX5_addCase_1 : decode cX5_addCase 1 = .ok (.getfield 13, 3) := by decide +kernel
theorem dX5_addCase_4 : decode cX5_addCase 4 = .ok (.ifnonnull 11, 3) := by decide +kernel
theorem dX5_addCase_7 : decode cX5_addCase 7 = .ok (.aload_n 0, 1) := by decide +kernel
theorem dX5_addCase_8 : decode cX5_addCase 8 = .ok (.aload_n 1, 1) := by decide +kernel
theorem dX5_addCase_9 : decode cX5_addCase 9 = .ok (.putfield 7, 3) := by decide +kernel
theorem dX5_addCase_12 : decode cX5_addCase 12 = .ok (.goto 11, 3) := by decide +kernel
theorem dX5_addCase_15 : decode cX5_addCase 15 = .ok (.aload_n 0, 1) := by decide +kernel
theorem dX5_addCase_16 : decode cX5_addCase 16 = .ok (.getfield 13, 3) := by decide +kernel
theorem dX5_addCase_19 : decode cX5_addCase 19 = .ok (.aload_n 1, 1) := by decide +kernel
theorem dX5_addCase_20 : decode cX5_addCase 20 = .ok (.putfield 32, 3) := by decide +kernel
theorem dX5_addCase_23 : decode cX5_addCase 23 = .ok (.aload_n 0, 1) := by decide +kernel
theorem dX5_addCase_24 : decode cX5_addCase 24 = .ok (.aload_n 1, 1) := by decide +kernel
theorem dX5_addCase_25 : decode cX5_addCase 25 = .ok (.putfield 13, 3) := by decide +kernel
theorem dX5_addCase_28 : decode cX5_addCase 28 = .ok (.return_, 1) := by decide +kernel
theorem dX5_caseUnder_0 : decode cX5_caseUnder 0 = .ok (.aload_n 0, 1) := by decide +kernel
theorem dX5_caseUnder_1 : decode cX5_caseUnder 1 = .ok (.getfield 7, 3) := by decide +kernel
theorem dX5_caseUnder_4 : decode cX5_caseUnder 4 = .ok (.astore_n 2, 1) := by decide +kernel
theorem dX5_caseUnder_5 : decode cX5_caseUnder 5 = .ok (.aload_n 2, 1) := by decide +kernel
theorem dX5_caseUnder_6 : decode cX5_caseUnder 6 = .ok (.ifnull 24, 3) := by decide +kernel
theorem dX5_caseUnder_9 : decode cX5_caseUnder 9 = .ok (.aload_n 2, 1) := by decide +kernel
theorem dX5_caseUnder_10 : decode cX5_caseUnder 10 = .ok (.getfield 37, 3) := by decide +kernel
theorem dX5_caseUnder_13 : decode cX5_caseUnder 13 = .ok (.getfield 41, 3) := by decide +kernel
theorem dX5_caseUnder_16 : decode cX5_caseUnder 16 = .ok (.iload_n 1, 1) := by decide +kernel
theorem dX5_caseUnder_17 : decode cX5_caseUnder 17 = .ok (.if_icmp .ne 5, 3) := by decide +kernel
theorem dX5_caseUnder_20 : decode cX5_caseUnder 20 = .ok (.aload_n 2, 1) := by decide +kernel
theorem dX5_caseUnder_21 : decode cX5_caseUnder 21 = .ok (.areturn, 1) := by decide +kernel
theorem dX5_caseUnder_22 : decode cX5_caseUnder 22 = .ok (.aload_n 2, 1) := by decide +kernel
theorem dX5_caseUnder_23 : decode cX5_caseUnder 23 = .ok (.getfield 32, 3) := by decide +kernel
theorem dX5_caseUnder_26 : decode cX5_caseUnder 26 = .ok (.astore_n 2, 1) := by decide +kernel
theorem dX5_caseUnder_27 : decode cX5_caseUnder 27 = .ok (.goto (-22), 3) := by decide +kernel
theorem dX5_caseUnder_30 : decode cX5_caseUnder 30 = .ok (.aconst_null, 1) := by decide +kernel
theorem dX5_caseUnder_31 : decode cX5_caseUnder 31 = .ok (.areturn, 1) := by decide +kernel
theorem dX5_isHidden_0 : decode cX5_isHidden 0 = .ok (.aload_n 0, 1) := by decide +kernel
theorem dX5_isHidden_1 : decode cX5_isHidden 1 = .ok (.getfield 7, 3) := by decide +kernel
theorem dX5_isHidden_4 : decode cX5_isHidden 4 = .ok (.astore_n 1, 1) := by decide +kernel
theorem dX5_isHidden_5 : decode cX5_isHidden 5 = .ok (.aload_n 1, 1) := by decide +kernel
theorem dX5_isHidden_6 : decode cX5_isHidden 6 = .ok (.ifnull 20, 3) := by decide +kernel
theorem dX5_isHidden_9 : decode cX5_isHidden 9 = .ok (.aload_n 1, 1) := by decide +kernel
theorem dX5_isHidden_10 : decode cX5_isHidden 10 = .ok (.invokevirtual 44, 3) := by decide +kernel
theorem dX5_isHidden_13 : decode cX5_isHidden 13 = .ok (.ifCond .eq 5, 3) := by decide +kernel
theorem dX5_isHidden_16 : decode cX5_isHidden 16 = .ok (.iconst 1, 1) := by decide +kernel
theorem dX5_isHidden_17 : decode cX5_isHidden 17 = .ok (.ireturn, 1) := by decide +kernel
theorem dX5_isHidden_18 : decode cX5_isHidden 18 = .ok (.aload_n 1, 1) := by decide +kernel
theorem dX5_isHidden_19 : decode cX5_isHidden 19 = .ok (.getfield 32, 3) := by decide +kernel
theorem dX5_isHidden_22 : decode cX5_isHidden 22 = .ok (.astore_n 1, 1) := by decide +kernel
theorem dX5_isHidden_23 : decode cX5_isHidden 23 = .ok (.goto (-18), 3) := by decide +kernel
theorem dX5_isHidden_26 : decode cX5_isHidden 26 = .ok (.iconst 0, 1) := by decide +kernel
theorem dX5_isHidden_27 : decode cX5_isHidden 27 = .ok (.ireturn, 1) := by decide +kernel
theorem dX6_init_0 : decode cX6_init 0 = .ok (.aload_n 0, 1) := by decide +kernel
theorem dX6_init_1 : decode cX6_init 1 = .ok (.invokespecial 1, 3) := by decide +kernel
theorem dX6_init_4 : decode cX6_init 4 = .ok (.aload_n 0, 1) := by decide +kernel
theorem dX6_init_5 : decode cX6_init 5 = .ok (.iconst 0, 1) := by decide +kernel
theorem dX6_init_6 : decode cX6_init 6 = .ok (.putfield 7, 3) := by decide +kernel
theorem dX6_init_9 : decode cX6_init 9 = .ok (.aload_n 0, 1) := by decide +kernel
theorem dX6_init_10 : decode cX6_init 10 = .ok (.iconst 1, 1) := by decide +kernel
theorem dX6_init_11 : decode cX6_init 11 = .ok (.putfield 13, 3) := by decide +kernel
theorem dX6_init_14 : decode cX6_init 14 = .ok (.aload_n 0, 1) := by decide +kernel
theorem dX6_init_15 : decode cX6_init 15 = .ok (.iconst 0, 1) := by decide +kernel
theorem dX6_init_16 : decode cX6_init 16 = .ok (.putfield 16, 3) := by decide +kernel
theorem dX6_init_19 : decode cX6_init 19 = .ok (.aload_n 0, 1) := by decide +kernel
theorem dX6_init_20 : decode cX6_init 20 = .ok (.iload_n 1, 1) := by decide +kernel
theorem dX6_init_21 : decode cX6_init 21 = .ok (.putfield 19, 3) := by decide +kernel
theorem dX6_init_24 : decode cX6_init 24 = .ok (.return_, 1) := by decide +kernel
theorem dX7_init_0 : decode cX7_init 0 = .ok (.aload_n 0, 1) := by decide +kernel
theorem dX7_init_1 : decode cX7_init 1 = .ok (.invokespecial 1, 3) := by decide +kernel
theorem dX7_init_4 : decode cX7_init 4 = .ok (.aload_n 0, 1) := by decide +kernel
theorem dX7_init_5 : decode cX7_init 5 = .ok (.bipush 8, 2) := by decide +kernel
theorem dX7_init_7 : decode cX7_init 7 = .ok (.anewarray 9, 3) := by decide +kernel
theorem dX7_init_10 : decode cX7_init 10 = .ok (.putfield 11, 3) := by decide +kernel
theorem dX7_init_13 : decode cX7_init 13 = .ok (.aload_n 0, 1) := by decide +kernel
theorem dX7_init_14 : decode cX7_init 14 = .ok (.bipush 20, 2) := by decide +kernel
theorem dX7_init_16 : decode cX7_init 16 = .ok (.anewarray 15, 3) := by decide +kernel
theorem dX7_init_19 : decode cX7_init 19 = .ok (.putfield 17, 3) := by decide +kernel
theorem dX7_init_22 : decode cX7_init 22 = .ok (.aload_n 0, 1) := by decide +kernel
theorem dX7_init_23 : decode cX7_init 23 = .ok (.new 21, 3) := by decide +kernel
theorem dX7_init_26 : decode cX7_init 26 = .ok (.dup, 1) := by decide +kernel
theorem dX7_init_27 : decode cX7_init 27 = .ok (.invokespecial 23, 3) := by decide +kernel
theorem dX7_init_30 : decode cX7_init 30 = .ok (.putfield 24, 3) := by decide +kernel
theorem dX7_init_33 : decode cX7_init 33 = .ok (.aload_n 0, 1) := by decide +kernel
theorem dX7_init_34 : decode cX7_init 34 = .ok (.new 21, 3) := by decide +kernel
theorem dX7_init_37 : decode cX7_init 37 = .ok (.dup, 1) := by decide +kernel
theorem dX7_init_38 : decode cX7_init 38 = .ok (.invokespecial 23, 3) := by decide +kernel
theorem dX7_init_41 : decode cX7_init 41 = .ok (.putfield 28, 3) := by decide +kernel
theorem dX7_init_44 : decode cX7_init 44 = .ok (.aload_n 0, 1) := by decide +kernel
theorem dX7_init_45 : decode cX7_init 45 = .ok (.new 21, 3) := by decide +kernel
theorem dX7_init_48 : decode cX7_init 48 = .ok (.dup, 1) := by decide +kernel
theorem dX7_init_49 : decode cX7_init 49 = .ok (.invokespecial 23, 3) := by decide +kernel
theorem dX7_init_52 : decode cX7_init 52 = .ok (.putfield 31, 3) := by decide +kernel
theorem dX7_init_55 : decode cX7_init 55 = .ok (.aload_n 0, 1) := by decide +kernel
theorem dX7_init_56 : decode cX7_init 56 = .ok (.iconst 3, 1) := by decide +kernel
theorem dX7_init_57 : decode cX7_init 57 = .ok (.newarray .int, 2) := by decide +kernel
theorem dX7_init_59 : decode cX7_init 59 = .ok (.dup, 1) := by decide +kernel
theorem dX7_init_60 : decode cX7_init 60 = .ok (.iconst 0, 1) := by decide +kernel
theorem dX7_init_61 : decode cX7_init 61 = .ok (.bipush 10, 2) := by decide +kernel
theorem dX7_init_63 : decode cX7_init 63 = .ok (.iastore, 1) := by decide +kernel
theorem dX7_init_64 : decode cX7_init 64 = .ok (.dup, 1) := by decide +kernel
theorem dX7_init_65 : decode cX7_init 65 = .ok (.iconst 1, 1) := by decide +kernel
theorem dX7_init_66 : decode cX7_init 66 = .ok (.bipush 20, 2) := by decide +kernel
theorem dX7_init_68 : decode cX7_init 68 = .ok (.iastore, 1) := by decide +kernel
theorem dX7_init_69 : decode cX7_init 69 = .ok (.dup, 1) := by decide +kernel
theorem dX7_init_70 : decode cX7_init 70 = .ok (.iconst 2, 1) := by decide +kernel
theorem dX7_init_71 : decode cX7_init 71 = .ok (.bipush 30, 2) := by decide +kernel
theorem dX7_init_73 : decode cX7_init 73 = .ok (.iastore, 1) := by decide +kernel
theorem dX7_init_74 : decode cX7_init 74 = .ok (.putfield 34, 3) := by decide +kernel
theorem dX7_init_77 : decode cX7_init 77 = .ok (.aload_n 0, 1) := by decide +kernel
theorem dX7_init_78 : decode cX7_init 78 = .ok (.new 38, 3) := by decide +kernel
theorem dX7_init_81 : decode cX7_init 81 = .ok (.dup, 1) := by decide +kernel
theorem dX7_init_82 : decode cX7_init 82 = .ok (.invokespecial 40, 3) := by decide +kernel
theorem dX7_init_85 : decode cX7_init 85 = .ok (.putfield 41, 3) := by decide +kernel
theorem dX7_init_88 : decode cX7_init 88 = .ok (.aload_n 0, 1) := by decide +kernel
theorem dX7_init_89 : decode cX7_init 89 = .ok (.iconst 0, 1) := by decide +kernel
theorem dX7_init_90 : decode cX7_init 90 = .ok (.putfield 45, 3) := by decide +kernel
theorem dX7_init_93 : decode cX7_init 93 = .ok (.aload_n 0, 1) := by decide +kernel
theorem dX7_init_94 : decode cX7_init 94 = .ok (.bipush 100, 2) := by decide +kernel
theorem dX7_init_96 : decode cX7_init 96 = .ok (.putfield 49, 3) := by decide +kernel
theorem dX7_init_99 : decode cX7_init 99 = .ok (.aload_n 0, 1) := by decide +kernel
theorem dX7_init_100 : decode cX7_init 100 = .ok (.iconst 0, 1) := by decide +kernel
theorem dX7_init_101 : decode cX7_init 101 = .ok (.putfield 52, 3) := by decide +kernel
theorem dX7_init_104 : decode cX7_init 104 = .ok (.iconst 0, 1) := by decide +kernel
theorem dX7_init_105 : decode cX7_init 105 = .ok (.istore_n 1, 1) := by decide +kernel
theorem dX7_init_106 : decode cX7_init 106 = .ok (.iload_n 1, 1) := by decide +kernel
theorem dX7_init_107 : decode cX7_init 107 = .ok (.bipush 8, 2) := by decide +kernel
theorem dX7_init_109 : decode cX7_init 109 = .ok (.if_icmp .ge 23, 3) := by decide +kernel
theorem dX7_init_112 : decode cX7_init 112 = .ok (.aload_n 0, 1) := by decide +kernel
theorem dX7_init_113 : decode cX7_init 113 = .ok (.getfield 11, 3) := by decide +kernel
theorem dX7_init_116 : decode cX7_init 116 = .ok (.iload_n 1, 1) := by decide +kernel
theorem dX7_init_117 : decode cX7_init 117 = .ok (.new 9, 3) := by decide +kernel
theorem dX7_init_120 : decode cX7_init 120 = .ok (.dup, 1) := by decide +kernel
theorem dX7_init_121 : decode cX7_init 121 = .ok (.iload_n 1, 1) := by decide +kernel
theorem dX7_init_122 : decode cX7_init 122 = .ok (.invokespecial 55, 3) := by decide +kernel
theorem dX7_init_125 : decode cX7_init 125 = .ok (.aastore, 1) := by decide +kernel
theorem dX7_init_126 : decode cX7_init 126 = .ok (.iinc 1 1, 3) := by decide +kernel
theorem dX7_init_129 : decode cX7_init 129 = .ok (.goto (-23), 3) := by decide +kernel
theorem dX7_init_132 : decode cX7_init 132 = .ok (.iconst 0, 1) := by decide +kernel
theorem dX7_init_133 : decode cX7_init 133 = .ok (.istore_n 1, 1) := by decide +kernel
theorem dX7_init_134 : decode cX7_init 134 = .ok (.iload_n 1, 1) := by decide +kernel
theorem dX7_init_135 : decode cX7_init 135 = .ok (.bipush 20, 2) := by decide +kernel
theorem dX7_init_137 : decode cX7_init 137 = .ok (.if_icmp .ge 23, 3) := by decide +kernel
theorem dX7_init_140 : decode cX7_init 140 = .ok (.aload_n 0, 1) := by decide +kernel
theorem dX7_init_141 : decode cX7_init 141 = .ok (.getfield 17, 3) := by decide +kernel
theorem dX7_init_144 : decode cX7_init 144 = .ok (.iload_n 1, 1) := by decide +kernel
theorem dX7_init_145 : decode cX7_init 145 = .ok (.new 15, 3) := by decide +kernel
theorem dX7_init_148 : decode cX7_init 148 = .ok (.dup, 1) := by decide +kernel
theorem dX7_init_149 : decode cX7_init 149 = .ok (.iload_n 1, 1) := by decide +kernel
theorem dX7_init_150 : decode cX7_init 150 = .ok (.invokespecial 58, 3) := by decide +kernel
theorem dX7_init_153 : decode cX7_init 153 = .ok (.aastore, 1) := by decide +kernel
theorem dX7_init_154 : decode cX7_init 154 = .ok (.iinc 1 1, 3) := by decide +kernel
theorem dX7_init_157 : decode cX7_init 157 = .ok (.goto (-23), 3) := by decide +kernel
theorem dX7_init_160 : decode cX7_init 160 = .ok (.return_, 1) := by decide +kernel
theorem dX7_tick_0 : decode cX7_tick 0 = .ok (.iload_n 1, 1) := by decide +kernel
theorem dX7_tick_1 : decode cX7_tick 1 = .ok (.iconst 1, 1) := by decide +kernel
theorem dX7_tick_2 : decode cX7_tick 2 = .ok (.sipush 1000, 3) := by decide +kernel
theorem dX7_tick_5 : decode cX7_tick 5 = .ok (.invokestatic 59, 3) := by decide +kernel
theorem dX7_tick_8 : decode cX7_tick 8 = .ok (.ifCond .eq 14, 3) := by decide +kernel
theorem dX7_tick_11 : decode cX7_tick 11 = .ok (.iload_n 1, 1) := by decide +kernel
theorem dX7_tick_12 : decode cX7_tick 12 = .ok (.ldc 63, 2) := by decide +kernel
theorem dX7_tick_14 : decode cX7_tick 14 = .ok (.aload_n 0, 1) := by decide +kernel
theorem dX7_tick_15 : decode cX7_tick 15 = .ok (.getfield 45, 3) := by decide +kernel
theorem dX7_tick_18 : decode cX7_tick 18 = .ok (.isub, 1) := by decide +kernel
theorem dX7_tick_19 : decode cX7_tick 19 = .ok (.if_icmp .le 5, 3) := by decide +kernel
theorem dX7_tick_22 : decode cX7_tick 22 = .ok (.iconst (-1), 1) := by decide +kernel
theorem dX7_tick_23 : decode cX7_tick 23 = .ok (.ireturn, 1) := by decide +kernel
theorem dX7_tick_24 : decode cX7_tick 24 = .ok (.aload_n 0, 1) := by decide +kernel
theorem dX7_tick_25 : decode cX7_tick 25 = .ok (.dup, 1) := by decide +kernel
theorem dX7_tick_26 : decode cX7_tick 26 = .ok (.getfield 45, 3) := by decide +kernel
theorem dX7_tick_29 : decode cX7_tick 29 = .ok (.iload_n 1, 1) := by decide +kernel
theorem dX7_tick_30 : decode cX7_tick 30 = .ok (.iadd, 1) := by decide +kernel
theorem dX7_tick_31 : decode cX7_tick 31 = .ok (.putfield 45, 3) := by decide +kernel
theorem dX7_tick_34 : decode cX7_tick 34 = .ok (.aload_n 0, 1) := by decide +kernel
theorem dX7_tick_35 : decode cX7_tick 35 = .ok (.getfield 45, 3) := by decide +kernel
theorem dX7_tick_38 : decode cX7_tick 38 = .ok (.ireturn, 1) := by decide +kernel
theorem dX7_rule_0 : decode cX7_rule 0 = .ok (.aload_n 0, 1) := by decide +kernel
theorem dX7_rule_1 : decode cX7_rule 1 = .ok (.iload_n 1, 1) := by decide +kernel
theorem dX7_rule_2 : decode cX7_rule 2 = .ok (.invokevirtual 64, 3) := by decide +kernel
theorem dX7_rule_5 : decode cX7_rule 5 = .ok (.astore 5, 2) := by decide +kernel
theorem dX7_rule_7 : decode cX7_rule 7 = .ok (.aload 5, 2) := by decide +kernel
theorem dX7_rule_9 : decode cX7_rule 9 = .ok (.ifnull 32, 3) := by decide +kernel
theorem dX7_rule_12 : decode cX7_rule 12 = .ok (.iload_n 2, 1) := by decide +kernel
theorem dX7_rule_13 : decode cX7_rule 13 = .ok (.iconst 0, 1) := by decide +kernel
theorem dX7_rule_14 : decode cX7_rule 14 = .ok (.iconst 2, 1) := by decide +kernel
theorem dX7_rule_15 : decode cX7_rule 15 = .ok (.invokestatic 59, 3) := by decide +kernel
theorem dX7_rule_18 : decode cX7_rule 18 = .ok (.ifCond .eq 23, 3) := by decide +kernel
theorem dX7_rule_21 : decode cX7_rule 21 = .ok (.iload_n 3, 1) := by decide +kernel
theorem dX7_rule_22 : decode cX7_rule 22 = .ok (.iconst 1, 1) := by decide +kernel
theorem dX7_rule_23 : decode cX7_rule 23 = .ok (.bipush 100, 2) := by decide +kernel
theorem dX7_rule_25 : decode cX7_rule 25 = .ok (.invokestatic 59, 3) := by decide +kernel
theorem dX7_rule_28 : decode cX7_rule 28 = .ok (.ifCond .eq 13, 3) := by decide +kernel
theorem dX7_rule_31 : decode cX7_rule 31 = .ok (.iload 4, 2) := by decide +kernel
theorem dX7_rule_33 : decode cX7_rule 33 = .ok (.iconst 0, 1) := by decide +kernel
theorem dX7_rule_34 : decode cX7_rule 34 = .ok (.iconst 2, 1) := by decide +kernel
theorem dX7_rule_35 : decode cX7_rule 35 = .ok (.invokestatic 59, 3) := by decide +kernel
theorem dX7_rule_38 : decode cX7_rule 38 = .ok (.ifCond .ne 5, 3) := by decide +kernel
theorem dX7_rule_41 : decode cX7_rule 41 = .ok (.iconst (-1), 1) := by decide +kernel
theorem dX7_rule_42 : decode cX7_rule 42 = .ok (.ireturn, 1) := by decide +kernel
theorem dX7_rule_43 : decode cX7_rule 43 = .ok (.aload 5, 2) := by decide +kernel
theorem dX7_rule_45 : decode cX7_rule 45 = .ok (.iload_n 2, 1) := by decide +kernel
theorem dX7_rule_46 : decode cX7_rule 46 = .ok (.putfield 68, 3) := by decide +kernel
theorem dX7_rule_49 : decode cX7_rule 49 = .ok (.aload 5, 2) := by decide +kernel
theorem dX7_rule_51 : decode cX7_rule 51 = .ok (.iload_n 3, 1) := by decide +kernel
theorem dX7_rule_52 : decode cX7_rule 52 = .ok (.putfield 71, 3) := by decide +kernel
theorem dX7_rule_55 : decode cX7_rule 55 = .ok (.aload 5, 2) := by decide +kernel
theorem dX7_rule_57 : decode cX7_rule 57 = .ok (.iload 4, 2) := by decide +kernel
theorem dX7_rule_59 : decode cX7_rule 59 = .ok (.putfield 74, 3) := by decide +kernel
theorem dX7_rule_62 : decode cX7_rule 62 = .ok (.iconst 1, 1) := by decide +kernel
theorem dX7_rule_63 : decode cX7_rule 63 = .ok (.ireturn, 1) := by decide +kernel
theorem dX7_ladder_0 : decode cX7_ladder 0 = .ok (.iload_n 1, 1) := by decide +kernel
theorem dX7_ladder_1 : decode cX7_ladder 1 = .ok (.iconst 1, 1) := by decide +kernel
theorem dX7_ladder_2 : decode cX7_ladder 2 = .ok (.sipush 10000, 3) := by decide +kernel
theorem dX7_ladder_5 : decode cX7_ladder 5 = .ok (.invokestatic 59, 3) := by decide +kernel
theorem dX7_ladder_8 : decode cX7_ladder 8 = .ok (.ifCond .eq 14, 3) := by decide +kernel
theorem dX7_ladder_11 : decode cX7_ladder 11 = .ok (.iload_n 2, 1) := by decide +kernel
theorem dX7_ladder_12 : decode cX7_ladder 12 = .ok (.iconst 1, 1) := by decide +kernel
theorem dX7_ladder_13 : decode cX7_ladder 13 = .ok (.sipush 10000, 3) := by decide +kernel
theorem dX7_ladder_16 : decode cX7_ladder 16 = .ok (.invokestatic 59, 3) := by decide +kernel
theorem dX7_ladder_19 : decode cX7_ladder 19 = .ok (.ifCond .ne 5, 3) := by decide +kernel
theorem dX7_ladder_22 : decode cX7_ladder 22 = .ok (.iconst (-1), 1) := by decide +kernel
theorem dX7_ladder_23 : decode cX7_ladder 23 = .ok (.ireturn, 1) := by decide +kernel
theorem dX7_ladder_24 : decode cX7_ladder 24 = .ok (.aload_n 0, 1) := by decide +kernel
theorem dX7_ladder_25 : decode cX7_ladder 25 = .ok (.getfield 41, 3) := by decide +kernel
theorem dX7_ladder_28 : decode cX7_ladder 28 = .ok (.iload_n 1, 1) := by decide +kernel
theorem dX7_ladder_29 : decode cX7_ladder 29 = .ok (.putfield 77, 3) := by decide +kernel
theorem dX7_ladder_32 : decode cX7_ladder 32 = .ok (.aload_n 0, 1) := by decide +kernel
theorem dX7_ladder_33 : decode cX7_ladder 33 = .ok (.getfield 41, 3) := by decide +kernel
theorem dX7_ladder_36 : decode cX7_ladder 36 = .ok (.iload_n 2, 1) := by decide +kernel
theorem dX7_ladder_37 : decode cX7_ladder 37 = .ok (.putfield 80, 3) := by decide +kernel
theorem dX7_ladder_40 : decode cX7_ladder 40 = .ok (.iconst 1, 1) := by decide +kernel
theorem dX7_ladder_41 : decode cX7_ladder 41 = .ok (.ireturn, 1) := by decide +kernel
theorem dX7_due_0 : decode cX7_due 0 = .ok (.iload_n 1, 1) := by decide +kernel
theorem dX7_due_1 : decode cX7_due 1 = .ok (.iconst 0, 1) := by decide +kernel
theorem dX7_due_2 : decode cX7_due 2 = .ok (.iconst 2, 1) := by decide +kernel
theorem dX7_due_3 : decode cX7_due 3 = .ok (.invokestatic 59, 3) := by decide +kernel
theorem dX7_due_6 : decode cX7_due 6 = .ok (.ifCond .eq 14, 3) := by decide +kernel
theorem dX7_due_9 : decode cX7_due 9 = .ok (.iload_n 2, 1) := by decide +kernel
theorem dX7_due_10 : decode cX7_due 10 = .ok (.iconst 1, 1) := by decide +kernel
theorem dX7_due_11 : decode cX7_due 11 = .ok (.sipush 1000, 3) := by decide +kernel
theorem dX7_due_14 : decode cX7_due 14 = .ok (.invokestatic 59, 3) := by decide +kernel
theorem dX7_due_17 : decode cX7_due 17 = .ok (.ifCond .ne 5, 3) := by decide +kernel
theorem dX7_due_20 : decode cX7_due 20 = .ok (.iconst (-1), 1) := by decide +kernel
theorem dX7_due_21 : decode cX7_due 21 = .ok (.ireturn, 1) := by decide +kernel
theorem dX7_due_22 : decode cX7_due 22 = .ok (.aload_n 0, 1) := by decide +kernel
theorem dX7_due_23 : decode cX7_due 23 = .ok (.getfield 34, 3) := by decide +kernel
theorem dX7_due_26 : decode cX7_due 26 = .ok (.iload_n 1, 1) := by decide +kernel
theorem dX7_due_27 : decode cX7_due 27 = .ok (.iaload, 1) := by decide +kernel
theorem dX7_due_28 : decode cX7_due 28 = .ok (.istore_n 3, 1) := by decide +kernel
theorem dX7_due_29 : decode cX7_due 29 = .ok (.aload_n 0, 1) := by decide +kernel
theorem dX7_due_30 : decode cX7_due 30 = .ok (.getfield 34, 3) := by decide +kernel
theorem dX7_due_33 : decode cX7_due 33 = .ok (.iload_n 1, 1) := by decide +kernel
theorem dX7_due_34 : decode cX7_due 34 = .ok (.iload_n 2, 1) := by decide +kernel
theorem dX7_due_35 : decode cX7_due 35 = .ok (.iastore, 1) := by decide +kernel
theorem dX7_due_36 : decode cX7_due 36 = .ok (.iload_n 3, 1) := by decide +kernel
theorem dX7_due_37 : decode cX7_due 37 = .ok (.ireturn, 1) := by decide +kernel
theorem dX7_limit_0 : decode cX7_limit 0 = .ok (.iload_n 1, 1) := by decide +kernel
theorem dX7_limit_1 : decode cX7_limit 1 = .ok (.iconst 0, 1) := by decide +kernel
theorem dX7_limit_2 : decode cX7_limit 2 = .ok (.bipush 100, 2) := by decide +kernel
theorem dX7_limit_4 : decode cX7_limit 4 = .ok (.invokestatic 59, 3) := by decide +kernel
theorem dX7_limit_7 : decode cX7_limit 7 = .ok (.ifCond .ne 5, 3) := by decide +kernel
theorem dX7_limit_10 : decode cX7_limit 10 = .ok (.iconst (-1), 1) := by decide +kernel
theorem dX7_limit_11 : decode cX7_limit 11 = .ok (.ireturn, 1) := by decide +kernel
theorem dX7_limit_12 : decode cX7_limit 12 = .ok (.aload_n 0, 1) := by decide +kernel
theorem dX7_limit_13 : decode cX7_limit 13 = .ok (.getfield 49, 3) := by decide +kernel
theorem dX7_limit_16 : decode cX7_limit 16 = .ok (.istore_n 2, 1) := by decide +kernel
theorem dX7_limit_17 : decode cX7_limit 17 = .ok (.aload_n 0, 1) := by decide +kernel
theorem dX7_limit_18 : decode cX7_limit 18 = .ok (.iload_n 1, 1) := by decide +kernel
theorem dX7_limit_19 : decode cX7_limit 19 = .ok (.putfield 49, 3) := by decide +kernel
theorem dX7_limit_22 : decode cX7_limit 22 = .ok (.iload_n 2, 1) := by decide +kernel
theorem dX7_limit_23 : decode cX7_limit 23 = .ok (.ireturn, 1) := by decide +kernel
theorem dX7_post_0 : decode cX7_post 0 = .ok (.iload_n 1, 1) := by decide +kernel
theorem dX7_post_1 : decode cX7_post 1 = .ok (.iconst 0, 1) := by decide +kernel
