theorem dX7_takeBack_35 : decode cX7_takeBack 35 = .ok (.getfield 161, 3) := by decide +kernel
theorem dX7_takeBack_38 : decode cX7_takeBack 38 = .ok (.iconst 1, 1) := by decide +kernel
theorem dX7_takeBack_39 : decode cX7_takeBack 39 = .ok (.isub, 1) := by decide +kernel
theorem dX7_takeBack_40 : decode cX7_takeBack 40 = .ok (.putfield 161, 3) := by decide +kernel
theorem dX7_takeBack_43 : decode cX7_takeBack 43 = .ok (.aload_n 2, 1) := by decide +kernel
theorem dX7_takeBack_44 : decode cX7_takeBack 44 = .ok (.getfield 173, 3) := by decide +kernel
theorem dX7_takeBack_47 : decode cX7_takeBack 47 = .ok (.dup, 1) := by decide +kernel
theorem dX7_takeBack_48 : decode cX7_takeBack 48 = .ok (.getfield 163, 3) := by decide +kernel
theorem dX7_takeBack_51 : decode cX7_takeBack 51 = .ok (.aload_n 2, 1) := by decide +kernel
theorem dX7_takeBack_52 : decode cX7_takeBack 52 = .ok (.getfield 335, 3) := by decide +kernel
theorem dX7_takeBack_55 : decode cX7_takeBack 55 = .ok (.getfield 166, 3) := by decide +kernel
theorem dX7_takeBack_58 : decode cX7_takeBack 58 = .ok (.iconst (-1), 1) := by decide +kernel
theorem dX7_takeBack_59 : decode cX7_takeBack 59 = .ok (.ixor, 1) := by decide +kernel
theorem dX7_takeBack_60 : decode cX7_takeBack 60 = .ok (.iand, 1) := by decide +kernel
theorem dX7_takeBack_61 : decode cX7_takeBack 61 = .ok (.putfield 163, 3) := by decide +kernel
theorem dX7_takeBack_64 : decode cX7_takeBack 64 = .ok (.return_, 1) := by decide +kernel
theorem dX7_layToRest_0 : decode cX7_layToRest 0 = .ok (.aload_n 1, 1) := by decide +kernel
theorem dX7_layToRest_1 : decode cX7_layToRest 1 = .ok (.iconst 1, 1) := by decide +kernel
theorem dX7_layToRest_2 : decode cX7_layToRest 2 = .ok (.putfield 144, 3) := by decide +kernel
theorem dX7_layToRest_5 : decode cX7_layToRest 5 = .ok (.aload_n 0, 1) := by decide +kernel
theorem dX7_layToRest_6 : decode cX7_layToRest 6 = .ok (.getfield 31, 3) := by decide +kernel
theorem dX7_layToRest_9 : decode cX7_layToRest 9 = .ok (.invokevirtual 83, 3) := by decide +kernel
theorem dX7_layToRest_12 : decode cX7_layToRest 12 = .ok (.iconst 1, 1) := by decide +kernel
theorem dX7_layToRest_13 : decode cX7_layToRest 13 = .ok (.isub, 1) := by decide +kernel
theorem dX7_layToRest_14 : decode cX7_layToRest 14 = .ok (.istore_n 2, 1) := by decide +kernel
theorem dX7_layToRest_15 : decode cX7_layToRest 15 = .ok (.iload_n 2, 1) := by decide +kernel
theorem dX7_layToRest_16 : decode cX7_layToRest 16 = .ok (.ifCond .lt 32, 3) := by decide +kernel
theorem dX7_layToRest_19 : decode cX7_layToRest 19 = .ok (.aload_n 0, 1) := by decide +kernel
theorem dX7_layToRest_20 : decode cX7_layToRest 20 = .ok (.getfield 31, 3) := by decide +kernel
theorem dX7_layToRest_23 : decode cX7_layToRest 23 = .ok (.iload_n 2, 1) := by decide +kernel
theorem dX7_layToRest_24 : decode cX7_layToRest 24 = .ok (.invokevirtual 169, 3) := by decide +kernel
theorem dX7_layToRest_27 : decode cX7_layToRest 27 = .ok (.checkcast 156, 3) := by decide +kernel
theorem dX7_layToRest_30 : decode cX7_layToRest 30 = .ok (.getfield 335, 3) := by decide +kernel
theorem dX7_layToRest_33 : decode cX7_layToRest 33 = .ok (.aload_n 1, 1) := by decide +kernel
theorem dX7_layToRest_34 : decode cX7_layToRest 34 = .ok (.if_acmp .ne 8, 3) := by decide +kernel
theorem dX7_layToRest_37 : decode cX7_layToRest 37 = .ok (.aload_n 0, 1) := by decide +kernel
theorem dX7_layToRest_38 : decode cX7_layToRest 38 = .ok (.iload_n 2, 1) := by decide +kernel
theorem dX7_layToRest_39 : decode cX7_layToRest 39 = .ok (.invokevirtual 177, 3) := by decide +kernel
theorem dX7_layToRest_42 : decode cX7_layToRest 42 = .ok (.iinc 2 (-1), 3) := by decide +kernel
theorem dX7_layToRest_45 : decode cX7_layToRest 45 = .ok (.goto (-30), 3) := by decide +kernel
theorem dX7_layToRest_48 : decode cX7_layToRest 48 = .ok (.return_, 1) := by decide +kernel
theorem dX7_settle_0 : decode cX7_settle 0 = .ok (.aload_n 1, 1) := by decide +kernel
theorem dX7_settle_1 : decode cX7_settle 1 = .ok (.invokevirtual 190, 3) := by decide +kernel
theorem dX7_settle_4 : decode cX7_settle 4 = .ok (.astore_n 2, 1) := by decide +kernel
theorem dX7_settle_5 : decode cX7_settle 5 = .ok (.aload_n 2, 1) := by decide +kernel
theorem dX7_settle_6 : decode cX7_settle 6 = .ok (.invokevirtual 247, 3) := by decide +kernel
theorem dX7_settle_9 : decode cX7_settle 9 = .ok (.aload_n 2, 1) := by decide +kernel
theorem dX7_settle_10 : decode cX7_settle 10 = .ok (.getfield 231, 3) := by decide +kernel
theorem dX7_settle_13 : decode cX7_settle 13 = .ok (.if_icmp .ge 4, 3) := by decide +kernel
theorem dX7_settle_16 : decode cX7_settle 16 = .ok (.return_, 1) := by decide +kernel
theorem dX7_settle_17 : decode cX7_settle 17 = .ok (.aload_n 2, 1) := by decide +kernel
theorem dX7_settle_18 : decode cX7_settle 18 = .ok (.invokevirtual 342, 3) := by decide +kernel
theorem dX7_settle_21 : decode cX7_settle 21 = .ok (.ifCond .ne 15, 3) := by decide +kernel
theorem dX7_settle_24 : decode cX7_settle 24 = .ok (.aload_n 2, 1) := by decide +kernel
theorem dX7_settle_25 : decode cX7_settle 25 = .ok (.invokevirtual 345, 3) := by decide +kernel
theorem dX7_settle_28 : decode cX7_settle 28 = .ok (.ifCond .eq 8, 3) := by decide +kernel
theorem dX7_settle_31 : decode cX7_settle 31 = .ok (.aload_n 2, 1) := by decide +kernel
theorem dX7_settle_32 : decode cX7_settle 32 = .ok (.invokevirtual 348, 3) := by decide +kernel
theorem dX7_settle_35 : decode cX7_settle 35 = .ok (.return_, 1) := by decide +kernel
theorem dX7_settle_36 : decode cX7_settle 36 = .ok (.aload_n 1, 1) := by decide +kernel
theorem dX7_settle_37 : decode cX7_settle 37 = .ok (.invokevirtual 351, 3) := by decide +kernel
theorem dX7_settle_40 : decode cX7_settle 40 = .ok (.aload_n 0, 1) := by decide +kernel
theorem dX7_settle_41 : decode cX7_settle 41 = .ok (.dup, 1) := by decide +kernel
theorem dX7_settle_42 : decode cX7_settle 42 = .ok (.getfield 52, 3) := by decide +kernel
theorem dX7_settle_45 : decode cX7_settle 45 = .ok (.iconst 1, 1) := by decide +kernel
theorem dX7_settle_46 : decode cX7_settle 46 = .ok (.iadd, 1) := by decide +kernel
theorem dX7_settle_47 : decode cX7_settle 47 = .ok (.putfield 52, 3) := by decide +kernel
theorem dX7_settle_50 : decode cX7_settle 50 = .ok (.aload_n 0, 1) := by decide +kernel
theorem dX7_settle_51 : decode cX7_settle 51 = .ok (.invokevirtual 261, 3) := by decide +kernel
theorem dX7_settle_54 : decode cX7_settle 54 = .ok (.return_, 1) := by decide +kernel
theorem dX7_restDoubtedJudges_0 : decode cX7_restDoubtedJudges 0 = .ok (.aload_n 0, 1) := by decide +kernel
theorem dX7_restDoubtedJudges_1 : decode cX7_restDoubtedJudges 1 = .ok (.getfield 17, 3) := by decide +kernel
theorem dX7_restDoubtedJudges_4 : decode cX7_restDoubtedJudges 4 = .ok (.astore_n 1, 1) := by decide +kernel
theorem dX7_restDoubtedJudges_5 : decode cX7_restDoubtedJudges 5 = .ok (.aload_n 1, 1) := by decide +kernel
theorem dX7_restDoubtedJudges_6 : decode cX7_restDoubtedJudges 6 = .ok (.arraylength, 1) := by decide +kernel
theorem dX7_restDoubtedJudges_7 : decode cX7_restDoubtedJudges 7 = .ok (.istore_n 2, 1) := by decide +kernel
theorem dX7_restDoubtedJudges_8 : decode cX7_restDoubtedJudges 8 = .ok (.iconst 0, 1) := by decide +kernel
theorem dX7_restDoubtedJudges_9 : decode cX7_restDoubtedJudges 9 = .ok (.istore_n 3, 1) := by decide +kernel
theorem dX7_restDoubtedJudges_10 : decode cX7_restDoubtedJudges 10 = .ok (.iload_n 3, 1) := by decide +kernel
theorem dX7_restDoubtedJudges_11 : decode cX7_restDoubtedJudges 11 = .ok (.iload_n 2, 1) := by decide +kernel
theorem dX7_restDoubtedJudges_12 : decode cX7_restDoubtedJudges 12 = .ok (.if_icmp .ge 53, 3) := by decide +kernel
theorem dX7_restDoubtedJudges_15 : decode cX7_restDoubtedJudges 15 = .ok (.aload_n 1, 1) := by decide +kernel
theorem dX7_restDoubtedJudges_16 : decode cX7_restDoubtedJudges 16 = .ok (.iload_n 3, 1) := by decide +kernel
theorem dX7_restDoubtedJudges_17 : decode cX7_restDoubtedJudges 17 = .ok (.aaload, 1) := by decide +kernel
theorem dX7_restDoubtedJudges_18 : decode cX7_restDoubtedJudges 18 = .ok (.astore 4, 2) := by decide +kernel
theorem dX7_restDoubtedJudges_20 : decode cX7_restDoubtedJudges 20 = .ok (.aload_n 0, 1) := by decide +kernel
theorem dX7_restDoubtedJudges_21 : decode cX7_restDoubtedJudges 21 = .ok (.aload 4, 2) := by decide +kernel
theorem dX7_restDoubtedJudges_23 : decode cX7_restDoubtedJudges 23 = .ok (.invokevirtual 210, 3) := by decide +kernel
theorem dX7_restDoubtedJudges_26 : decode cX7_restDoubtedJudges 26 = .ok (.istore 5, 2) := by decide +kernel
theorem dX7_restDoubtedJudges_28 : decode cX7_restDoubtedJudges 28 = .ok (.iload 5, 2) := by decide +kernel
theorem dX7_restDoubtedJudges_30 : decode cX7_restDoubtedJudges 30 = .ok (.iconst 5, 1) := by decide +kernel
theorem dX7_restDoubtedJudges_31 : decode cX7_restDoubtedJudges 31 = .ok (.if_icmp .lt 28, 3) := by decide +kernel
theorem dX7_restDoubtedJudges_34 : decode cX7_restDoubtedJudges 34 = .ok (.aload_n 0, 1) := by decide +kernel
theorem dX7_restDoubtedJudges_35 : decode cX7_restDoubtedJudges 35 = .ok (.aload 4, 2) := by decide +kernel
theorem dX7_restDoubtedJudges_37 : decode cX7_restDoubtedJudges 37 = .ok (.invokevirtual 214, 3) := by decide +kernel
theorem dX7_restDoubtedJudges_40 : decode cX7_restDoubtedJudges 40 = .ok (.bipush 100, 2) := by decide +kernel
theorem dX7_restDoubtedJudges_42 : decode cX7_restDoubtedJudges 42 = .ok (.imul, 1) := by decide +kernel
theorem dX7_restDoubtedJudges_43 : decode cX7_restDoubtedJudges 43 = .ok (.aload_n 0, 1) := by decide +kernel
theorem dX7_restDoubtedJudges_44 : decode cX7_restDoubtedJudges 44 = .ok (.getfield 49, 3) := by decide +kernel
theorem dX7_restDoubtedJudges_47 : decode cX7_restDoubtedJudges 47 = .ok (.iload 5, 2) := by decide +kernel
theorem dX7_restDoubtedJudges_49 : decode cX7_restDoubtedJudges 49 = .ok (.imul, 1) := by decide +kernel
theorem dX7_restDoubtedJudges_50 : decode cX7_restDoubtedJudges 50 = .ok (.if_icmp .le 9, 3) := by decide +kernel
theorem dX7_restDoubtedJudges_53 : decode cX7_restDoubtedJudges 53 = .ok (.aload_n 0, 1) := by decide +kernel
theorem dX7_restDoubtedJudges_54 : decode cX7_restDoubtedJudges 54 = .ok (.aload 4, 2) := by decide +kernel
theorem dX7_restDoubtedJudges_56 : decode cX7_restDoubtedJudges 56 = .ok (.invokevirtual 148, 3) := by decide +kernel
theorem dX7_restDoubtedJudges_59 : decode cX7_restDoubtedJudges 59 = .ok (.iinc 3 1, 3) := by decide +kernel
theorem dX7_restDoubtedJudges_62 : decode cX7_restDoubtedJudges 62 = .ok (.goto (-52), 3) := by decide +kernel
theorem dX7_restDoubtedJudges_65 : decode cX7_restDoubtedJudges 65 = .ok (.return_, 1) := by decide +kernel
theorem dX7_askedOf_0 : decode cX7_askedOf 0 = .ok (.iconst 0, 1) := by decide +kernel
theorem dX7_askedOf_1 : decode cX7_askedOf 1 = .ok (.istore_n 2, 1) := by decide +kernel
theorem dX7_askedOf_2 : decode cX7_askedOf 2 = .ok (.iconst 0, 1) := by decide +kernel
theorem dX7_askedOf_3 : decode cX7_askedOf 3 = .ok (.istore_n 3, 1) := by decide +kernel
theorem dX7_askedOf_4 : decode cX7_askedOf 4 = .ok (.iload_n 3, 1) := by decide +kernel
theorem dX7_askedOf_5 : decode cX7_askedOf 5 = .ok (.aload_n 0, 1) := by decide +kernel
theorem dX7_askedOf_6 : decode cX7_askedOf 6 = .ok (.getfield 28, 3) := by decide +kernel
theorem dX7_askedOf_9 : decode cX7_askedOf 9 = .ok (.invokevirtual 83, 3) := by decide +kernel
theorem dX7_askedOf_12 : decode cX7_askedOf 12 = .ok (.if_icmp .ge 38, 3) := by decide +kernel
theorem dX7_askedOf_15 : decode cX7_askedOf 15 = .ok (.iload_n 2, 1) := by decide +kernel
theorem dX7_askedOf_16 : decode cX7_askedOf 16 = .ok (.aload_n 0, 1) := by decide +kernel
theorem dX7_askedOf_17 : decode cX7_askedOf 17 = .ok (.getfield 28, 3) := by decide +kernel
theorem dX7_askedOf_20 : decode cX7_askedOf 20 = .ok (.iload_n 3, 1) := by decide +kernel
theorem dX7_askedOf_21 : decode cX7_askedOf 21 = .ok (.invokevirtual 169, 3) := by decide +kernel
theorem dX7_askedOf_24 : decode cX7_askedOf 24 = .ok (.checkcast 105, 3) := by decide +kernel
theorem dX7_askedOf_27 : decode cX7_askedOf 27 = .ok (.aload_n 1, 1) := by decide +kernel
theorem dX7_askedOf_28 : decode cX7_askedOf 28 = .ok (.invokevirtual 354, 3) := by decide +kernel
theorem dX7_askedOf_31 : decode cX7_askedOf 31 = .ok (.ifCond .eq 7, 3) := by decide +kernel
theorem dX7_askedOf_34 : decode cX7_askedOf 34 = .ok (.iconst 1, 1) := by decide +kernel
theorem dX7_askedOf_35 : decode cX7_askedOf 35 = .ok (.goto 4, 3) := by decide +kernel
theorem dX7_askedOf_38 : decode cX7_askedOf 38 = .ok (.iconst 0, 1) := by decide +kernel
theorem dX7_askedOf_39 : decode cX7_askedOf 39 = .ok (.invokestatic 136, 3) := by decide +kernel
theorem dX7_askedOf_42 : decode cX7_askedOf 42 = .ok (.iadd, 1) := by decide +kernel
theorem dX7_askedOf_43 : decode cX7_askedOf 43 = .ok (.istore_n 2, 1) := by decide +kernel
theorem dX7_askedOf_44 : decode cX7_askedOf 44 = .ok (.iinc 3 1, 3) := by decide +kernel
theorem dX7_askedOf_47 : decode cX7_askedOf 47 = .ok (.goto (-43), 3) := by decide +kernel
theorem dX7_askedOf_50 : decode cX7_askedOf 50 = .ok (.iload_n 2, 1) := by decide +kernel
theorem dX7_askedOf_51 : decode cX7_askedOf 51 = .ok (.ireturn, 1) := by decide +kernel
theorem dX7_stoodAlone_0 : decode cX7_stoodAlone 0 = .ok (.iconst 0, 1) := by decide +kernel
theorem dX7_stoodAlone_1 : decode cX7_stoodAlone 1 = .ok (.istore_n 2, 1) := by decide +kernel
theorem dX7_stoodAlone_2 : decode cX7_stoodAlone 2 = .ok (.iconst 0, 1) := by decide +kernel
theorem dX7_stoodAlone_3 : decode cX7_stoodAlone 3 = .ok (.istore_n 3, 1) := by decide +kernel
theorem dX7_stoodAlone_4 : decode cX7_stoodAlone 4 = .ok (.iload_n 3, 1) := by decide +kernel
theorem dX7_stoodAlone_5 : decode cX7_stoodAlone 5 = .ok (.aload_n 0, 1) := by decide +kernel
theorem dX7_stoodAlone_6 : decode cX7_stoodAlone 6 = .ok (.getfield 28, 3) := by decide +kernel
theorem dX7_stoodAlone_9 : decode cX7_stoodAlone 9 = .ok (.invokevirtual 83, 3) := by decide +kernel
theorem dX7_stoodAlone_12 : decode cX7_stoodAlone 12 = .ok (.if_icmp .ge 39, 3) := by decide +kernel
theorem dX7_stoodAlone_15 : decode cX7_stoodAlone 15 = .ok (.iload_n 2, 1) := by decide +kernel
theorem dX7_stoodAlone_16 : decode cX7_stoodAlone 16 = .ok (.aload_n 0, 1) := by decide +kernel
theorem dX7_stoodAlone_17 : decode cX7_stoodAlone 17 = .ok (.getfield 28, 3) := by decide +kernel
theorem dX7_stoodAlone_20 : decode cX7_stoodAlone 20 = .ok (.iload_n 3, 1) := by decide +kernel
theorem dX7_stoodAlone_21 : decode cX7_stoodAlone 21 = .ok (.invokevirtual 169, 3) := by decide +kernel
theorem dX7_stoodAlone_24 : decode cX7_stoodAlone 24 = .ok (.checkcast 105, 3) := by decide +kernel
theorem dX7_stoodAlone_27 : decode cX7_stoodAlone 27 = .ok (.aload_n 1, 1) := by decide +kernel
theorem dX7_stoodAlone_28 : decode cX7_stoodAlone 28 = .ok (.invokevirtual 354, 3) := by decide +kernel
theorem dX7_stoodAlone_31 : decode cX7_stoodAlone 31 = .ok (.iconst 2, 1) := by decide +kernel
theorem dX7_stoodAlone_32 : decode cX7_stoodAlone 32 = .ok (.if_icmp .ne 7, 3) := by decide +kernel
theorem dX7_stoodAlone_35 : decode cX7_stoodAlone 35 = .ok (.iconst 1, 1) := by decide +kernel
theorem dX7_stoodAlone_36 : decode cX7_stoodAlone 36 = .ok (.goto 4, 3) := by decide +kernel
theorem dX7_stoodAlone_39 : decode cX7_stoodAlone 39 = .ok (.iconst 0, 1) := by decide +kernel
theorem dX7_stoodAlone_40 : decode cX7_stoodAlone 40 = .ok (.invokestatic 136, 3) := by decide +kernel
theorem dX7_stoodAlone_43 : decode cX7_stoodAlone 43 = .ok (.iadd, 1) := by decide +kernel
theorem dX7_stoodAlone_44 : decode cX7_stoodAlone 44 = .ok (.istore_n 2, 1) := by decide +kernel
theorem dX7_stoodAlone_45 : decode cX7_stoodAlone 45 = .ok (.iinc 3 1, 3) := by decide +kernel
theorem dX7_stoodAlone_48 : decode cX7_stoodAlone 48 = .ok (.goto (-44), 3) := by decide +kernel
theorem dX7_stoodAlone_51 : decode cX7_stoodAlone 51 = .ok (.iload_n 2, 1) := by decide +kernel
theorem dX7_stoodAlone_52 : decode cX7_stoodAlone 52 = .ok (.ireturn, 1) := by decide +kernel
theorem dX7_lateBy_0 : decode cX7_lateBy 0 = .ok (.aload_n 1, 1) := by decide +kernel
theorem dX7_lateBy_1 : decode cX7_lateBy 1 = .ok (.invokevirtual 227, 3) := by decide +kernel
theorem dX7_lateBy_4 : decode cX7_lateBy 4 = .ok (.ifCond .eq 21, 3) := by decide +kernel
theorem dX7_lateBy_7 : decode cX7_lateBy 7 = .ok (.aload_n 1, 1) := by decide +kernel
theorem dX7_lateBy_8 : decode cX7_lateBy 8 = .ok (.getfield 357, 3) := by decide +kernel
theorem dX7_lateBy_11 : decode cX7_lateBy 11 = .ok (.iconst 0, 1) := by decide +kernel
theorem dX7_lateBy_12 : decode cX7_lateBy 12 = .ok (.aload_n 0, 1) := by decide +kernel
theorem dX7_lateBy_13 : decode cX7_lateBy 13 = .ok (.getfield 34, 3) := by decide +kernel
theorem dX7_lateBy_16 : decode cX7_lateBy 16 = .ok (.arraylength, 1) := by decide +kernel
theorem dX7_lateBy_17 : decode cX7_lateBy 17 = .ok (.iconst 1, 1) := by decide +kernel
theorem dX7_lateBy_18 : decode cX7_lateBy 18 = .ok (.isub, 1) := by decide +kernel
theorem dX7_lateBy_19 : decode cX7_lateBy 19 = .ok (.invokestatic 59, 3) := by decide +kernel
theorem dX7_lateBy_22 : decode cX7_lateBy 22 = .ok (.ifCond .ne 5, 3) := by decide +kernel
theorem dX7_lateBy_25 : decode cX7_lateBy 25 = .ok (.iconst 0, 1) := by decide +kernel
theorem dX7_lateBy_26 : decode cX7_lateBy 26 = .ok (.ireturn, 1) := by decide +kernel
theorem dX7_lateBy_27 : decode cX7_lateBy 27 = .ok (.iconst 0, 1) := by decide +kernel
theorem dX7_lateBy_28 : decode cX7_lateBy 28 = .ok (.aload_n 0, 1) := by decide +kernel
theorem dX7_lateBy_29 : decode cX7_lateBy 29 = .ok (.getfield 45, 3) := by decide +kernel
theorem dX7_lateBy_32 : decode cX7_lateBy 32 = .ok (.aload_n 1, 1) := by decide +kernel
theorem dX7_lateBy_33 : decode cX7_lateBy 33 = .ok (.getfield 358, 3) := by decide +kernel
theorem dX7_lateBy_36 : decode cX7_lateBy 36 = .ok (.isub, 1) := by decide +kernel
theorem dX7_lateBy_37 : decode cX7_lateBy 37 = .ok (.aload_n 0, 1) := by decide +kernel
theorem dX7_lateBy_38 : decode cX7_lateBy 38 = .ok (.getfield 34, 3) := by decide +kernel
theorem dX7_lateBy_41 : decode cX7_lateBy 41 = .ok (.aload_n 1, 1) := by decide +kernel
theorem dX7_lateBy_42 : decode cX7_lateBy 42 = .ok (.getfield 357, 3) := by decide +kernel
theorem dX7_lateBy_45 : decode cX7_lateBy 45 = .ok (.iaload, 1) := by decide +kernel
theorem dX7_lateBy_46 : decode cX7_lateBy 46 = .ok (.isub, 1) := by decide +kernel
theorem dX7_lateBy_47 : decode cX7_lateBy 47 = .ok (.invokestatic 361, 3) := by decide +kernel
theorem dX7_lateBy_50 : decode cX7_lateBy 50 = .ok (.ireturn, 1) := by decide +kernel
theorem dX7_alike_0 : decode cX7_alike 0 = .ok (.iconst 0, 1) := by decide +kernel
theorem dX7_alike_1 : decode cX7_alike 1 = .ok (.istore 4, 2) := by decide +kernel
theorem dX7_alike_3 : decode cX7_alike 3 = .ok (.iconst 0, 1) := by decide +kernel
theorem dX7_alike_4 : decode cX7_alike 4 = .ok (.istore 5, 2) := by decide +kernel
theorem dX7_alike_6 : decode cX7_alike 6 = .ok (.iload 5, 2) := by decide +kernel
theorem dX7_alike_8 : decode cX7_alike 8 = .ok (.aload_n 0, 1) := by decide +kernel
theorem dX7_alike_9 : decode cX7_alike 9 = .ok (.getfield 28, 3) := by decide +kernel
theorem dX7_alike_12 : decode cX7_alike 12 = .ok (.invokevirtual 83, 3) := by decide +kernel
theorem dX7_alike_15 : decode cX7_alike 15 = .ok (.if_icmp .ge 51, 3) := by decide +kernel
theorem dX7_alike_18 : decode cX7_alike 18 = .ok (.aload_n 0, 1) := by decide +kernel
theorem dX7_alike_19 : decode cX7_alike 19 = .ok (.getfield 28, 3) := by decide +kernel
theorem dX7_alike_22 : decode cX7_alike 22 = .ok (.iload 5, 2) := by decide +kernel
theorem dX7_alike_24 : decode cX7_alike 24 = .ok (.invokevirtual 169, 3) := by decide +kernel
theorem dX7_alike_27 : decode cX7_alike 27 = .ok (.checkcast 105, 3) := by decide +kernel
theorem dX7_alike_30 : decode cX7_alike 30 = .ok (.astore 6, 2) := by decide +kernel
theorem dX7_alike_32 : decode cX7_alike 32 = .ok (.aload 6, 2) := by decide +kernel
theorem dX7_alike_34 : decode cX7_alike 34 = .ok (.aload_n 1, 1) := by decide +kernel
theorem dX7_alike_35 : decode cX7_alike 35 = .ok (.if_acmp .eq 25, 3) := by decide +kernel
theorem dX7_alike_38 : decode cX7_alike 38 = .ok (.aload 6, 2) := by decide +kernel
theorem dX7_alike_40 : decode cX7_alike 40 = .ok (.aload_n 1, 1) := by decide +kernel
theorem dX7_alike_41 : decode cX7_alike 41 = .ok (.iload_n 2, 1) := by decide +kernel
theorem dX7_alike_42 : decode cX7_alike 42 = .ok (.invokevirtual 364, 3) := by decide +kernel
theorem dX7_alike_45 : decode cX7_alike 45 = .ok (.ifCond .eq 15, 3) := by decide +kernel
theorem dX7_alike_48 : decode cX7_alike 48 = .ok (.aload 6, 2) := by decide +kernel
theorem dX7_alike_50 : decode cX7_alike 50 = .ok (.invokevirtual 368, 3) := by decide +kernel
theorem dX7_alike_53 : decode cX7_alike 53 = .ok (.iload_n 3, 1) := by decide +kernel
theorem dX7_alike_54 : decode cX7_alike 54 = .ok (.if_icmp .ne 6, 3) := by decide +kernel
theorem dX7_alike_57 : decode cX7_alike 57 = .ok (.iinc 4 1, 3) := by decide +kernel
theorem dX7_alike_60 : decode cX7_alike 60 = .ok (.iinc 5 1, 3) := by decide +kernel
theorem dX7_alike_63 : decode cX7_alike 63 = .ok (.goto (-57), 3) := by decide +kernel
theorem dX7_alike_66 : decode cX7_alike 66 = .ok (.iload 4, 2) := by decide +kernel
theorem dX7_alike_68 : decode cX7_alike 68 = .ok (.ireturn, 1) := by decide +kernel
theorem dX7_undecidedCases_0 : decode cX7_undecidedCases 0 = .ok (.iconst 0, 1) := by decide +kernel
theorem dX7_undecidedCases_1 : decode cX7_undecidedCases 1 = .ok (.istore_n 1, 1) := by decide +kernel
theorem dX7_undecidedCases_2 : decode cX7_undecidedCases 2 = .ok (.iconst 0, 1) := by decide +kernel
theorem dX7_undecidedCases_3 : decode cX7_undecidedCases 3 = .ok (.istore_n 2, 1) := by decide +kernel
theorem dX7_undecidedCases_4 : decode cX7_undecidedCases 4 = .ok (.iload_n 2, 1) := by decide +kernel
theorem dX7_undecidedCases_5 : decode cX7_undecidedCases 5 = .ok (.aload_n 0, 1) := by decide +kernel
theorem dX7_undecidedCases_6 : decode cX7_undecidedCases 6 = .ok (.getfield 28, 3) := by decide +kernel
theorem dX7_undecidedCases_9 : decode cX7_undecidedCases 9 = .ok (.invokevirtual 83, 3) := by decide +kernel
theorem dX7_undecidedCases_12 : decode cX7_undecidedCases 12 = .ok (.if_icmp .ge 29, 3) := by decide +kernel
theorem dX7_undecidedCases_15 : decode cX7_undecidedCases 15 = .ok (.iload_n 1, 1) := by decide +kernel
theorem dX7_undecidedCases_16 : decode cX7_undecidedCases 16 = .ok (.aload_n 0, 1) := by decide +kernel
theorem dX7_undecidedCases_17 : decode cX7_undecidedCases 17 = .ok (.getfield 28, 3) := by decide +kernel
theorem dX7_undecidedCases_20 : decode cX7_undecidedCases 20 = .ok (.iload_n 2, 1) := by decide +kernel
theorem dX7_undecidedCases_21 : decode cX7_undecidedCases 21 = .ok (.invokevirtual 169, 3) := by decide +kernel
theorem dX7_undecidedCases_24 : decode cX7_undecidedCases 24 = .ok (.checkcast 105, 3) := by decide +kernel
theorem dX7_undecidedCases_27 : decode cX7_undecidedCases 27 = .ok (.invokevirtual 227, 3) := by decide +kernel
theorem dX7_undecidedCases_30 : decode cX7_undecidedCases 30 = .ok (.invokestatic 136, 3) := by decide +kernel
theorem dX7_undecidedCases_33 : decode cX7_undecidedCases 33 = .ok (.iadd, 1) := by decide +kernel
theorem dX7_undecidedCases_34 : decode cX7_undecidedCases 34 = .ok (.istore_n 1, 1) := by decide +kernel
theorem dX7_undecidedCases_35 : decode cX7_undecidedCases 35 = .ok (.iinc 2 1, 3) := by decide +kernel
theorem dX7_undecidedCases_38 : decode cX7_undecidedCases 38 = .ok (.goto (-34), 3) := by decide +kernel
theorem dX7_undecidedCases_41 : decode cX7_undecidedCases 41 = .ok (.iload_n 1, 1) := by decide +kernel
theorem dX7_undecidedCases_42 : decode cX7_undecidedCases 42 = .ok (.ireturn, 1) := by decide +kernel
theorem dX7_climbLadder_0 : decode cX7_climbLadder 0 = .ok (.aload_n 0, 1) := by decide +kernel
theorem dX7_climbLadder_1 : decode cX7_climbLadder 1 = .ok (.getfield 41, 3) := by decide +kernel
theorem dX7_climbLadder_4 : decode cX7_climbLadder 4 = .ok (.invokevirtual 371, 3) := by decide +kernel
theorem dX7_climbLadder_7 : decode cX7_climbLadder 7 = .ok (.iconst 0, 1) := by decide +kernel
theorem dX7_climbLadder_8 : decode cX7_climbLadder 8 = .ok (.istore_n 3, 1) := by decide +kernel
theorem dX7_climbLadder_9 : decode cX7_climbLadder 9 = .ok (.iload_n 3, 1) := by decide +kernel
theorem dX7_climbLadder_10 : decode cX7_climbLadder 10 = .ok (.aload_n 0, 1) := by decide +kernel
theorem dX7_climbLadder_11 : decode cX7_climbLadder 11 = .ok (.getfield 24, 3) := by decide +kernel
theorem dX7_climbLadder_14 : decode cX7_climbLadder 14 = .ok (.invokevirtual 83, 3) := by decide +kernel
theorem dX7_climbLadder_17 : decode cX7_climbLadder 17 = .ok (.if_icmp .ge 87, 3) := by decide +kernel
theorem dX7_climbLadder_20 : decode cX7_climbLadder 20 = .ok (.aload_n 0, 1) := by decide +kernel
theorem dX7_climbLadder_21 : decode cX7_climbLadder 21 = .ok (.getfield 24, 3) := by decide +kernel
theorem dX7_climbLadder_24 : decode cX7_climbLadder 24 = .ok (.iload_n 3, 1) := by decide +kernel
theorem dX7_climbLadder_25 : decode cX7_climbLadder 25 = .ok (.invokevirtual 169, 3) := by decide +kernel
theorem dX7_climbLadder_28 : decode cX7_climbLadder 28 = .ok (.checkcast 87, 3) := by decide +kernel
theorem dX7_climbLadder_31 : decode cX7_climbLadder 31 = .ok (.astore 4, 2) := by decide +kernel
theorem dX7_climbLadder_33 : decode cX7_climbLadder 33 = .ok (.aload 4, 2) := by decide +kernel
theorem dX7_climbLadder_35 : decode cX7_climbLadder 35 = .ok (.getfield 298, 3) := by decide +kernel
theorem dX7_climbLadder_38 : decode cX7_climbLadder 38 = .ok (.iload_n 1, 1) := by decide +kernel
theorem dX7_climbLadder_39 : decode cX7_climbLadder 39 = .ok (.if_icmp .eq 6, 3) := by decide +kernel
theorem dX7_climbLadder_42 : decode cX7_climbLadder 42 = .ok (.goto 56, 3) := by decide +kernel
theorem dX7_climbLadder_45 : decode cX7_climbLadder 45 = .ok (.aload 4, 2) := by decide +kernel
theorem dX7_climbLadder_47 : decode cX7_climbLadder 47 = .ok (.getfield 374, 3) := by decide +kernel
theorem dX7_climbLadder_50 : decode cX7_climbLadder 50 = .ok (.astore 5, 2) := by decide +kernel
theorem dX7_climbLadder_52 : decode cX7_climbLadder 52 = .ok (.aload 5, 2) := by decide +kernel
theorem dX7_climbLadder_54 : decode cX7_climbLadder 54 = .ok (.ifnull 44, 3) := by decide +kernel
theorem dX7_climbLadder_57 : decode cX7_climbLadder 57 = .ok (.aload 5, 2) := by decide +kernel
theorem dX7_climbLadder_59 : decode cX7_climbLadder 59 = .ok (.invokevirtual 295, 3) := by decide +kernel
theorem dX7_climbLadder_62 : decode cX7_climbLadder 62 = .ok (.ifCond .eq 19, 3) := by decide +kernel
theorem dX7_climbLadder_65 : decode cX7_climbLadder 65 = .ok (.aload_n 0, 1) := by decide +kernel
theorem dX7_climbLadder_66 : decode cX7_climbLadder 66 = .ok (.getfield 41, 3) := by decide +kernel
theorem dX7_climbLadder_69 : decode cX7_climbLadder 69 = .ok (.aload 4, 2) := by decide +kernel
theorem dX7_climbLadder_71 : decode cX7_climbLadder 71 = .ok (.getfield 377, 3) := by decide +kernel
theorem dX7_climbLadder_74 : decode cX7_climbLadder 74 = .ok (.aload_n 0, 1) := by decide +kernel
theorem dX7_climbLadder_75 : decode cX7_climbLadder 75 = .ok (.getfield 45, 3) := by decide +kernel
theorem dX7_climbLadder_78 : decode cX7_climbLadder 78 = .ok (.invokevirtual 380, 3) := by decide +kernel
theorem dX7_climbLadder_81 : decode cX7_climbLadder 81 = .ok (.aload 5, 2) := by decide +kernel
theorem dX7_climbLadder_83 : decode cX7_climbLadder 83 = .ok (.aload_n 2, 1) := by decide +kernel
theorem dX7_climbLadder_84 : decode cX7_climbLadder 84 = .ok (.if_acmp .ne 4, 3) := by decide +kernel
theorem dX7_climbLadder_87 : decode cX7_climbLadder 87 = .ok (.return_, 1) := by decide +kernel
theorem dX7_climbLadder_88 : decode cX7_climbLadder 88 = .ok (.aload 5, 2) := by decide +kernel
theorem dX7_climbLadder_90 : decode cX7_climbLadder 90 = .ok (.getfield 384, 3) := by decide +kernel
theorem dX7_climbLadder_93 : decode cX7_climbLadder 93 = .ok (.astore 5, 2) := by decide +kernel
theorem dX7_climbLadder_95 : decode cX7_climbLadder 95 = .ok (.goto (-43), 3) := by decide +kernel
theorem dX7_climbLadder_98 : decode cX7_climbLadder 98 = .ok (.iinc 3 1, 3) := by decide +kernel
theorem dX7_climbLadder_101 : decode cX7_climbLadder 101 = .ok (.goto (-92), 3) := by decide +kernel
theorem dX7_climbLadder_104 : decode cX7_climbLadder 104 = .ok (.return_, 1) := by decide +kernel
theorem dX7_timesWarned_0 : decode cX7_timesWarned 0 = .ok (.iconst 0, 1) := by decide +kernel
theorem dX7_timesWarned_1 : decode cX7_timesWarned 1 = .ok (.istore_n 2, 1) := by decide +kernel
theorem dX7_timesWarned_2 : decode cX7_timesWarned 2 = .ok (.iconst 0, 1) := by decide +kernel
theorem dX7_timesWarned_3 : decode cX7_timesWarned 3 = .ok (.istore_n 3, 1) := by decide +kernel
theorem dX7_timesWarned_4 : decode cX7_timesWarned 4 = .ok (.iload_n 3, 1) := by decide +kernel
theorem dX7_timesWarned_5 : decode cX7_timesWarned 5 = .ok (.aload_n 0, 1) := by decide +kernel
theorem dX7_timesWarned_6 : decode cX7_timesWarned 6 = .ok (.getfield 28, 3) := by decide +kernel
theorem dX7_timesWarned_9 : decode cX7_timesWarned 9 = .ok (.invokevirtual 83, 3) := by decide +kernel
theorem dX7_timesWarned_12 : decode cX7_timesWarned 12 = .ok (.if_icmp .ge 65, 3) := by decide +kernel
theorem dX7_timesWarned_15 : decode cX7_timesWarned 15 = .ok (.aload_n 0, 1) := by decide +kernel
theorem dX7_timesWarned_16 : decode cX7_timesWarned 16 = .ok (.getfield 28, 3) := by decide +kernel
theorem dX7_timesWarned_19 : decode cX7_timesWarned 19 = .ok (.iload_n 3, 1) := by decide +kernel
theorem dX7_timesWarned_20 : decode cX7_timesWarned 20 = .ok (.invokevirtual 169, 3) := by decide +kernel
theorem dX7_timesWarned_23 : decode cX7_timesWarned 23 = .ok (.checkcast 105, 3) := by decide +kernel
theorem dX7_timesWarned_26 : decode cX7_timesWarned 26 = .ok (.astore 4, 2) := by decide +kernel
theorem dX7_timesWarned_28 : decode cX7_timesWarned 28 = .ok (.iload_n 2, 1) := by decide +kernel
theorem dX7_timesWarned_29 : decode cX7_timesWarned 29 = .ok (.aload 4, 2) := by decide +kernel
theorem dX7_timesWarned_31 : decode cX7_timesWarned 31 = .ok (.getfield 217, 3) := by decide +kernel
theorem dX7_timesWarned_34 : decode cX7_timesWarned 34 = .ok (.getfield 298, 3) := by decide +kernel
theorem dX7_timesWarned_37 : decode cX7_timesWarned 37 = .ok (.iload_n 1, 1) := by decide +kernel
theorem dX7_timesWarned_38 : decode cX7_timesWarned 38 = .ok (.if_icmp .ne 27, 3) := by decide +kernel
theorem dX7_timesWarned_41 : decode cX7_timesWarned 41 = .ok (.aload 4, 2) := by decide +kernel
theorem dX7_timesWarned_43 : decode cX7_timesWarned 43 = .ok (.invokevirtual 368, 3) := by decide +kernel
theorem dX7_timesWarned_46 : decode cX7_timesWarned 46 = .ok (.ifCond .eq 19, 3) := by decide +kernel
theorem dX7_timesWarned_49 : decode cX7_timesWarned 49 = .ok (.aload 4, 2) := by decide +kernel
theorem dX7_timesWarned_51 : decode cX7_timesWarned 51 = .ok (.getfield 222, 3) := by decide +kernel
theorem dX7_timesWarned_54 : decode cX7_timesWarned 54 = .ok (.getfield 74, 3) := by decide +kernel
theorem dX7_timesWarned_57 : decode cX7_timesWarned 57 = .ok (.iconst 1, 1) := by decide +kernel
theorem dX7_timesWarned_58 : decode cX7_timesWarned 58 = .ok (.if_icmp .lt 7, 3) := by decide +kernel
theorem dX7_timesWarned_61 : decode cX7_timesWarned 61 = .ok (.iconst 1, 1) := by decide +kernel
theorem dX7_timesWarned_62 : decode cX7_timesWarned 62 = .ok (.goto 4, 3) := by decide +kernel
theorem dX7_timesWarned_65 : decode cX7_timesWarned 65 = .ok (.iconst 0, 1) := by decide +kernel
theorem dX7_timesWarned_66 : decode cX7_timesWarned 66 = .ok (.invokestatic 136, 3) := by decide +kernel
theorem dX7_timesWarned_69 : decode cX7_timesWarned 69 = .ok (.iadd, 1) := by decide +kernel
theorem dX7_timesWarned_70 : decode cX7_timesWarned 70 = .ok (.istore_n 2, 1) := by decide +kernel
theorem dX7_timesWarned_71 : decode cX7_timesWarned 71 = .ok (.iinc 3 1, 3) := by decide +kernel
theorem dX7_timesWarned_74 : decode cX7_timesWarned 74 = .ok (.goto (-70), 3) := by decide +kernel
theorem dX7_timesWarned_77 : decode cX7_timesWarned 77 = .ok (.iload_n 2, 1) := by decide +kernel
theorem dX7_timesWarned_78 : decode cX7_timesWarned 78 = .ok (.ireturn, 1) := by decide +kernel
theorem dX7_postsOf_0 : decode cX7_postsOf 0 = .ok (.iconst 0, 1) := by decide +kernel
theorem dX7_postsOf_1 : decode cX7_postsOf 1 = .ok (.istore_n 3, 1) := by decide +kernel
theorem dX7_postsOf_2 : decode cX7_postsOf 2 = .ok (.iconst 0, 1) := by decide +kernel
theorem dX7_postsOf_3 : decode cX7_postsOf 3 = .ok (.istore 4, 2) := by decide +kernel
theorem dX7_postsOf_5 : decode cX7_postsOf 5 = .ok (.iload 4, 2) := by decide +kernel
theorem dX7_postsOf_7 : decode cX7_postsOf 7 = .ok (.aload_n 0, 1) := by decide +kernel
theorem dX7_postsOf_8 : decode cX7_postsOf 8 = .ok (.getfield 24, 3) := by decide +kernel
theorem dX7_postsOf_11 : decode cX7_postsOf 11 = .ok (.invokevirtual 83, 3) := by decide +kernel
theorem dX7_postsOf_14 : decode cX7_postsOf 14 = .ok (.if_icmp .ge 55, 3) := by decide +kernel
theorem dX7_postsOf_17 : decode cX7_postsOf 17 = .ok (.aload_n 0, 1) := by decide +kernel
theorem dX7_postsOf_18 : decode cX7_postsOf 18 = .ok (.getfield 24, 3) := by decide +kernel
theorem dX7_postsOf_21 : decode cX7_postsOf 21 = .ok (.iload 4, 2) := by decide +kernel
theorem dX7_postsOf_23 : decode cX7_postsOf 23 = .ok (.invokevirtual 169, 3) := by decide +kernel
theorem dX7_postsOf_26 : decode cX7_postsOf 26 = .ok (.checkcast 87, 3) := by decide +kernel
theorem dX7_postsOf_29 : decode cX7_postsOf 29 = .ok (.astore 5, 2) := by decide +kernel
theorem dX7_postsOf_31 : decode cX7_postsOf 31 = .ok (.iload_n 3, 1) := by decide +kernel
theorem dX7_postsOf_32 : decode cX7_postsOf 32 = .ok (.aload 5, 2) := by decide +kernel
theorem dX7_postsOf_34 : decode cX7_postsOf 34 = .ok (.getfield 298, 3) := by decide +kernel
theorem dX7_postsOf_37 : decode cX7_postsOf 37 = .ok (.iload_n 1, 1) := by decide +kernel
theorem dX7_postsOf_38 : decode cX7_postsOf 38 = .ok (.if_icmp .ne 19, 3) := by decide +kernel
theorem dX7_postsOf_41 : decode cX7_postsOf 41 = .ok (.iload_n 2, 1) := by decide +kernel
theorem dX7_postsOf_42 : decode cX7_postsOf 42 = .ok (.ifCond .eq 11, 3) := by decide +kernel
theorem dX7_postsOf_45 : decode cX7_postsOf 45 = .ok (.aload 5, 2) := by decide +kernel
theorem dX7_postsOf_47 : decode cX7_postsOf 47 = .ok (.invokevirtual 304, 3) := by decide +kernel
theorem dX7_postsOf_50 : decode cX7_postsOf 50 = .ok (.ifCond .eq 7, 3) := by decide +kernel
theorem dX7_postsOf_53 : decode cX7_postsOf 53 = .ok (.iconst 1, 1) := by decide +kernel
theorem dX7_postsOf_54 : decode cX7_postsOf 54 = .ok (.goto 4, 3) := by decide +kernel
theorem dX7_postsOf_57 : decode cX7_postsOf 57 = .ok (.iconst 0, 1) := by decide +kernel
theorem dX7_postsOf_58 : decode cX7_postsOf 58 = .ok (.invokestatic 136, 3) := by decide +kernel
theorem dX7_postsOf_61 : decode cX7_postsOf 61 = .ok (.iadd, 1) := by decide +kernel
theorem dX7_postsOf_62 : decode cX7_postsOf 62 = .ok (.istore_n 3, 1) := by decide +kernel
theorem dX7_postsOf_63 : decode cX7_postsOf 63 = .ok (.iinc 4 1, 3) := by decide +kernel
theorem dX7_postsOf_66 : decode cX7_postsOf 66 = .ok (.goto (-61), 3) := by decide +kernel
theorem dX7_postsOf_69 : decode cX7_postsOf 69 = .ok (.iload_n 3, 1) := by decide +kernel
theorem dX7_postsOf_70 : decode cX7_postsOf 70 = .ok (.ireturn, 1) := by decide +kernel
theorem dX8_init_0 : decode cX8_init 0 = .ok (.aload_n 0, 1) := by decide +kernel
theorem dX8_init_1 : decode cX8_init 1 = .ok (.invokespecial 1, 3) := by decide +kernel
theorem dX8_init_4 : decode cX8_init 4 = .ok (.aload_n 0, 1) := by decide +kernel
theorem dX8_init_5 : decode cX8_init 5 = .ok (.bipush 8, 2) := by decide +kernel
theorem dX8_init_7 : decode cX8_init 7 = .ok (.newarray .int, 2) := by decide +kernel
theorem dX8_init_9 : decode cX8_init 9 = .ok (.putfield 9, 3) := by decide +kernel
theorem dX8_init_12 : decode cX8_init 12 = .ok (.aload_n 0, 1) := by decide +kernel
theorem dX8_init_13 : decode cX8_init 13 = .ok (.bipush 8, 2) := by decide +kernel
theorem dX8_init_15 : decode cX8_init 15 = .ok (.newarray .int, 2) := by decide +kernel
theorem dX8_init_17 : decode cX8_init 17 = .ok (.putfield 13, 3) := by decide +kernel
theorem dX8_init_20 : decode cX8_init 20 = .ok (.aload_n 0, 1) := by decide +kernel
theorem dX8_init_21 : decode cX8_init 21 = .ok (.bipush 8, 2) := by decide +kernel
theorem dX8_init_23 : decode cX8_init 23 = .ok (.newarray .int, 2) := by decide +kernel
theorem dX8_init_25 : decode cX8_init 25 = .ok (.putfield 16, 3) := by decide +kernel
theorem dX8_init_28 : decode cX8_init 28 = .ok (.aload_n 0, 1) := by decide +kernel
theorem dX8_init_29 : decode cX8_init 29 = .ok (.iconst 3, 1) := by decide +kernel
theorem dX8_init_30 : decode cX8_init 30 = .ok (.newarray .int, 2) := by decide +kernel
theorem dX8_init_32 : decode cX8_init 32 = .ok (.putfield 19, 3) := by decide +kernel
theorem dX8_init_35 : decode cX8_init 35 = .ok (.aload_n 0, 1) := by decide +kernel
theorem dX8_init_36 : decode cX8_init 36 = .ok (.bipush 100, 2) := by decide +kernel
theorem dX8_init_38 : decode cX8_init 38 = .ok (.putfield 22, 3) := by decide +kernel
theorem dX8_init_41 : decode cX8_init 41 = .ok (.aload_n 0, 1) := by decide +kernel
theorem dX8_init_42 : decode cX8_init 42 = .ok (.bipush 10, 2) := by decide +kernel
theorem dX8_init_44 : decode cX8_init 44 = .ok (.putfield 26, 3) := by decide +kernel
theorem dX8_init_47 : decode cX8_init 47 = .ok (.aload_n 0, 1) := by decide +kernel
theorem dX8_init_48 : decode cX8_init 48 = .ok (.bipush 100, 2) := by decide +kernel
theorem dX8_init_50 : decode cX8_init 50 = .ok (.putfield 29, 3) := by decide +kernel
theorem dX8_init_53 : decode cX8_init 53 = .ok (.aload_n 0, 1) := by decide +kernel
theorem dX8_init_54 : decode cX8_init 54 = .ok (.sipush 300, 3) := by decide +kernel
theorem dX8_init_57 : decode cX8_init 57 = .ok (.newarray .int, 2) := by decide +kernel
theorem dX8_init_59 : decode cX8_init 59 = .ok (.putfield 32, 3) := by decide +kernel
theorem dX8_init_62 : decode cX8_init 62 = .ok (.aload_n 0, 1) := by decide +kernel
theorem dX8_init_63 : decode cX8_init 63 = .ok (.sipush 300, 3) := by decide +kernel
theorem dX8_init_66 : decode cX8_init 66 = .ok (.newarray .int, 2) := by decide +kernel
theorem dX8_init_68 : decode cX8_init 68 = .ok (.putfield 35, 3) := by decide +kernel
theorem dX8_init_71 : decode cX8_init 71 = .ok (.aload_n 0, 1) := by decide +kernel
theorem dX8_init_72 : decode cX8_init 72 = .ok (.sipush 300, 3) := by decide +kernel
theorem dX8_init_75 : decode cX8_init 75 = .ok (.newarray .int, 2) := by decide +kernel
theorem dX8_init_77 : decode cX8_init 77 = .ok (.putfield 38, 3) := by decide +kernel
theorem dX8_init_80 : decode cX8_init 80 = .ok (.aload_n 0, 1) := by decide +kernel
theorem dX8_init_81 : decode cX8_init 81 = .ok (.sipush 300, 3) := by decide +kernel
theorem dX8_init_84 : decode cX8_init 84 = .ok (.newarray .int, 2) := by decide +kernel
theorem dX8_init_86 : decode cX8_init 86 = .ok (.putfield 41, 3) := by decide +kernel
theorem dX8_init_89 : decode cX8_init 89 = .ok (.aload_n 0, 1) := by decide +kernel
theorem dX8_init_90 : decode cX8_init 90 = .ok (.sipush 400, 3) := by decide +kernel
theorem dX8_init_93 : decode cX8_init 93 = .ok (.newarray .int, 2) := by decide +kernel
theorem dX8_init_95 : decode cX8_init 95 = .ok (.putfield 44, 3) := by decide +kernel
theorem dX8_init_98 : decode cX8_init 98 = .ok (.aload_n 0, 1) := by decide +kernel
theorem dX8_init_99 : decode cX8_init 99 = .ok (.sipush 400, 3) := by decide +kernel
theorem dX8_init_102 : decode cX8_init 102 = .ok (.newarray .int, 2) := by decide +kernel
theorem dX8_init_104 : decode cX8_init 104 = .ok (.putfield 47, 3) := by decide +kernel
theorem dX8_init_107 : decode cX8_init 107 = .ok (.aload_n 0, 1) := by decide +kernel
theorem dX8_init_108 : decode cX8_init 108 = .ok (.sipush 400, 3) := by decide +kernel
theorem dX8_init_111 : decode cX8_init 111 = .ok (.newarray .int, 2) := by decide +kernel
theorem dX8_init_113 : decode cX8_init 113 = .ok (.putfield 50, 3) := by decide +kernel
theorem dX8_init_116 : decode cX8_init 116 = .ok (.aload_n 0, 1) := by decide +kernel
theorem dX8_init_117 : decode cX8_init 117 = .ok (.sipush 400, 3) := by decide +kernel
theorem dX8_init_120 : decode cX8_init 120 = .ok (.newarray .int, 2) := by decide +kernel
theorem dX8_init_122 : decode cX8_init 122 = .ok (.putfield 53, 3) := by decide +kernel
theorem dX8_init_125 : decode cX8_init 125 = .ok (.aload_n 0, 1) := by decide +kernel
theorem dX8_init_126 : decode cX8_init 126 = .ok (.sipush 400, 3) := by decide +kernel
theorem dX8_init_129 : decode cX8_init 129 = .ok (.newarray .int, 2) := by decide +kernel
theorem dX8_init_131 : decode cX8_init 131 = .ok (.putfield 56, 3) := by decide +kernel
theorem dX8_init_134 : decode cX8_init 134 = .ok (.aload_n 0, 1) := by decide +kernel
theorem dX8_init_135 : decode cX8_init 135 = .ok (.sipush 400, 3) := by decide +kernel
theorem dX8_init_138 : decode cX8_init 138 = .ok (.newarray .int, 2) := by decide +kernel
theorem dX8_init_140 : decode cX8_init 140 = .ok (.putfield 59, 3) := by decide +kernel
theorem dX8_init_143 : decode cX8_init 143 = .ok (.aload_n 0, 1) := by decide +kernel
theorem dX8_init_144 : decode cX8_init 144 = .ok (.sipush 400, 3) := by decide +kernel
theorem dX8_init_147 : decode cX8_init 147 = .ok (.newarray .int, 2) := by decide +kernel
theorem dX8_init_149 : decode cX8_init 149 = .ok (.putfield 62, 3) := by decide +kernel
theorem dX8_init_152 : decode cX8_init 152 = .ok (.aload_n 0, 1) := by decide +kernel
theorem dX8_init_153 : decode cX8_init 153 = .ok (.sipush 400, 3) := by decide +kernel
theorem dX8_init_156 : decode cX8_init 156 = .ok (.newarray .int, 2) := by decide +kernel
theorem dX8_init_158 : decode cX8_init 158 = .ok (.putfield 65, 3) := by decide +kernel
theorem dX8_init_161 : decode cX8_init 161 = .ok (.aload_n 0, 1) := by decide +kernel
theorem dX8_init_162 : decode cX8_init 162 = .ok (.sipush 400, 3) := by decide +kernel
theorem dX8_init_165 : decode cX8_init 165 = .ok (.newarray .int, 2) := by decide +kernel
theorem dX8_init_167 : decode cX8_init 167 = .ok (.putfield 68, 3) := by decide +kernel
theorem dX8_init_170 : decode cX8_init 170 = .ok (.aload_n 0, 1) := by decide +kernel
theorem dX8_init_171 : decode cX8_init 171 = .ok (.sipush 400, 3) := by decide +kernel
theorem dX8_init_174 : decode cX8_init 174 = .ok (.newarray .int, 2) := by decide +kernel
theorem dX8_init_176 : decode cX8_init 176 = .ok (.putfield 71, 3) := by decide +kernel
theorem dX8_init_179 : decode cX8_init 179 = .ok (.aload_n 0, 1) := by decide +kernel
theorem dX8_init_180 : decode cX8_init 180 = .ok (.sipush 800, 3) := by decide +kernel
theorem dX8_init_183 : decode cX8_init 183 = .ok (.newarray .int, 2) := by decide +kernel
theorem dX8_init_185 : decode cX8_init 185 = .ok (.putfield 74, 3) := by decide +kernel
theorem dX8_init_188 : decode cX8_init 188 = .ok (.aload_n 0, 1) := by decide +kernel
theorem dX8_init_189 : decode cX8_init 189 = .ok (.sipush 400, 3) := by decide +kernel
theorem dX8_init_192 : decode cX8_init 192 = .ok (.newarray .int, 2) := by decide +kernel
theorem dX8_init_194 : decode cX8_init 194 = .ok (.putfield 77, 3) := by decide +kernel
theorem dX8_init_197 : decode cX8_init 197 = .ok (.aload_n 0, 1) := by decide +kernel
theorem dX8_init_198 : decode cX8_init 198 = .ok (.sipush 400, 3) := by decide +kernel
theorem dX8_init_201 : decode cX8_init 201 = .ok (.newarray .int, 2) := by decide +kernel
theorem dX8_init_203 : decode cX8_init 203 = .ok (.putfield 80, 3) := by decide +kernel
theorem dX8_init_206 : decode cX8_init 206 = .ok (.aload_n 0, 1) := by decide +kernel
theorem dX8_init_207 : decode cX8_init 207 = .ok (.sipush 400, 3) := by decide +kernel
theorem dX8_init_210 : decode cX8_init 210 = .ok (.newarray .int, 2) := by decide +kernel
theorem dX8_init_212 : decode cX8_init 212 = .ok (.putfield 83, 3) := by decide +kernel
theorem dX8_init_215 : decode cX8_init 215 = .ok (.aload_n 0, 1) := by decide +kernel
theorem dX8_init_216 : decode cX8_init 216 = .ok (.bipush 20, 2) := by decide +kernel
theorem dX8_init_218 : decode cX8_init 218 = .ok (.newarray .int, 2) := by decide +kernel
theorem dX8_init_220 : decode cX8_init 220 = .ok (.putfield 86, 3) := by decide +kernel
theorem dX8_init_223 : decode cX8_init 223 = .ok (.aload_n 0, 1) := by decide +kernel
theorem dX8_init_224 : decode cX8_init 224 = .ok (.bipush 20, 2) := by decide +kernel
theorem dX8_init_226 : decode cX8_init 226 = .ok (.newarray .long, 2) := by decide +kernel
theorem dX8_init_228 : decode cX8_init 228 = .ok (.putfield 89, 3) := by decide +kernel
theorem dX8_init_231 : decode cX8_init 231 = .ok (.aload_n 0, 1) := by decide +kernel
theorem dX8_init_232 : decode cX8_init 232 = .ok (.bipush 20, 2) := by decide +kernel
theorem dX8_init_234 : decode cX8_init 234 = .ok (.newarray .int, 2) := by decide +kernel
theorem dX8_init_236 : decode cX8_init 236 = .ok (.putfield 93, 3) := by decide +kernel
theorem dX8_init_239 : decode cX8_init 239 = .ok (.aload_n 0, 1) := by decide +kernel
theorem dX8_init_240 : decode cX8_init 240 = .ok (.bipush 20, 2) := by decide +kernel
theorem dX8_init_242 : decode cX8_init 242 = .ok (.newarray .int, 2) := by decide +kernel
theorem dX8_init_244 : decode cX8_init 244 = .ok (.putfield 96, 3) := by decide +kernel
theorem dX8_init_247 : decode cX8_init 247 = .ok (.aload_n 0, 1) := by decide +kernel
theorem dX8_init_248 : decode cX8_init 248 = .ok (.bipush 20, 2) := by decide +kernel
theorem dX8_init_250 : decode cX8_init 250 = .ok (.newarray .boolean, 2) := by decide +kernel
theorem dX8_init_252 : decode cX8_init 252 = .ok (.putfield 99, 3) := by decide +kernel
theorem dX8_init_255 : decode cX8_init 255 = .ok (.aload_n 0, 1) := by decide +kernel
theorem dX8_init_256 : decode cX8_init 256 = .ok (.sipush 400, 3) := by decide +kernel
theorem dX8_init_259 : decode cX8_init 259 = .ok (.newarray .int, 2) := by decide +kernel
theorem dX8_init_261 : decode cX8_init 261 = .ok (.putfield 103, 3) := by decide +kernel
theorem dX8_init_264 : decode cX8_init 264 = .ok (.aload_n 0, 1) := by decide +kernel
theorem dX8_init_265 : decode cX8_init 265 = .ok (.sipush 400, 3) := by decide +kernel
theorem dX8_init_268 : decode cX8_init 268 = .ok (.newarray .int, 2) := by decide +kernel
theorem dX8_init_270 : decode cX8_init 270 = .ok (.putfield 106, 3) := by decide +kernel
theorem dX8_init_273 : decode cX8_init 273 = .ok (.aload_n 0, 1) := by decide +kernel
theorem dX8_init_274 : decode cX8_init 274 = .ok (.sipush 8000, 3) := by decide +kernel
theorem dX8_init_277 : decode cX8_init 277 = .ok (.newarray .int, 2) := by decide +kernel
theorem dX8_init_279 : decode cX8_init 279 = .ok (.putfield 109, 3) := by decide +kernel
theorem dX8_init_282 : decode cX8_init 282 = .ok (.aload_n 0, 1) := by decide +kernel
theorem dX8_init_283 : decode cX8_init 283 = .ok (.sipush 8000, 3) := by decide +kernel
theorem dX8_init_286 : decode cX8_init 286 = .ok (.newarray .int, 2) := by decide +kernel
theorem dX8_init_288 : decode cX8_init 288 = .ok (.putfield 112, 3) := by decide +kernel
theorem dX8_init_291 : decode cX8_init 291 = .ok (.aload_n 0, 1) := by decide +kernel
theorem dX8_init_292 : decode cX8_init 292 = .ok (.sipush 8000, 3) := by decide +kernel
theorem dX8_init_295 : decode cX8_init 295 = .ok (.newarray .int, 2) := by decide +kernel
theorem dX8_init_297 : decode cX8_init 297 = .ok (.putfield 115, 3) := by decide +kernel
theorem dX8_init_300 : decode cX8_init 300 = .ok (.aload_n 0, 1) := by decide +kernel
theorem dX8_init_301 : decode cX8_init 301 = .ok (.sipush 8000, 3) := by decide +kernel
theorem dX8_init_304 : decode cX8_init 304 = .ok (.newarray .int, 2) := by decide +kernel
theorem dX8_init_306 : decode cX8_init 306 = .ok (.putfield 118, 3) := by decide +kernel
theorem dX8_init_309 : decode cX8_init 309 = .ok (.aload_n 0, 1) := by decide +kernel
theorem dX8_init_310 : decode cX8_init 310 = .ok (.sipush 8000, 3) := by decide +kernel
theorem dX8_init_313 : decode cX8_init 313 = .ok (.newarray .int, 2) := by decide +kernel
theorem dX8_init_315 : decode cX8_init 315 = .ok (.putfield 121, 3) := by decide +kernel
theorem dX8_init_318 : decode cX8_init 318 = .ok (.aload_n 0, 1) := by decide +kernel
theorem dX8_init_319 : decode cX8_init 319 = .ok (.sipush 400, 3) := by decide +kernel
theorem dX8_init_322 : decode cX8_init 322 = .ok (.newarray .int, 2) := by decide +kernel
theorem dX8_init_324 : decode cX8_init 324 = .ok (.putfield 124, 3) := by decide +kernel
theorem dX8_init_327 : decode cX8_init 327 = .ok (.aload_n 0, 1) := by decide +kernel
theorem dX8_init_328 : decode cX8_init 328 = .ok (.sipush 400, 3) := by decide +kernel
theorem dX8_init_331 : decode cX8_init 331 = .ok (.newarray .int, 2) := by decide +kernel
theorem dX8_init_333 : decode cX8_init 333 = .ok (.putfield 127, 3) := by decide +kernel
theorem dX8_init_336 : decode cX8_init 336 = .ok (.aload_n 0, 1) := by decide +kernel
theorem dX8_init_337 : decode cX8_init 337 = .ok (.sipush 400, 3) := by decide +kernel
theorem dX8_init_340 : decode cX8_init 340 = .ok (.newarray .int, 2) := by decide +kernel
theorem dX8_init_342 : decode cX8_init 342 = .ok (.putfield 130, 3) := by decide +kernel
theorem dX8_init_345 : decode cX8_init 345 = .ok (.iconst 0, 1) := by decide +kernel
theorem dX8_init_346 : decode cX8_init 346 = .ok (.istore_n 1, 1) := by decide +kernel
theorem dX8_init_347 : decode cX8_init 347 = .ok (.iload_n 1, 1) := by decide +kernel
theorem dX8_init_348 : decode cX8_init 348 = .ok (.bipush 8, 2) := by decide +kernel
theorem dX8_init_350 : decode cX8_init 350 = .ok (.if_icmp .ge 16, 3) := by decide +kernel
theorem dX8_init_353 : decode cX8_init 353 = .ok (.aload_n 0, 1) := by decide +kernel
theorem dX8_init_354 : decode cX8_init 354 = .ok (.getfield 13, 3) := by decide +kernel
theorem dX8_init_357 : decode cX8_init 357 = .ok (.iload_n 1, 1) := by decide +kernel
theorem dX8_init_358 : decode cX8_init 358 = .ok (.iconst 1, 1) := by decide +kernel
theorem dX8_init_359 : decode cX8_init 359 = .ok (.iastore, 1) := by decide +kernel
theorem dX8_init_360 : decode cX8_init 360 = .ok (.iinc 1 1, 3) := by decide +kernel
theorem dX8_init_363 : decode cX8_init 363 = .ok (.goto (-16), 3) := by decide +kernel
theorem dX8_init_366 : decode cX8_init 366 = .ok (.iconst 0, 1) := by decide +kernel
theorem dX8_init_367 : decode cX8_init 367 = .ok (.istore_n 1, 1) := by decide +kernel
theorem dX8_init_368 : decode cX8_init 368 = .ok (.iload_n 1, 1) := by decide +kernel
theorem dX8_init_369 : decode cX8_init 369 = .ok (.bipush 20, 2) := by decide +kernel
theorem dX8_init_371 : decode cX8_init 371 = .ok (.if_icmp .ge 23, 3) := by decide +kernel
theorem dX8_init_374 : decode cX8_init 374 = .ok (.aload_n 0, 1) := by decide +kernel
theorem dX8_init_375 : decode cX8_init 375 = .ok (.getfield 93, 3) := by decide +kernel
theorem dX8_init_378 : decode cX8_init 378 = .ok (.iload_n 1, 1) := by decide +kernel
theorem dX8_init_379 : decode cX8_init 379 = .ok (.iconst 2, 1) := by decide +kernel
theorem dX8_init_380 : decode cX8_init 380 = .ok (.iastore, 1) := by decide +kernel
theorem dX8_init_381 : decode cX8_init 381 = .ok (.aload_n 0, 1) := by decide +kernel
theorem dX8_init_382 : decode cX8_init 382 = .ok (.getfield 96, 3) := by decide +kernel
theorem dX8_init_385 : decode cX8_init 385 = .ok (.iload_n 1, 1) := by decide +kernel
theorem dX8_init_386 : decode cX8_init 386 = .ok (.iconst 1, 1) := by decide +kernel
theorem dX8_init_387 : decode cX8_init 387 = .ok (.iastore, 1) := by decide +kernel
theorem dX8_init_388 : decode cX8_init 388 = .ok (.iinc 1 1, 3) := by decide +kernel
theorem dX8_init_391 : decode cX8_init 391 = .ok (.goto (-23), 3) := by decide +kernel
theorem dX8_init_394 : decode cX8_init 394 = .ok (.iconst 0, 1) := by decide +kernel
theorem dX8_init_395 : decode cX8_init 395 = .ok (.istore_n 1, 1) := by decide +kernel
theorem dX8_init_396 : decode cX8_init 396 = .ok (.iload_n 1, 1) := by decide +kernel
theorem dX8_init_397 : decode cX8_init 397 = .ok (.iconst 3, 1) := by decide +kernel
theorem dX8_init_398 : decode cX8_init 398 = .ok (.if_icmp .ge 21, 3) := by decide +kernel
theorem dX8_init_401 : decode cX8_init 401 = .ok (.aload_n 0, 1) := by decide +kernel
theorem dX8_init_402 : decode cX8_init 402 = .ok (.getfield 19, 3) := by decide +kernel
theorem dX8_init_405 : decode cX8_init 405 = .ok (.iload_n 1, 1) := by decide +kernel
theorem dX8_init_406 : decode cX8_init 406 = .ok (.bipush 10, 2) := by decide +kernel
theorem dX8_init_408 : decode cX8_init 408 = .ok (.iload_n 1, 1) := by decide +kernel
theorem dX8_init_409 : decode cX8_init 409 = .ok (.iconst 1, 1) := by decide +kernel
theorem dX8_init_410 : decode cX8_init 410 = .ok (.iadd, 1) := by decide +kernel
theorem dX8_init_411 : decode cX8_init 411 = .ok (.imul, 1) := by decide +kernel
theorem dX8_init_412 : decode cX8_init 412 = .ok (.iastore, 1) := by decide +kernel
theorem dX8_init_413 : decode cX8_init 413 = .ok (.iinc 1 1, 3) := by decide +kernel
theorem dX8_init_416 : decode cX8_init 416 = .ok (.goto (-20), 3) := by decide +kernel
theorem dX8_init_419 : decode cX8_init 419 = .ok (.return_, 1) := by decide +kernel
theorem dX8_within_0 : decode cX8_within 0 = .ok (.iload_n 0, 1) := by decide +kernel
theorem dX8_within_1 : decode cX8_within 1 = .ok (.iload_n 1, 1) := by decide +kernel
theorem dX8_within_2 : decode cX8_within 2 = .ok (.if_icmp .lt 12, 3) := by decide +kernel
theorem dX8_within_5 : decode cX8_within 5 = .ok (.iload_n 0, 1) := by decide +kernel
theorem dX8_within_6 : decode cX8_within 6 = .ok (.iload_n 2, 1) := by decide +kernel
theorem dX8_within_7 : decode cX8_within 7 = .ok (.if_icmp .gt 7, 3) := by decide +kernel
theorem dX8_within_10 : decode cX8_within 10 = .ok (.iconst 1, 1) := by decide +kernel
theorem dX8_within_11 : decode cX8_within 11 = .ok (.goto 4, 3) := by decide +kernel
theorem dX8_within_14 : decode cX8_within 14 = .ok (.iconst 0, 1) := by decide +kernel
theorem dX8_within_15 : decode cX8_within 15 = .ok (.ireturn, 1) := by decide +kernel
theorem dX8_isJudge_0 : decode cX8_isJudge 0 = .ok (.iload_n 0, 1) := by decide +kernel
theorem dX8_isJudge_1 : decode cX8_isJudge 1 = .ok (.ifCond .lt 13, 3) := by decide +kernel
theorem dX8_isJudge_4 : decode cX8_isJudge 4 = .ok (.iload_n 0, 1) := by decide +kernel
theorem dX8_isJudge_5 : decode cX8_isJudge 5 = .ok (.bipush 20, 2) := by decide +kernel
theorem dX8_isJudge_7 : decode cX8_isJudge 7 = .ok (.if_icmp .ge 7, 3) := by decide +kernel
theorem dX8_isJudge_10 : decode cX8_isJudge 10 = .ok (.iconst 1, 1) := by decide +kernel
theorem dX8_isJudge_11 : decode cX8_isJudge 11 = .ok (.goto 4, 3) := by decide +kernel
theorem dX8_isJudge_14 : decode cX8_isJudge 14 = .ok (.iconst 0, 1) := by decide +kernel
theorem dX8_isJudge_15 : decode cX8_isJudge 15 = .ok (.ireturn, 1) := by decide +kernel
theorem dX8_isCase_0 : decode cX8_isCase 0 = .ok (.iload_n 1, 1) := by decide +kernel
theorem dX8_isCase_1 : decode cX8_isCase 1 = .ok (.ifCond .lt 15, 3) := by decide +kernel
theorem dX8_isCase_4 : decode cX8_isCase 4 = .ok (.iload_n 1, 1) := by decide +kernel
theorem dX8_isCase_5 : decode cX8_isCase 5 = .ok (.aload_n 0, 1) := by decide +kernel
theorem dX8_isCase_6 : decode cX8_isCase 6 = .ok (.getfield 133, 3) := by decide +kernel
theorem dX8_isCase_9 : decode cX8_isCase 9 = .ok (.if_icmp .ge 7, 3) := by decide +kernel
theorem dX8_isCase_12 : decode cX8_isCase 12 = .ok (.iconst 1, 1) := by decide +kernel
theorem dX8_isCase_13 : decode cX8_isCase 13 = .ok (.goto 4, 3) := by decide +kernel
theorem dX8_isCase_16 : decode cX8_isCase 16 = .ok (.iconst 0, 1) := by decide +kernel
theorem dX8_isCase_17 : decode cX8_isCase 17 = .ok (.ireturn, 1) := by decide +kernel
theorem dX8_tick_0 : decode cX8_tick 0 = .ok (.iload_n 1, 1) := by decide +kernel
theorem dX8_tick_1 : decode cX8_tick 1 = .ok (.iconst 1, 1) := by decide +kernel
theorem dX8_tick_2 : decode cX8_tick 2 = .ok (.sipush 1000, 3) := by decide +kernel
theorem dX8_tick_5 : decode cX8_tick 5 = .ok (.invokestatic 136, 3) := by decide +kernel
theorem dX8_tick_8 : decode cX8_tick 8 = .ok (.ifCond .eq 14, 3) := by decide +kernel
theorem dX8_tick_11 : decode cX8_tick 11 = .ok (.aload_n 0, 1) := by decide +kernel
theorem dX8_tick_12 : decode cX8_tick 12 = .ok (.getfield 140, 3) := by decide +kernel
theorem dX8_tick_15 : decode cX8_tick 15 = .ok (.iload_n 1, 1) := by decide +kernel
theorem dX8_tick_16 : decode cX8_tick 16 = .ok (.iadd, 1) := by decide +kernel
theorem dX8_tick_17 : decode cX8_tick 17 = .ok (.ldc 143, 2) := by decide +kernel
theorem dX8_tick_19 : decode cX8_tick 19 = .ok (.if_icmp .le 5, 3) := by decide +kernel
theorem dX8_tick_22 : decode cX8_tick 22 = .ok (.iconst (-1), 1) := by decide +kernel
theorem dX8_tick_23 : decode cX8_tick 23 = .ok (.ireturn, 1) := by decide +kernel
theorem dX8_tick_24 : decode cX8_tick 24 = .ok (.aload_n 0, 1) := by decide +kernel
theorem dX8_tick_25 : decode cX8_tick 25 = .ok (.dup, 1) := by decide +kernel
theorem dX8_tick_26 : decode cX8_tick 26 = .ok (.getfield 140, 3) := by decide +kernel
theorem dX8_tick_29 : decode cX8_tick 29 = .ok (.iload_n 1, 1) := by decide +kernel
theorem dX8_tick_30 : decode cX8_tick 30 = .ok (.iadd, 1) := by decide +kernel
theorem dX8_tick_31 : decode cX8_tick 31 = .ok (.putfield 140, 3) := by decide +kernel
theorem dX8_tick_34 : decode cX8_tick 34 = .ok (.aload_n 0, 1) := by decide +kernel
theorem dX8_tick_35 : decode cX8_tick 35 = .ok (.getfield 140, 3) := by decide +kernel
theorem dX8_tick_38 : decode cX8_tick 38 = .ok (.ireturn, 1) := by decide +kernel
theorem dX8_rule_0 : decode cX8_rule 0 = .ok (.iload_n 1, 1) := by decide +kernel
theorem dX8_rule_1 : decode cX8_rule 1 = .ok (.iconst 0, 1) := by decide +kernel
theorem dX8_rule_2 : decode cX8_rule 2 = .ok (.bipush 7, 2) := by decide +kernel
theorem dX8_rule_4 : decode cX8_rule 4 = .ok (.invokestatic 136, 3) := by decide +kernel
theorem dX8_rule_7 : decode cX8_rule 7 = .ok (.ifCond .eq 32, 3) := by decide +kernel
theorem dX8_rule_10 : decode cX8_rule 10 = .ok (.iload_n 2, 1) := by decide +kernel
theorem dX8_rule_11 : decode cX8_rule 11 = .ok (.iconst 0, 1) := by decide +kernel
theorem dX8_rule_12 : decode cX8_rule 12 = .ok (.iconst 2, 1) := by decide +kernel
theorem dX8_rule_13 : decode cX8_rule 13 = .ok (.invokestatic 136, 3) := by decide +kernel
theorem dX8_rule_16 : decode cX8_rule 16 = .ok (.ifCond .eq 23, 3) := by decide +kernel
theorem dX8_rule_19 : decode cX8_rule 19 = .ok (.iload_n 3, 1) := by decide +kernel
theorem dX8_rule_20 : decode cX8_rule 20 = .ok (.iconst 1, 1) := by decide +kernel
theorem dX8_rule_21 : decode cX8_rule 21 = .ok (.bipush 100, 2) := by decide +kernel
theorem dX8_rule_23 : decode cX8_rule 23 = .ok (.invokestatic 136, 3) := by decide +kernel
theorem dX8_rule_26 : decode cX8_rule 26 = .ok (.ifCond .eq 13, 3) := by decide +kernel
theorem dX8_rule_29 : decode cX8_rule 29 = .ok (.iload 4, 2) := by decide +kernel
theorem dX8_rule_31 : decode cX8_rule 31 = .ok (.iconst 0, 1) := by decide +kernel
theorem dX8_rule_32 : decode cX8_rule 32 = .ok (.iconst 2, 1) := by decide +kernel
theorem dX8_rule_33 : decode cX8_rule 33 = .ok (.invokestatic 136, 3) := by decide +kernel
theorem dX8_rule_36 : decode cX8_rule 36 = .ok (.ifCond .ne 5, 3) := by decide +kernel
theorem dX8_rule_39 : decode cX8_rule 39 = .ok (.iconst (-1), 1) := by decide +kernel
theorem dX8_rule_40 : decode cX8_rule 40 = .ok (.ireturn, 1) := by decide +kernel
theorem dX8_rule_41 : decode cX8_rule 41 = .ok (.aload_n 0, 1) := by decide +kernel
theorem dX8_rule_42 : decode cX8_rule 42 = .ok (.getfield 9, 3) := by decide +kernel
theorem dX8_rule_45 : decode cX8_rule 45 = .ok (.iload_n 1, 1) := by decide +kernel
theorem dX8_rule_46 : decode cX8_rule 46 = .ok (.iload_n 2, 1) := by decide +kernel
theorem dX8_rule_47 : decode cX8_rule 47 = .ok (.iastore, 1) := by decide +kernel
theorem dX8_rule_48 : decode cX8_rule 48 = .ok (.aload_n 0, 1) := by decide +kernel
theorem dX8_rule_49 : decode cX8_rule 49 = .ok (.getfield 13, 3) := by decide +kernel
theorem dX8_rule_52 : decode cX8_rule 52 = .ok (.iload_n 1, 1) := by decide +kernel
theorem dX8_rule_53 : decode cX8_rule 53 = .ok (.iload_n 3, 1) := by decide +kernel
theorem dX8_rule_54 : decode cX8_rule 54 = .ok (.iastore, 1) := by decide +kernel
theorem dX8_rule_55 : decode cX8_rule 55 = .ok (.aload_n 0, 1) := by decide +kernel
theorem dX8_rule_56 : decode cX8_rule 56 = .ok (.getfield 16, 3) := by decide +kernel
theorem dX8_rule_59 : decode cX8_rule 59 = .ok (.iload_n 1, 1) := by decide +kernel
theorem dX8_rule_60 : decode cX8_rule 60 = .ok (.iload 4, 2) := by decide +kernel
theorem dX8_rule_62 : decode cX8_rule 62 = .ok (.iastore, 1) := by decide +kernel
theorem dX8_rule_63 : decode cX8_rule 63 = .ok (.iconst 1, 1) := by decide +kernel
theorem dX8_rule_64 : decode cX8_rule 64 = .ok (.ireturn, 1) := by decide +kernel
theorem dX8_ladder_0 : decode cX8_ladder 0 = .ok (.iload_n 1, 1) := by decide +kernel
theorem dX8_ladder_1 : decode cX8_ladder 1 = .ok (.iconst 1, 1) := by decide +kernel
theorem dX8_ladder_2 : decode cX8_ladder 2 = .ok (.sipush 10000, 3) := by decide +kernel
theorem dX8_ladder_5 : decode cX8_ladder 5 = .ok (.invokestatic 136, 3) := by decide +kernel
theorem dX8_ladder_8 : decode cX8_ladder 8 = .ok (.ifCond .eq 14, 3) := by decide +kernel
theorem dX8_ladder_11 : decode cX8_ladder 11 = .ok (.iload_n 2, 1) := by decide +kernel
theorem dX8_ladder_12 : decode cX8_ladder 12 = .ok (.iconst 1, 1) := by decide +kernel
theorem dX8_ladder_13 : decode cX8_ladder 13 = .ok (.sipush 10000, 3) := by decide +kernel
theorem dX8_ladder_16 : decode cX8_ladder 16 = .ok (.invokestatic 136, 3) := by decide +kernel
theorem dX8_ladder_19 : decode cX8_ladder 19 = .ok (.ifCond .ne 5, 3) := by decide +kernel
theorem dX8_ladder_22 : decode cX8_ladder 22 = .ok (.iconst (-1), 1) := by decide +kernel
theorem dX8_ladder_23 : decode cX8_ladder 23 = .ok (.ireturn, 1) := by decide +kernel
theorem dX8_ladder_24 : decode cX8_ladder 24 = .ok (.aload_n 0, 1) := by decide +kernel
theorem dX8_ladder_25 : decode cX8_ladder 25 = .ok (.iload_n 1, 1) := by decide +kernel
theorem dX8_ladder_26 : decode cX8_ladder 26 = .ok (.putfield 22, 3) := by decide +kernel
theorem dX8_ladder_29 : decode cX8_ladder 29 = .ok (.aload_n 0, 1) := by decide +kernel
theorem dX8_ladder_30 : decode cX8_ladder 30 = .ok (.iload_n 2, 1) := by decide +kernel
theorem dX8_ladder_31 : decode cX8_ladder 31 = .ok (.putfield 26, 3) := by decide +kernel
theorem dX8_ladder_34 : decode cX8_ladder 34 = .ok (.iconst 1, 1) := by decide +kernel
theorem dX8_ladder_35 : decode cX8_ladder 35 = .ok (.ireturn, 1) := by decide +kernel
theorem dX8_due_0 : decode cX8_due 0 = .ok (.iload_n 1, 1) := by decide +kernel
theorem dX8_due_1 : decode cX8_due 1 = .ok (.iconst 0, 1) := by decide +kernel
theorem dX8_due_2 : decode cX8_due 2 = .ok (.iconst 2, 1) := by decide +kernel
theorem dX8_due_3 : decode cX8_due 3 = .ok (.invokestatic 136, 3) := by decide +kernel
theorem dX8_due_6 : decode cX8_due 6 = .ok (.ifCond .eq 14, 3) := by decide +kernel
theorem dX8_due_9 : decode cX8_due 9 = .ok (.iload_n 2, 1) := by decide +kernel
theorem dX8_due_10 : decode cX8_due 10 = .ok (.iconst 1, 1) := by decide +kernel
theorem dX8_due_11 : decode cX8_due 11 = .ok (.sipush 1000, 3) := by decide +kernel
theorem dX8_due_14 : decode cX8_due 14 = .ok (.invokestatic 136, 3) := by decide +kernel
theorem dX8_due_17 : decode cX8_due 17 = .ok (.ifCond .ne 5, 3) := by decide +kernel
theorem dX8_due_20 : decode cX8_due 20 = .ok (.iconst (-1), 1) := by decide +kernel
theorem dX8_due_21 : decode cX8_due 21 = .ok (.ireturn, 1) := by decide +kernel
theorem dX8_due_22 : decode cX8_due 22 = .ok (.aload_n 0, 1) := by decide +kernel
theorem dX8_due_23 : decode cX8_due 23 = .ok (.getfield 19, 3) := by decide +kernel
theorem dX8_due_26 : decode cX8_due 26 = .ok (.iload_n 1, 1) := by decide +kernel
theorem dX8_due_27 : decode cX8_due 27 = .ok (.iaload, 1) := by decide +kernel
theorem dX8_due_28 : decode cX8_due 28 = .ok (.istore_n 3, 1) := by decide +kernel
theorem dX8_due_29 : decode cX8_due 29 = .ok (.aload_n 0, 1) := by decide +kernel
theorem dX8_due_30 : decode cX8_due 30 = .ok (.getfield 19, 3) := by decide +kernel
theorem dX8_due_33 : decode cX8_due 33 = .ok (.iload_n 1, 1) := by decide +kernel
theorem dX8_due_34 : decode cX8_due 34 = .ok (.iload_n 2, 1) := by decide +kernel
theorem dX8_due_35 : decode cX8_due 35 = .ok (.iastore, 1) := by decide +kernel
theorem dX8_due_36 : decode cX8_due 36 = .ok (.iload_n 3, 1) := by decide +kernel
theorem dX8_due_37 : decode cX8_due 37 = .ok (.ireturn, 1) := by decide +kernel
theorem dX8_limit_0 : decode cX8_limit 0 = .ok (.iload_n 1, 1) := by decide +kernel
theorem dX8_limit_1 : decode cX8_limit 1 = .ok (.iconst 0, 1) := by decide +kernel
theorem dX8_limit_2 : decode cX8_limit 2 = .ok (.bipush 100, 2) := by decide +kernel
theorem dX8_limit_4 : decode cX8_limit 4 = .ok (.invokestatic 136, 3) := by decide +kernel
theorem dX8_limit_7 : decode cX8_limit 7 = .ok (.ifCond .ne 5, 3) := by decide +kernel
theorem dX8_limit_10 : decode cX8_limit 10 = .ok (.iconst (-1), 1) := by decide +kernel
theorem dX8_limit_11 : decode cX8_limit 11 = .ok (.ireturn, 1) := by decide +kernel
theorem dX8_limit_12 : decode cX8_limit 12 = .ok (.aload_n 0, 1) := by decide +kernel
theorem dX8_limit_13 : decode cX8_limit 13 = .ok (.getfield 29, 3) := by decide +kernel
theorem dX8_limit_16 : decode cX8_limit 16 = .ok (.istore_n 2, 1) := by decide +kernel
theorem dX8_limit_17 : decode cX8_limit 17 = .ok (.aload_n 0, 1) := by decide +kernel
theorem dX8_limit_18 : decode cX8_limit 18 = .ok (.iload_n 1, 1) := by decide +kernel
theorem dX8_limit_19 : decode cX8_limit 19 = .ok (.putfield 29, 3) := by decide +kernel
theorem dX8_limit_22 : decode cX8_limit 22 = .ok (.iload_n 2, 1) := by decide +kernel
theorem dX8_limit_23 : decode cX8_limit 23 = .ok (.ireturn, 1) := by decide +kernel
theorem dX8_post_0 : decode cX8_post 0 = .ok (.iload_n 1, 1) := by decide +kernel
theorem dX8_post_1 : decode cX8_post 1 = .ok (.iconst 0, 1) := by decide +kernel
theorem dX8_post_2 : decode cX8_post 2 = .ok (.bipush 39, 2) := by decide +kernel
theorem dX8_post_4 : decode cX8_post 4 = .ok (.invokestatic 136, 3) := by decide +kernel
theorem dX8_post_7 : decode cX8_post 7 = .ok (.ifCond .eq 25, 3) := by decide +kernel
theorem dX8_post_10 : decode cX8_post 10 = .ok (.iload_n 2, 1) := by decide +kernel
theorem dX8_post_11 : decode cX8_post 11 = .ok (.iconst 1, 1) := by decide +kernel
theorem dX8_post_12 : decode cX8_post 12 = .ok (.sipush 1000, 3) := by decide +kernel
theorem dX8_post_15 : decode cX8_post 15 = .ok (.invokestatic 136, 3) := by decide +kernel
theorem dX8_post_18 : decode cX8_post 18 = .ok (.ifCond .eq 14, 3) := by decide +kernel
theorem dX8_post_21 : decode cX8_post 21 = .ok (.iload_n 3, 1) := by decide +kernel
theorem dX8_post_22 : decode cX8_post 22 = .ok (.iconst 0, 1) := by decide +kernel
theorem dX8_post_23 : decode cX8_post 23 = .ok (.sipush 255, 3) := by decide +kernel
theorem dX8_post_26 : decode cX8_post 26 = .ok (.invokestatic 136, 3) := by decide +kernel
theorem dX8_post_29 : decode cX8_post 29 = .ok (.ifCond .ne 5, 3) := by decide +kernel
theorem dX8_post_32 : decode cX8_post 32 = .ok (.iconst (-1), 1) := by decide +kernel
theorem dX8_post_33 : decode cX8_post 33 = .ok (.ireturn, 1) := by decide +kernel
theorem dX8_post_34 : decode cX8_post 34 = .ok (.aload_n 0, 1) := by decide +kernel
theorem dX8_post_35 : decode cX8_post 35 = .ok (.getfield 144, 3) := by decide +kernel
theorem dX8_post_38 : decode cX8_post 38 = .ok (.sipush 300, 3) := by decide +kernel
theorem dX8_post_41 : decode cX8_post 41 = .ok (.if_icmp .ne 6, 3) := by decide +kernel
theorem dX8_post_44 : decode cX8_post 44 = .ok (.bipush (-2), 2) := by decide +kernel
theorem dX8_post_46 : decode cX8_post 46 = .ok (.ireturn, 1) := by decide +kernel
theorem dX8_post_47 : decode cX8_post 47 = .ok (.aload_n 0, 1) := by decide +kernel
theorem dX8_post_48 : decode cX8_post 48 = .ok (.getfield 32, 3) := by decide +kernel
theorem dX8_post_51 : decode cX8_post 51 = .ok (.aload_n 0, 1) := by decide +kernel
theorem dX8_post_52 : decode cX8_post 52 = .ok (.getfield 144, 3) := by decide +kernel
theorem dX8_post_55 : decode cX8_post 55 = .ok (.iload_n 1, 1) := by decide +kernel
theorem dX8_post_56 : decode cX8_post 56 = .ok (.iastore, 1) := by decide +kernel
theorem dX8_post_57 : decode cX8_post 57 = .ok (.aload_n 0, 1) := by decide +kernel
theorem dX8_post_58 : decode cX8_post 58 = .ok (.getfield 35, 3) := by decide +kernel
theorem dX8_post_61 : decode cX8_post 61 = .ok (.aload_n 0, 1) := by decide +kernel
theorem dX8_post_62 : decode cX8_post 62 = .ok (.getfield 144, 3) := by decide +kernel
theorem dX8_post_65 : decode cX8_post 65 = .ok (.aload_n 0, 1) := by decide +kernel
theorem dX8_post_66 : decode cX8_post 66 = .ok (.getfield 140, 3) := by decide +kernel
theorem dX8_post_69 : decode cX8_post 69 = .ok (.iastore, 1) := by decide +kernel
theorem dX8_post_70 : decode cX8_post 70 = .ok (.aload_n 0, 1) := by decide +kernel
theorem dX8_post_71 : decode cX8_post 71 = .ok (.getfield 38, 3) := by decide +kernel
theorem dX8_post_74 : decode cX8_post 74 = .ok (.aload_n 0, 1) := by decide +kernel
theorem dX8_post_75 : decode cX8_post 75 = .ok (.getfield 144, 3) := by decide +kernel
theorem dX8_post_78 : decode cX8_post 78 = .ok (.iload_n 2, 1) := by decide +kernel
theorem dX8_post_79 : decode cX8_post 79 = .ok (.iastore, 1) := by decide +kernel
theorem dX8_post_80 : decode cX8_post 80 = .ok (.aload_n 0, 1) := by decide +kernel
theorem dX8_post_81 : decode cX8_post 81 = .ok (.getfield 41, 3) := by decide +kernel
theorem dX8_post_84 : decode cX8_post 84 = .ok (.aload_n 0, 1) := by decide +kernel
theorem dX8_post_85 : decode cX8_post 85 = .ok (.getfield 144, 3) := by decide +kernel
theorem dX8_post_88 : decode cX8_post 88 = .ok (.iload_n 3, 1) := by decide +kernel
theorem dX8_post_89 : decode cX8_post 89 = .ok (.iastore, 1) := by decide +kernel
theorem dX8_post_90 : decode cX8_post 90 = .ok (.aload_n 0, 1) := by decide +kernel
theorem dX8_post_91 : decode cX8_post 91 = .ok (.dup, 1) := by decide +kernel
theorem dX8_post_92 : decode cX8_post 92 = .ok (.getfield 144, 3) := by decide +kernel
theorem dX8_post_95 : decode cX8_post 95 = .ok (.iconst 1, 1) := by decide +kernel
theorem dX8_post_96 : decode cX8_post 96 = .ok (.iadd, 1) := by decide +kernel
theorem dX8_post_97 : decode cX8_post 97 = .ok (.putfield 144, 3) := by decide +kernel
theorem dX8_post_100 : decode cX8_post 100 = .ok (.aload_n 0, 1) := by decide +kernel
theorem dX8_post_101 : decode cX8_post 101 = .ok (.getfield 144, 3) := by decide +kernel
theorem dX8_post_104 : decode cX8_post 104 = .ok (.iconst 1, 1) := by decide +kernel
theorem dX8_post_105 : decode cX8_post 105 = .ok (.isub, 1) := by decide +kernel
theorem dX8_post_106 : decode cX8_post 106 = .ok (.ireturn, 1) := by decide +kernel
theorem dX8_complain_0 : decode cX8_complain 0 = .ok (.iload_n 1, 1) := by decide +kernel
theorem dX8_complain_1 : decode cX8_complain 1 = .ok (.ifCond .lt 21, 3) := by decide +kernel
theorem dX8_complain_4 : decode cX8_complain 4 = .ok (.iload_n 1, 1) := by decide +kernel
theorem dX8_complain_5 : decode cX8_complain 5 = .ok (.aload_n 0, 1) := by decide +kernel
theorem dX8_complain_6 : decode cX8_complain 6 = .ok (.getfield 144, 3) := by decide +kernel
theorem dX8_complain_9 : decode cX8_complain 9 = .ok (.if_icmp .ge 13, 3) := by decide +kernel
theorem dX8_complain_12 : decode cX8_complain 12 = .ok (.iload_n 2, 1) := by decide +kernel
theorem dX8_complain_13 : decode cX8_complain 13 = .ok (.iconst 0, 1) := by decide +kernel
theorem dX8_complain_14 : decode cX8_complain 14 = .ok (.bipush 7, 2) := by decide +kernel
theorem dX8_complain_16 : decode cX8_complain 16 = .ok (.invokestatic 136, 3) := by decide +kernel
theorem dX8_complain_19 : decode cX8_complain 19 = .ok (.ifCond .ne 5, 3) := by decide +kernel
theorem dX8_complain_22 : decode cX8_complain 22 = .ok (.iconst (-1), 1) := by decide +kernel
theorem dX8_complain_23 : decode cX8_complain 23 = .ok (.ireturn, 1) := by decide +kernel
theorem dX8_complain_24 : decode cX8_complain 24 = .ok (.iconst 0, 1) := by decide +kernel
theorem dX8_complain_25 : decode cX8_complain 25 = .ok (.istore_n 3, 1) := by decide +kernel
theorem dX8_complain_26 : decode cX8_complain 26 = .ok (.iload_n 3, 1) := by decide +kernel
theorem dX8_complain_27 : decode cX8_complain 27 = .ok (.aload_n 0, 1) := by decide +kernel
theorem dX8_complain_28 : decode cX8_complain 28 = .ok (.getfield 133, 3) := by decide +kernel
theorem dX8_complain_31 : decode cX8_complain 31 = .ok (.if_icmp .ge 41, 3) := by decide +kernel
theorem dX8_complain_34 : decode cX8_complain 34 = .ok (.aload_n 0, 1) := by decide +kernel
theorem dX8_complain_35 : decode cX8_complain 35 = .ok (.getfield 44, 3) := by decide +kernel
theorem dX8_complain_38 : decode cX8_complain 38 = .ok (.iload_n 3, 1) := by decide +kernel
theorem dX8_complain_39 : decode cX8_complain 39 = .ok (.iaload, 1) := by decide +kernel
theorem dX8_complain_40 : decode cX8_complain 40 = .ok (.iload_n 1, 1) := by decide +kernel
theorem dX8_complain_41 : decode cX8_complain 41 = .ok (.if_icmp .ne 25, 3) := by decide +kernel
theorem dX8_complain_44 : decode cX8_complain 44 = .ok (.aload_n 0, 1) := by decide +kernel
theorem dX8_complain_45 : decode cX8_complain 45 = .ok (.getfield 47, 3) := by decide +kernel
theorem dX8_complain_48 : decode cX8_complain 48 = .ok (.iload_n 3, 1) := by decide +kernel
theorem dX8_complain_49 : decode cX8_complain 49 = .ok (.iaload, 1) := by decide +kernel
theorem dX8_complain_50 : decode cX8_complain 50 = .ok (.iload_n 2, 1) := by decide +kernel
theorem dX8_complain_51 : decode cX8_complain 51 = .ok (.if_icmp .ne 15, 3) := by decide +kernel
theorem dX8_complain_54 : decode cX8_complain 54 = .ok (.aload_n 0, 1) := by decide +kernel
theorem dX8_complain_55 : decode cX8_complain 55 = .ok (.getfield 53, 3) := by decide +kernel
theorem dX8_complain_58 : decode cX8_complain 58 = .ok (.iload_n 3, 1) := by decide +kernel
theorem dX8_complain_59 : decode cX8_complain 59 = .ok (.dup2, 1) := by decide +kernel
theorem dX8_complain_60 : decode cX8_complain 60 = .ok (.iaload, 1) := by decide +kernel
theorem dX8_complain_61 : decode cX8_complain 61 = .ok (.iconst 1, 1) := by decide +kernel
theorem dX8_complain_62 : decode cX8_complain 62 = .ok (.iadd, 1) := by decide +kernel
theorem dX8_complain_63 : decode cX8_complain 63 = .ok (.iastore, 1) := by decide +kernel
theorem dX8_complain_64 : decode cX8_complain 64 = .ok (.iload_n 3, 1) := by decide +kernel
theorem dX8_complain_65 : decode cX8_complain 65 = .ok (.ireturn, 1) := by decide +kernel
theorem dX8_complain_66 : decode cX8_complain 66 = .ok (.iinc 3 1, 3) := by decide +kernel
theorem dX8_complain_69 : decode cX8_complain 69 = .ok (.goto (-43), 3) := by decide +kernel
theorem dX8_complain_72 : decode cX8_complain 72 = .ok (.aload_n 0, 1) := by decide +kernel
theorem dX8_complain_73 : decode cX8_complain 73 = .ok (.getfield 133, 3) := by decide +kernel
theorem dX8_complain_76 : decode cX8_complain 76 = .ok (.sipush 400, 3) := by decide +kernel
theorem dX8_complain_79 : decode cX8_complain 79 = .ok (.if_icmp .ne 6, 3) := by decide +kernel
theorem dX8_complain_82 : decode cX8_complain 82 = .ok (.bipush (-2), 2) := by decide +kernel
theorem dX8_complain_84 : decode cX8_complain 84 = .ok (.ireturn, 1) := by decide +kernel
theorem dX8_complain_85 : decode cX8_complain 85 = .ok (.aload_n 0, 1) := by decide +kernel
theorem dX8_complain_86 : decode cX8_complain 86 = .ok (.getfield 133, 3) := by decide +kernel
theorem dX8_complain_89 : decode cX8_complain 89 = .ok (.istore_n 3, 1) := by decide +kernel
theorem dX8_complain_90 : decode cX8_complain 90 = .ok (.aload_n 0, 1) := by decide +kernel
theorem dX8_complain_91 : decode cX8_complain 91 = .ok (.getfield 44, 3) := by decide +kernel
theorem dX8_complain_94 : decode cX8_complain 94 = .ok (.iload_n 3, 1) := by decide +kernel
theorem dX8_complain_95 : decode cX8_complain 95 = .ok (.iload_n 1, 1) := by decide +kernel
theorem dX8_complain_96 : decode cX8_complain 96 = .ok (.iastore, 1) := by decide +kernel
theorem dX8_complain_97 : decode cX8_complain 97 = .ok (.aload_n 0, 1) := by decide +kernel
theorem dX8_complain_98 : decode cX8_complain 98 = .ok (.getfield 47, 3) := by decide +kernel
theorem dX8_complain_101 : decode cX8_complain 101 = .ok (.iload_n 3, 1) := by decide +kernel
theorem dX8_complain_102 : decode cX8_complain 102 = .ok (.iload_n 2, 1) := by decide +kernel
theorem dX8_complain_103 : decode cX8_complain 103 = .ok (.iastore, 1) := by decide +kernel
theorem dX8_complain_104 : decode cX8_complain 104 = .ok (.aload_n 0, 1) := by decide +kernel
theorem dX8_complain_105 : decode cX8_complain 105 = .ok (.getfield 50, 3) := by decide +kernel
theorem dX8_complain_108 : decode cX8_complain 108 = .ok (.iload_n 3, 1) := by decide +kernel
theorem dX8_complain_109 : decode cX8_complain 109 = .ok (.iconst 0, 1) := by decide +kernel
theorem dX8_complain_110 : decode cX8_complain 110 = .ok (.iastore, 1) := by decide +kernel
theorem dX8_complain_111 : decode cX8_complain 111 = .ok (.aload_n 0, 1) := by decide +kernel
theorem dX8_complain_112 : decode cX8_complain 112 = .ok (.getfield 53, 3) := by decide +kernel
theorem dX8_complain_115 : decode cX8_complain 115 = .ok (.iload_n 3, 1) := by decide +kernel
theorem dX8_complain_116 : decode cX8_complain 116 = .ok (.iconst 1, 1) := by decide +kernel
theorem dX8_complain_117 : decode cX8_complain 117 = .ok (.iastore, 1) := by decide +kernel
theorem dX8_complain_118 : decode cX8_complain 118 = .ok (.aload_n 0, 1) := by decide +kernel
theorem dX8_complain_119 : decode cX8_complain 119 = .ok (.getfield 56, 3) := by decide +kernel
theorem dX8_complain_122 : decode cX8_complain 122 = .ok (.iload_n 3, 1) := by decide +kernel
theorem dX8_complain_123 : decode cX8_complain 123 = .ok (.aload_n 0, 1) := by decide +kernel
theorem dX8_complain_124 : decode cX8_complain 124 = .ok (.getfield 9, 3) := by decide +kernel
theorem dX8_complain_127 : decode cX8_complain 127 = .ok (.iload_n 2, 1) := by decide +kernel
theorem dX8_complain_128 : decode cX8_complain 128 = .ok (.iaload, 1) := by decide +kernel
theorem dX8_complain_129 : decode cX8_complain 129 = .ok (.iastore, 1) := by decide +kernel
theorem dX8_complain_130 : decode cX8_complain 130 = .ok (.aload_n 0, 1) := by decide +kernel
theorem dX8_complain_131 : decode cX8_complain 131 = .ok (.getfield 59, 3) := by decide +kernel
theorem dX8_complain_134 : decode cX8_complain 134 = .ok (.iload_n 3, 1) := by decide +kernel
theorem dX8_complain_135 : decode cX8_complain 135 = .ok (.aload_n 0, 1) := by decide +kernel
theorem dX8_complain_136 : decode cX8_complain 136 = .ok (.getfield 140, 3) := by decide +kernel
theorem dX8_complain_139 : decode cX8_complain 139 = .ok (.iastore, 1) := by decide +kernel
theorem dX8_complain_140 : decode cX8_complain 140 = .ok (.aload_n 0, 1) := by decide +kernel
theorem dX8_complain_141 : decode cX8_complain 141 = .ok (.getfield 62, 3) := by decide +kernel
theorem dX8_complain_144 : decode cX8_complain 144 = .ok (.iload_n 3, 1) := by decide +kernel
theorem dX8_complain_145 : decode cX8_complain 145 = .ok (.iconst 2, 1) := by decide +kernel
theorem dX8_complain_146 : decode cX8_complain 146 = .ok (.aload_n 0, 1) := by decide +kernel
theorem dX8_complain_147 : decode cX8_complain 147 = .ok (.getfield 9, 3) := by decide +kernel
theorem dX8_complain_150 : decode cX8_complain 150 = .ok (.iload_n 2, 1) := by decide +kernel
theorem dX8_complain_151 : decode cX8_complain 151 = .ok (.iaload, 1) := by decide +kernel
theorem dX8_complain_152 : decode cX8_complain 152 = .ok (.imul, 1) := by decide +kernel
theorem dX8_complain_153 : decode cX8_complain 153 = .ok (.iconst 1, 1) := by decide +kernel
theorem dX8_complain_154 : decode cX8_complain 154 = .ok (.iadd, 1) := by decide +kernel
theorem dX8_complain_155 : decode cX8_complain 155 = .ok (.iastore, 1) := by decide +kernel
theorem dX8_complain_156 : decode cX8_complain 156 = .ok (.aload_n 0, 1) := by decide +kernel
theorem dX8_complain_157 : decode cX8_complain 157 = .ok (.getfield 65, 3) := by decide +kernel
theorem dX8_complain_160 : decode cX8_complain 160 = .ok (.iload_n 3, 1) := by decide +kernel
theorem dX8_complain_161 : decode cX8_complain 161 = .ok (.iconst 0, 1) := by decide +kernel
theorem dX8_complain_162 : decode cX8_complain 162 = .ok (.iastore, 1) := by decide +kernel
theorem dX8_complain_163 : decode cX8_complain 163 = .ok (.aload_n 0, 1) := by decide +kernel
theorem dX8_complain_164 : decode cX8_complain 164 = .ok (.getfield 68, 3) := by decide +kernel
theorem dX8_complain_167 : decode cX8_complain 167 = .ok (.iload_n 3, 1) := by decide +kernel
theorem dX8_complain_168 : decode cX8_complain 168 = .ok (.iconst 0, 1) := by decide +kernel
theorem dX8_complain_169 : decode cX8_complain 169 = .ok (.iastore, 1) := by decide +kernel
theorem dX8_complain_170 : decode cX8_complain 170 = .ok (.aload_n 0, 1) := by decide +kernel
theorem dX8_complain_171 : decode cX8_complain 171 = .ok (.getfield 71, 3) := by decide +kernel
theorem dX8_complain_174 : decode cX8_complain 174 = .ok (.iload_n 3, 1) := by decide +kernel
theorem dX8_complain_175 : decode cX8_complain 175 = .ok (.iconst (-1), 1) := by decide +kernel
theorem dX8_complain_176 : decode cX8_complain 176 = .ok (.iastore, 1) := by decide +kernel
theorem dX8_complain_177 : decode cX8_complain 177 = .ok (.aload_n 0, 1) := by decide +kernel
theorem dX8_complain_178 : decode cX8_complain 178 = .ok (.getfield 74, 3) := by decide +kernel
theorem dX8_complain_181 : decode cX8_complain 181 = .ok (.iconst 2, 1) := by decide +kernel
theorem dX8_complain_182 : decode cX8_complain 182 = .ok (.iload_n 3, 1) := by decide +kernel
theorem dX8_complain_183 : decode cX8_complain 183 = .ok (.imul, 1) := by decide +kernel
theorem dX8_complain_184 : decode cX8_complain 184 = .ok (.iconst (-1), 1) := by decide +kernel
theorem dX8_complain_185 : decode cX8_complain 185 = .ok (.iastore, 1) := by decide +kernel
theorem dX8_complain_186 : decode cX8_complain 186 = .ok (.aload_n 0, 1) := by decide +kernel
theorem dX8_complain_187 : decode cX8_complain 187 = .ok (.getfield 74, 3) := by decide +kernel
theorem dX8_complain_190 : decode cX8_complain 190 = .ok (.iconst 2, 1) := by decide +kernel
theorem dX8_complain_191 : decode cX8_complain 191 = .ok (.iload_n 3, 1) := by decide +kernel
theorem dX8_complain_192 : decode cX8_complain 192 = .ok (.imul, 1) := by decide +kernel
theorem dX8_complain_193 : decode cX8_complain 193 = .ok (.iconst 1, 1) := by decide +kernel
theorem dX8_complain_194 : decode cX8_complain 194 = .ok (.iadd, 1) := by decide +kernel
theorem dX8_complain_195 : decode cX8_complain 195 = .ok (.iconst (-1), 1) := by decide +kernel
theorem dX8_complain_196 : decode cX8_complain 196 = .ok (.iastore, 1) := by decide +kernel
theorem dX8_complain_197 : decode cX8_complain 197 = .ok (.aload_n 0, 1) := by decide +kernel
theorem dX8_complain_198 : decode cX8_complain 198 = .ok (.dup, 1) := by decide +kernel
theorem dX8_complain_199 : decode cX8_complain 199 = .ok (.getfield 133, 3) := by decide +kernel
theorem dX8_complain_202 : decode cX8_complain 202 = .ok (.iconst 1, 1) := by decide +kernel
theorem dX8_complain_203 : decode cX8_complain 203 = .ok (.iadd, 1) := by decide +kernel
theorem dX8_complain_204 : decode cX8_complain 204 = .ok (.putfield 133, 3) := by decide +kernel
theorem dX8_complain_207 : decode cX8_complain 207 = .ok (.iload_n 3, 1) := by decide +kernel
theorem dX8_complain_208 : decode cX8_complain 208 = .ok (.ireturn, 1) := by decide +kernel
theorem dX8_judge_0 : decode cX8_judge 0 = .ok (.iload_n 1, 1) := by decide +kernel
theorem dX8_judge_1 : decode cX8_judge 1 = .ok (.invokestatic 147, 3) := by decide +kernel
theorem dX8_judge_4 : decode cX8_judge 4 = .ok (.ifCond .eq 35, 3) := by decide +kernel
theorem dX8_judge_7 : decode cX8_judge 7 = .ok (.iload_n 2, 1) := by decide +kernel
theorem dX8_judge_8 : decode cX8_judge 8 = .ok (.iconst 0, 1) := by decide +kernel
theorem dX8_judge_9 : decode cX8_judge 9 = .ok (.sipush 255, 3) := by decide +kernel
theorem dX8_judge_12 : decode cX8_judge 12 = .ok (.invokestatic 136, 3) := by decide +kernel
theorem dX8_judge_15 : decode cX8_judge 15 = .ok (.ifCond .eq 24, 3) := by decide +kernel
theorem dX8_judge_18 : decode cX8_judge 18 = .ok (.iload_n 3, 1) := by decide +kernel
theorem dX8_judge_19 : decode cX8_judge 19 = .ok (.iconst 0, 1) := by decide +kernel
theorem dX8_judge_20 : decode cX8_judge 20 = .ok (.bipush 20, 2) := by decide +kernel
theorem dX8_judge_22 : decode cX8_judge 22 = .ok (.invokestatic 136, 3) := by decide +kernel
theorem dX8_judge_25 : decode cX8_judge 25 = .ok (.ifCond .eq 14, 3) := by decide +kernel
theorem dX8_judge_28 : decode cX8_judge 28 = .ok (.iload 4, 2) := by decide +kernel
theorem dX8_judge_30 : decode cX8_judge 30 = .ok (.iconst 1, 1) := by decide +kernel
theorem dX8_judge_31 : decode cX8_judge 31 = .ok (.bipush 10, 2) := by decide +kernel
theorem dX8_judge_33 : decode cX8_judge 33 = .ok (.invokestatic 136, 3) := by decide +kernel
theorem dX8_judge_36 : decode cX8_judge 36 = .ok (.ifCond .ne 5, 3) := by decide +kernel
theorem dX8_judge_39 : decode cX8_judge 39 = .ok (.iconst (-1), 1) := by decide +kernel
theorem dX8_judge_40 : decode cX8_judge 40 = .ok (.ireturn, 1) := by decide +kernel
theorem dX8_judge_41 : decode cX8_judge 41 = .ok (.aload_n 0, 1) := by decide +kernel
theorem dX8_judge_42 : decode cX8_judge 42 = .ok (.getfield 86, 3) := by decide +kernel
theorem dX8_judge_45 : decode cX8_judge 45 = .ok (.iload_n 1, 1) := by decide +kernel
theorem dX8_judge_46 : decode cX8_judge 46 = .ok (.iload_n 2, 1) := by decide +kernel
theorem dX8_judge_47 : decode cX8_judge 47 = .ok (.iastore, 1) := by decide +kernel
theorem dX8_judge_48 : decode cX8_judge 48 = .ok (.aload_n 0, 1) := by decide +kernel
theorem dX8_judge_49 : decode cX8_judge 49 = .ok (.getfield 93, 3) := by decide +kernel
theorem dX8_judge_52 : decode cX8_judge 52 = .ok (.iload_n 1, 1) := by decide +kernel
theorem dX8_judge_53 : decode cX8_judge 53 = .ok (.iload_n 3, 1) := by decide +kernel
theorem dX8_judge_54 : decode cX8_judge 54 = .ok (.iastore, 1) := by decide +kernel
theorem dX8_judge_55 : decode cX8_judge 55 = .ok (.aload_n 0, 1) := by decide +kernel
theorem dX8_judge_56 : decode cX8_judge 56 = .ok (.getfield 96, 3) := by decide +kernel
theorem dX8_judge_59 : decode cX8_judge 59 = .ok (.iload_n 1, 1) := by decide +kernel
theorem dX8_judge_60 : decode cX8_judge 60 = .ok (.iload 4, 2) := by decide +kernel
theorem dX8_judge_62 : decode cX8_judge 62 = .ok (.iastore, 1) := by decide +kernel
theorem dX8_judge_63 : decode cX8_judge 63 = .ok (.iconst 1, 1) := by decide +kernel
theorem dX8_judge_64 : decode cX8_judge 64 = .ok (.ireturn, 1) := by decide +kernel
theorem dX8_kin_0 : decode cX8_kin 0 = .ok (.iload_n 1, 1) := by decide +kernel
theorem dX8_kin_1 : decode cX8_kin 1 = .ok (.invokestatic 147, 3) := by decide +kernel
theorem dX8_kin_4 : decode cX8_kin 4 = .ok (.ifCond .eq 22, 3) := by decide +kernel
theorem dX8_kin_7 : decode cX8_kin 7 = .ok (.iload_n 2, 1) := by decide +kernel
theorem dX8_kin_8 : decode cX8_kin 8 = .ok (.iconst 0, 1) := by decide +kernel
theorem dX8_kin_9 : decode cX8_kin 9 = .ok (.bipush 39, 2) := by decide +kernel
theorem dX8_kin_11 : decode cX8_kin 11 = .ok (.invokestatic 136, 3) := by decide +kernel
theorem dX8_kin_14 : decode cX8_kin 14 = .ok (.ifCond .eq 12, 3) := by decide +kernel
theorem dX8_kin_17 : decode cX8_kin 17 = .ok (.iload_n 3, 1) := by decide +kernel
theorem dX8_kin_18 : decode cX8_kin 18 = .ok (.iconst 0, 1) := by decide +kernel
theorem dX8_kin_19 : decode cX8_kin 19 = .ok (.iconst 1, 1) := by decide +kernel
theorem dX8_kin_20 : decode cX8_kin 20 = .ok (.invokestatic 136, 3) := by decide +kernel
theorem dX8_kin_23 : decode cX8_kin 23 = .ok (.ifCond .ne 5, 3) := by decide +kernel
theorem dX8_kin_26 : decode cX8_kin 26 = .ok (.iconst (-1), 1) := by decide +kernel
theorem dX8_kin_27 : decode cX8_kin 27 = .ok (.ireturn, 1) := by decide +kernel
theorem dX8_kin_28 : decode cX8_kin 28 = .ok (.aload_n 0, 1) := by decide +kernel
theorem dX8_kin_29 : decode cX8_kin 29 = .ok (.getfield 89, 3) := by decide +kernel
theorem dX8_kin_32 : decode cX8_kin 32 = .ok (.iload_n 1, 1) := by decide +kernel
theorem dX8_kin_33 : decode cX8_kin 33 = .ok (.laload, 1) := by decide +kernel
theorem dX8_kin_34 : decode cX8_kin 34 = .ok (.iload_n 2, 1) := by decide +kernel
theorem dX8_kin_35 : decode cX8_kin 35 = .ok (.lshr, 1) := by decide +kernel
theorem dX8_kin_36 : decode cX8_kin 36 = .ok (.lconst 1, 1) := by decide +kernel
theorem dX8_kin_37 : decode cX8_kin 37 = .ok (.land, 1) := by decide +kernel
theorem dX8_kin_38 : decode cX8_kin 38 = .ok (.l2i, 1) := by decide +kernel
theorem dX8_kin_39 : decode cX8_kin 39 = .ok (.istore 4, 2) := by decide +kernel
theorem dX8_kin_41 : decode cX8_kin 41 = .ok (.aload_n 0, 1) := by decide +kernel
theorem dX8_kin_42 : decode cX8_kin 42 = .ok (.getfield 89, 3) := by decide +kernel
theorem dX8_kin_45 : decode cX8_kin 45 = .ok (.iload_n 1, 1) := by decide +kernel
theorem dX8_kin_46 : decode cX8_kin 46 = .ok (.aload_n 0, 1) := by decide +kernel
theorem dX8_kin_47 : decode cX8_kin 47 = .ok (.getfield 89, 3) := by decide +kernel
theorem dX8_kin_50 : decode cX8_kin 50 = .ok (.iload_n 1, 1) := by decide +kernel
theorem dX8_kin_51 : decode cX8_kin 51 = .ok (.laload, 1) := by decide +kernel
theorem dX8_kin_52 : decode cX8_kin 52 = .ok (.lconst 1, 1) := by decide +kernel
theorem dX8_kin_53 : decode cX8_kin 53 = .ok (.iload_n 2, 1) := by decide +kernel
theorem dX8_kin_54 : decode cX8_kin 54 = .ok (.lshl, 1) := by decide +kernel
theorem dX8_kin_55 : decode cX8_kin 55 = .ok (.ldc2_w 151, 3) := by decide +kernel
theorem dX8_kin_58 : decode cX8_kin 58 = .ok (.lxor, 1) := by decide +kernel
theorem dX8_kin_59 : decode cX8_kin 59 = .ok (.land, 1) := by decide +kernel
theorem dX8_kin_60 : decode cX8_kin 60 = .ok (.iload_n 3, 1) := by decide +kernel
theorem dX8_kin_61 : decode cX8_kin 61 = .ok (.i2l, 1) := by decide +kernel
theorem dX8_kin_62 : decode cX8_kin 62 = .ok (.iload_n 2, 1) := by decide +kernel
theorem dX8_kin_63 : decode cX8_kin 63 = .ok (.lshl, 1) := by decide +kernel
theorem dX8_kin_64 : decode cX8_kin 64 = .ok (.lor, 1) := by decide +kernel
