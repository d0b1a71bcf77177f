theorem dX8_kin_65 : decode cX8_kin 65 = .ok (.lastore, 1) := by decide +kernel
theorem dX8_kin_66 : decode cX8_kin 66 = .ok (.iload 4, 2) := by decide +kernel
theorem dX8_kin_68 : decode cX8_kin 68 = .ok (.ireturn, 1) := by decide +kernel
theorem dX8_giveBack_0 : decode cX8_giveBack 0 = .ok (.iconst 0, 1) := by decide +kernel
theorem dX8_giveBack_1 : decode cX8_giveBack 1 = .ok (.istore_n 2, 1) := by decide +kernel
theorem dX8_giveBack_2 : decode cX8_giveBack 2 = .ok (.iconst 0, 1) := by decide +kernel
theorem dX8_giveBack_3 : decode cX8_giveBack 3 = .ok (.istore_n 3, 1) := by decide +kernel
theorem dX8_giveBack_4 : decode cX8_giveBack 4 = .ok (.iload_n 3, 1) := by decide +kernel
theorem dX8_giveBack_5 : decode cX8_giveBack 5 = .ok (.aload_n 0, 1) := by decide +kernel
theorem dX8_giveBack_6 : decode cX8_giveBack 6 = .ok (.getfield 153, 3) := by decide +kernel
theorem dX8_giveBack_9 : decode cX8_giveBack 9 = .ok (.if_icmp .ge 46, 3) := by decide +kernel
theorem dX8_giveBack_12 : decode cX8_giveBack 12 = .ok (.aload_n 0, 1) := by decide +kernel
theorem dX8_giveBack_13 : decode cX8_giveBack 13 = .ok (.getfield 103, 3) := by decide +kernel
theorem dX8_giveBack_16 : decode cX8_giveBack 16 = .ok (.iload_n 3, 1) := by decide +kernel
theorem dX8_giveBack_17 : decode cX8_giveBack 17 = .ok (.iaload, 1) := by decide +kernel
theorem dX8_giveBack_18 : decode cX8_giveBack 18 = .ok (.iload_n 1, 1) := by decide +kernel
theorem dX8_giveBack_19 : decode cX8_giveBack 19 = .ok (.if_icmp .eq 30, 3) := by decide +kernel
theorem dX8_giveBack_22 : decode cX8_giveBack 22 = .ok (.aload_n 0, 1) := by decide +kernel
theorem dX8_giveBack_23 : decode cX8_giveBack 23 = .ok (.getfield 103, 3) := by decide +kernel
theorem dX8_giveBack_26 : decode cX8_giveBack 26 = .ok (.iload_n 2, 1) := by decide +kernel
theorem dX8_giveBack_27 : decode cX8_giveBack 27 = .ok (.aload_n 0, 1) := by decide +kernel
theorem dX8_giveBack_28 : decode cX8_giveBack 28 = .ok (.getfield 103, 3) := by decide +kernel
theorem dX8_giveBack_31 : decode cX8_giveBack 31 = .ok (.iload_n 3, 1) := by decide +kernel
theorem dX8_giveBack_32 : decode cX8_giveBack 32 = .ok (.iaload, 1) := by decide +kernel
theorem dX8_giveBack_33 : decode cX8_giveBack 33 = .ok (.iastore, 1) := by decide +kernel
theorem dX8_giveBack_34 : decode cX8_giveBack 34 = .ok (.aload_n 0, 1) := by decide +kernel
theorem dX8_giveBack_35 : decode cX8_giveBack 35 = .ok (.getfield 106, 3) := by decide +kernel
theorem dX8_giveBack_38 : decode cX8_giveBack 38 = .ok (.iload_n 2, 1) := by decide +kernel
theorem dX8_giveBack_39 : decode cX8_giveBack 39 = .ok (.aload_n 0, 1) := by decide +kernel
theorem dX8_giveBack_40 : decode cX8_giveBack 40 = .ok (.getfield 106, 3) := by decide +kernel
theorem dX8_giveBack_43 : decode cX8_giveBack 43 = .ok (.iload_n 3, 1) := by decide +kernel
theorem dX8_giveBack_44 : decode cX8_giveBack 44 = .ok (.iaload, 1) := by decide +kernel
theorem dX8_giveBack_45 : decode cX8_giveBack 45 = .ok (.iastore, 1) := by decide +kernel
theorem dX8_giveBack_46 : decode cX8_giveBack 46 = .ok (.iinc 2 1, 3) := by decide +kernel
theorem dX8_giveBack_49 : decode cX8_giveBack 49 = .ok (.iinc 3 1, 3) := by decide +kernel
theorem dX8_giveBack_52 : decode cX8_giveBack 52 = .ok (.goto (-48), 3) := by decide +kernel
theorem dX8_giveBack_55 : decode cX8_giveBack 55 = .ok (.aload_n 0, 1) := by decide +kernel
theorem dX8_giveBack_56 : decode cX8_giveBack 56 = .ok (.iload_n 2, 1) := by decide +kernel
theorem dX8_giveBack_57 : decode cX8_giveBack 57 = .ok (.putfield 153, 3) := by decide +kernel
theorem dX8_giveBack_60 : decode cX8_giveBack 60 = .ok (.return_, 1) := by decide +kernel
theorem dX8_rest_0 : decode cX8_rest 0 = .ok (.iload_n 1, 1) := by decide +kernel
theorem dX8_rest_1 : decode cX8_rest 1 = .ok (.invokestatic 147, 3) := by decide +kernel
theorem dX8_rest_4 : decode cX8_rest 4 = .ok (.ifCond .eq 12, 3) := by decide +kernel
theorem dX8_rest_7 : decode cX8_rest 7 = .ok (.iload_n 2, 1) := by decide +kernel
theorem dX8_rest_8 : decode cX8_rest 8 = .ok (.iconst 0, 1) := by decide +kernel
theorem dX8_rest_9 : decode cX8_rest 9 = .ok (.iconst 1, 1) := by decide +kernel
theorem dX8_rest_10 : decode cX8_rest 10 = .ok (.invokestatic 136, 3) := by decide +kernel
theorem dX8_rest_13 : decode cX8_rest 13 = .ok (.ifCond .ne 5, 3) := by decide +kernel
theorem dX8_rest_16 : decode cX8_rest 16 = .ok (.iconst (-1), 1) := by decide +kernel
theorem dX8_rest_17 : decode cX8_rest 17 = .ok (.ireturn, 1) := by decide +kernel
theorem dX8_rest_18 : decode cX8_rest 18 = .ok (.aload_n 0, 1) := by decide +kernel
theorem dX8_rest_19 : decode cX8_rest 19 = .ok (.getfield 99, 3) := by decide +kernel
theorem dX8_rest_22 : decode cX8_rest 22 = .ok (.iload_n 1, 1) := by decide +kernel
theorem dX8_rest_23 : decode cX8_rest 23 = .ok (.baload, 1) := by decide +kernel
theorem dX8_rest_24 : decode cX8_rest 24 = .ok (.ifCond .eq 7, 3) := by decide +kernel
theorem dX8_rest_27 : decode cX8_rest 27 = .ok (.iconst 1, 1) := by decide +kernel
theorem dX8_rest_28 : decode cX8_rest 28 = .ok (.goto 4, 3) := by decide +kernel
theorem dX8_rest_31 : decode cX8_rest 31 = .ok (.iconst 0, 1) := by decide +kernel
theorem dX8_rest_32 : decode cX8_rest 32 = .ok (.istore_n 3, 1) := by decide +kernel
theorem dX8_rest_33 : decode cX8_rest 33 = .ok (.aload_n 0, 1) := by decide +kernel
theorem dX8_rest_34 : decode cX8_rest 34 = .ok (.getfield 99, 3) := by decide +kernel
theorem dX8_rest_37 : decode cX8_rest 37 = .ok (.iload_n 1, 1) := by decide +kernel
theorem dX8_rest_38 : decode cX8_rest 38 = .ok (.iload_n 2, 1) := by decide +kernel
theorem dX8_rest_39 : decode cX8_rest 39 = .ok (.iconst 1, 1) := by decide +kernel
theorem dX8_rest_40 : decode cX8_rest 40 = .ok (.if_icmp .ne 7, 3) := by decide +kernel
theorem dX8_rest_43 : decode cX8_rest 43 = .ok (.iconst 1, 1) := by decide +kernel
theorem dX8_rest_44 : decode cX8_rest 44 = .ok (.goto 4, 3) := by decide +kernel
theorem dX8_rest_47 : decode cX8_rest 47 = .ok (.iconst 0, 1) := by decide +kernel
theorem dX8_rest_48 : decode cX8_rest 48 = .ok (.bastore, 1) := by decide +kernel
theorem dX8_rest_49 : decode cX8_rest 49 = .ok (.iload_n 2, 1) := by decide +kernel
theorem dX8_rest_50 : decode cX8_rest 50 = .ok (.iconst 1, 1) := by decide +kernel
theorem dX8_rest_51 : decode cX8_rest 51 = .ok (.if_icmp .ne 8, 3) := by decide +kernel
theorem dX8_rest_54 : decode cX8_rest 54 = .ok (.aload_n 0, 1) := by decide +kernel
theorem dX8_rest_55 : decode cX8_rest 55 = .ok (.iload_n 1, 1) := by decide +kernel
theorem dX8_rest_56 : decode cX8_rest 56 = .ok (.invokevirtual 156, 3) := by decide +kernel
theorem dX8_rest_59 : decode cX8_rest 59 = .ok (.iload_n 3, 1) := by decide +kernel
theorem dX8_rest_60 : decode cX8_rest 60 = .ok (.ireturn, 1) := by decide +kernel
theorem dX8_isAsking_0 : decode cX8_isAsking 0 = .ok (.aload_n 0, 1) := by decide +kernel
theorem dX8_isAsking_1 : decode cX8_isAsking 1 = .ok (.getfield 50, 3) := by decide +kernel
theorem dX8_isAsking_4 : decode cX8_isAsking 4 = .ok (.iload_n 1, 1) := by decide +kernel
theorem dX8_isAsking_5 : decode cX8_isAsking 5 = .ok (.iaload, 1) := by decide +kernel
theorem dX8_isAsking_6 : decode cX8_isAsking 6 = .ok (.ifCond .eq 13, 3) := by decide +kernel
theorem dX8_isAsking_9 : decode cX8_isAsking 9 = .ok (.aload_n 0, 1) := by decide +kernel
theorem dX8_isAsking_10 : decode cX8_isAsking 10 = .ok (.getfield 50, 3) := by decide +kernel
theorem dX8_isAsking_13 : decode cX8_isAsking 13 = .ok (.iload_n 1, 1) := by decide +kernel
theorem dX8_isAsking_14 : decode cX8_isAsking 14 = .ok (.iaload, 1) := by decide +kernel
theorem dX8_isAsking_15 : decode cX8_isAsking 15 = .ok (.iconst 3, 1) := by decide +kernel
theorem dX8_isAsking_16 : decode cX8_isAsking 16 = .ok (.if_icmp .ne 7, 3) := by decide +kernel
theorem dX8_isAsking_19 : decode cX8_isAsking 19 = .ok (.iconst 1, 1) := by decide +kernel
theorem dX8_isAsking_20 : decode cX8_isAsking 20 = .ok (.goto 4, 3) := by decide +kernel
theorem dX8_isAsking_23 : decode cX8_isAsking 23 = .ok (.iconst 0, 1) := by decide +kernel
theorem dX8_isAsking_24 : decode cX8_isAsking 24 = .ok (.ireturn, 1) := by decide +kernel
theorem dX8_timeOf_0 : decode cX8_timeOf 0 = .ok (.aload_n 0, 1) := by decide +kernel
theorem dX8_timeOf_1 : decode cX8_timeOf 1 = .ok (.getfield 50, 3) := by decide +kernel
theorem dX8_timeOf_4 : decode cX8_timeOf 4 = .ok (.iload_n 1, 1) := by decide +kernel
theorem dX8_timeOf_5 : decode cX8_timeOf 5 = .ok (.iaload, 1) := by decide +kernel
theorem dX8_timeOf_6 : decode cX8_timeOf 6 = .ok (.iconst 3, 1) := by decide +kernel
theorem dX8_timeOf_7 : decode cX8_timeOf 7 = .ok (.if_icmp .eq 23, 3) := by decide +kernel
theorem dX8_timeOf_10 : decode cX8_timeOf 10 = .ok (.aload_n 0, 1) := by decide +kernel
theorem dX8_timeOf_11 : decode cX8_timeOf 11 = .ok (.getfield 50, 3) := by decide +kernel
theorem dX8_timeOf_14 : decode cX8_timeOf 14 = .ok (.iload_n 1, 1) := by decide +kernel
theorem dX8_timeOf_15 : decode cX8_timeOf 15 = .ok (.iaload, 1) := by decide +kernel
theorem dX8_timeOf_16 : decode cX8_timeOf 16 = .ok (.iconst 4, 1) := by decide +kernel
theorem dX8_timeOf_17 : decode cX8_timeOf 17 = .ok (.if_icmp .eq 13, 3) := by decide +kernel
theorem dX8_timeOf_20 : decode cX8_timeOf 20 = .ok (.aload_n 0, 1) := by decide +kernel
theorem dX8_timeOf_21 : decode cX8_timeOf 21 = .ok (.getfield 50, 3) := by decide +kernel
theorem dX8_timeOf_24 : decode cX8_timeOf 24 = .ok (.iload_n 1, 1) := by decide +kernel
theorem dX8_timeOf_25 : decode cX8_timeOf 25 = .ok (.iaload, 1) := by decide +kernel
theorem dX8_timeOf_26 : decode cX8_timeOf 26 = .ok (.iconst 5, 1) := by decide +kernel
theorem dX8_timeOf_27 : decode cX8_timeOf 27 = .ok (.if_icmp .ne 7, 3) := by decide +kernel
theorem dX8_timeOf_30 : decode cX8_timeOf 30 = .ok (.iconst 1, 1) := by decide +kernel
theorem dX8_timeOf_31 : decode cX8_timeOf 31 = .ok (.goto 4, 3) := by decide +kernel
theorem dX8_timeOf_34 : decode cX8_timeOf 34 = .ok (.iconst 0, 1) := by decide +kernel
theorem dX8_timeOf_35 : decode cX8_timeOf 35 = .ok (.ireturn, 1) := by decide +kernel
theorem dX8_votesOf_0 : decode cX8_votesOf 0 = .ok (.iconst 0, 1) := by decide +kernel
theorem dX8_votesOf_1 : decode cX8_votesOf 1 = .ok (.istore_n 2, 1) := by decide +kernel
theorem dX8_votesOf_2 : decode cX8_votesOf 2 = .ok (.iconst 0, 1) := by decide +kernel
theorem dX8_votesOf_3 : decode cX8_votesOf 3 = .ok (.istore_n 3, 1) := by decide +kernel
theorem dX8_votesOf_4 : decode cX8_votesOf 4 = .ok (.iload_n 3, 1) := by decide +kernel
theorem dX8_votesOf_5 : decode cX8_votesOf 5 = .ok (.aload_n 0, 1) := by decide +kernel
theorem dX8_votesOf_6 : decode cX8_votesOf 6 = .ok (.getfield 160, 3) := by decide +kernel
theorem dX8_votesOf_9 : decode cX8_votesOf 9 = .ok (.if_icmp .ge 41, 3) := by decide +kernel
theorem dX8_votesOf_12 : decode cX8_votesOf 12 = .ok (.iload_n 2, 1) := by decide +kernel
theorem dX8_votesOf_13 : decode cX8_votesOf 13 = .ok (.aload_n 0, 1) := by decide +kernel
theorem dX8_votesOf_14 : decode cX8_votesOf 14 = .ok (.getfield 112, 3) := by decide +kernel
theorem dX8_votesOf_17 : decode cX8_votesOf 17 = .ok (.iload_n 3, 1) := by decide +kernel
theorem dX8_votesOf_18 : decode cX8_votesOf 18 = .ok (.iaload, 1) := by decide +kernel
theorem dX8_votesOf_19 : decode cX8_votesOf 19 = .ok (.iload_n 1, 1) := by decide +kernel
theorem dX8_votesOf_20 : decode cX8_votesOf 20 = .ok (.if_icmp .ne 21, 3) := by decide +kernel
theorem dX8_votesOf_23 : decode cX8_votesOf 23 = .ok (.aload_n 0, 1) := by decide +kernel
theorem dX8_votesOf_24 : decode cX8_votesOf 24 = .ok (.getfield 115, 3) := by decide +kernel
theorem dX8_votesOf_27 : decode cX8_votesOf 27 = .ok (.iload_n 3, 1) := by decide +kernel
theorem dX8_votesOf_28 : decode cX8_votesOf 28 = .ok (.iaload, 1) := by decide +kernel
theorem dX8_votesOf_29 : decode cX8_votesOf 29 = .ok (.aload_n 0, 1) := by decide +kernel
theorem dX8_votesOf_30 : decode cX8_votesOf 30 = .ok (.iload_n 1, 1) := by decide +kernel
theorem dX8_votesOf_31 : decode cX8_votesOf 31 = .ok (.invokevirtual 163, 3) := by decide +kernel
theorem dX8_votesOf_34 : decode cX8_votesOf 34 = .ok (.if_icmp .ne 7, 3) := by decide +kernel
theorem dX8_votesOf_37 : decode cX8_votesOf 37 = .ok (.iconst 1, 1) := by decide +kernel
theorem dX8_votesOf_38 : decode cX8_votesOf 38 = .ok (.goto 4, 3) := by decide +kernel
theorem dX8_votesOf_41 : decode cX8_votesOf 41 = .ok (.iconst 0, 1) := by decide +kernel
theorem dX8_votesOf_42 : decode cX8_votesOf 42 = .ok (.iadd, 1) := by decide +kernel
theorem dX8_votesOf_43 : decode cX8_votesOf 43 = .ok (.istore_n 2, 1) := by decide +kernel
theorem dX8_votesOf_44 : decode cX8_votesOf 44 = .ok (.iinc 3 1, 3) := by decide +kernel
theorem dX8_votesOf_47 : decode cX8_votesOf 47 = .ok (.goto (-43), 3) := by decide +kernel
theorem dX8_votesOf_50 : decode cX8_votesOf 50 = .ok (.iload_n 2, 1) := by decide +kernel
theorem dX8_votesOf_51 : decode cX8_votesOf 51 = .ok (.ireturn, 1) := by decide +kernel
theorem dX8_giftsOf_0 : decode cX8_giftsOf 0 = .ok (.iconst 0, 1) := by decide +kernel
theorem dX8_giftsOf_1 : decode cX8_giftsOf 1 = .ok (.istore_n 3, 1) := by decide +kernel
theorem dX8_giftsOf_2 : decode cX8_giftsOf 2 = .ok (.iconst 0, 1) := by decide +kernel
theorem dX8_giftsOf_3 : decode cX8_giftsOf 3 = .ok (.istore 4, 2) := by decide +kernel
theorem dX8_giftsOf_5 : decode cX8_giftsOf 5 = .ok (.iload 4, 2) := by decide +kernel
theorem dX8_giftsOf_7 : decode cX8_giftsOf 7 = .ok (.aload_n 0, 1) := by decide +kernel
theorem dX8_giftsOf_8 : decode cX8_giftsOf 8 = .ok (.getfield 153, 3) := by decide +kernel
theorem dX8_giftsOf_11 : decode cX8_giftsOf 11 = .ok (.if_icmp .ge 47, 3) := by decide +kernel
theorem dX8_giftsOf_14 : decode cX8_giftsOf 14 = .ok (.iload_n 3, 1) := by decide +kernel
theorem dX8_giftsOf_15 : decode cX8_giftsOf 15 = .ok (.iload_n 1, 1) := by decide +kernel
theorem dX8_giftsOf_16 : decode cX8_giftsOf 16 = .ok (.ifCond .lt 14, 3) := by decide +kernel
theorem dX8_giftsOf_19 : decode cX8_giftsOf 19 = .ok (.aload_n 0, 1) := by decide +kernel
theorem dX8_giftsOf_20 : decode cX8_giftsOf 20 = .ok (.getfield 103, 3) := by decide +kernel
theorem dX8_giftsOf_23 : decode cX8_giftsOf 23 = .ok (.iload 4, 2) := by decide +kernel
theorem dX8_giftsOf_25 : decode cX8_giftsOf 25 = .ok (.iaload, 1) := by decide +kernel
theorem dX8_giftsOf_26 : decode cX8_giftsOf 26 = .ok (.iload_n 1, 1) := by decide +kernel
theorem dX8_giftsOf_27 : decode cX8_giftsOf 27 = .ok (.if_icmp .ne 22, 3) := by decide +kernel
theorem dX8_giftsOf_30 : decode cX8_giftsOf 30 = .ok (.iload_n 2, 1) := by decide +kernel
theorem dX8_giftsOf_31 : decode cX8_giftsOf 31 = .ok (.ifCond .lt 14, 3) := by decide +kernel
theorem dX8_giftsOf_34 : decode cX8_giftsOf 34 = .ok (.aload_n 0, 1) := by decide +kernel
theorem dX8_giftsOf_35 : decode cX8_giftsOf 35 = .ok (.getfield 106, 3) := by decide +kernel
theorem dX8_giftsOf_38 : decode cX8_giftsOf 38 = .ok (.iload 4, 2) := by decide +kernel
theorem dX8_giftsOf_40 : decode cX8_giftsOf 40 = .ok (.iaload, 1) := by decide +kernel
theorem dX8_giftsOf_41 : decode cX8_giftsOf 41 = .ok (.iload_n 2, 1) := by decide +kernel
theorem dX8_giftsOf_42 : decode cX8_giftsOf 42 = .ok (.if_icmp .ne 7, 3) := by decide +kernel
theorem dX8_giftsOf_45 : decode cX8_giftsOf 45 = .ok (.iconst 1, 1) := by decide +kernel
theorem dX8_giftsOf_46 : decode cX8_giftsOf 46 = .ok (.goto 4, 3) := by decide +kernel
theorem dX8_giftsOf_49 : decode cX8_giftsOf 49 = .ok (.iconst 0, 1) := by decide +kernel
theorem dX8_giftsOf_50 : decode cX8_giftsOf 50 = .ok (.iadd, 1) := by decide +kernel
theorem dX8_giftsOf_51 : decode cX8_giftsOf 51 = .ok (.istore_n 3, 1) := by decide +kernel
theorem dX8_giftsOf_52 : decode cX8_giftsOf 52 = .ok (.iinc 4 1, 3) := by decide +kernel
theorem dX8_giftsOf_55 : decode cX8_giftsOf 55 = .ok (.goto (-50), 3) := by decide +kernel
theorem dX8_giftsOf_58 : decode cX8_giftsOf 58 = .ok (.iload_n 3, 1) := by decide +kernel
theorem dX8_giftsOf_59 : decode cX8_giftsOf 59 = .ok (.ireturn, 1) := by decide +kernel
theorem dX8_mayHave_0 : decode cX8_mayHave 0 = .ok (.aload_n 0, 1) := by decide +kernel
theorem dX8_mayHave_1 : decode cX8_mayHave 1 = .ok (.iload_n 2, 1) := by decide +kernel
theorem dX8_mayHave_2 : decode cX8_mayHave 2 = .ok (.invokevirtual 167, 3) := by decide +kernel
theorem dX8_mayHave_5 : decode cX8_mayHave 5 = .ok (.ifCond .eq 55, 3) := by decide +kernel
theorem dX8_mayHave_8 : decode cX8_mayHave 8 = .ok (.aload_n 0, 1) := by decide +kernel
theorem dX8_mayHave_9 : decode cX8_mayHave 9 = .ok (.getfield 99, 3) := by decide +kernel
theorem dX8_mayHave_12 : decode cX8_mayHave 12 = .ok (.iload_n 1, 1) := by decide +kernel
theorem dX8_mayHave_13 : decode cX8_mayHave 13 = .ok (.baload, 1) := by decide +kernel
theorem dX8_mayHave_14 : decode cX8_mayHave 14 = .ok (.ifCond .ne 46, 3) := by decide +kernel
theorem dX8_mayHave_17 : decode cX8_mayHave 17 = .ok (.aload_n 0, 1) := by decide +kernel
theorem dX8_mayHave_18 : decode cX8_mayHave 18 = .ok (.getfield 86, 3) := by decide +kernel
theorem dX8_mayHave_21 : decode cX8_mayHave 21 = .ok (.iload_n 1, 1) := by decide +kernel
theorem dX8_mayHave_22 : decode cX8_mayHave 22 = .ok (.iaload, 1) := by decide +kernel
theorem dX8_mayHave_23 : decode cX8_mayHave 23 = .ok (.aload_n 0, 1) := by decide +kernel
theorem dX8_mayHave_24 : decode cX8_mayHave 24 = .ok (.getfield 47, 3) := by decide +kernel
theorem dX8_mayHave_27 : decode cX8_mayHave 27 = .ok (.iload_n 2, 1) := by decide +kernel
theorem dX8_mayHave_28 : decode cX8_mayHave 28 = .ok (.iaload, 1) := by decide +kernel
theorem dX8_mayHave_29 : decode cX8_mayHave 29 = .ok (.ishr, 1) := by decide +kernel
theorem dX8_mayHave_30 : decode cX8_mayHave 30 = .ok (.iconst 1, 1) := by decide +kernel
theorem dX8_mayHave_31 : decode cX8_mayHave 31 = .ok (.iand, 1) := by decide +kernel
theorem dX8_mayHave_32 : decode cX8_mayHave 32 = .ok (.ifCond .eq 28, 3) := by decide +kernel
theorem dX8_mayHave_35 : decode cX8_mayHave 35 = .ok (.aload_n 0, 1) := by decide +kernel
theorem dX8_mayHave_36 : decode cX8_mayHave 36 = .ok (.getfield 89, 3) := by decide +kernel
theorem dX8_mayHave_39 : decode cX8_mayHave 39 = .ok (.iload_n 1, 1) := by decide +kernel
theorem dX8_mayHave_40 : decode cX8_mayHave 40 = .ok (.laload, 1) := by decide +kernel
theorem dX8_mayHave_41 : decode cX8_mayHave 41 = .ok (.aload_n 0, 1) := by decide +kernel
theorem dX8_mayHave_42 : decode cX8_mayHave 42 = .ok (.getfield 32, 3) := by decide +kernel
theorem dX8_mayHave_45 : decode cX8_mayHave 45 = .ok (.aload_n 0, 1) := by decide +kernel
theorem dX8_mayHave_46 : decode cX8_mayHave 46 = .ok (.getfield 44, 3) := by decide +kernel
theorem dX8_mayHave_49 : decode cX8_mayHave 49 = .ok (.iload_n 2, 1) := by decide +kernel
theorem dX8_mayHave_50 : decode cX8_mayHave 50 = .ok (.iaload, 1) := by decide +kernel
theorem dX8_mayHave_51 : decode cX8_mayHave 51 = .ok (.iaload, 1) := by decide +kernel
theorem dX8_mayHave_52 : decode cX8_mayHave 52 = .ok (.lshr, 1) := by decide +kernel
theorem dX8_mayHave_53 : decode cX8_mayHave 53 = .ok (.lconst 1, 1) := by decide +kernel
theorem dX8_mayHave_54 : decode cX8_mayHave 54 = .ok (.land, 1) := by decide +kernel
theorem dX8_mayHave_55 : decode cX8_mayHave 55 = .ok (.lconst 1, 1) := by decide +kernel
theorem dX8_mayHave_56 : decode cX8_mayHave 56 = .ok (.lcmp, 1) := by decide +kernel
theorem dX8_mayHave_57 : decode cX8_mayHave 57 = .ok (.ifCond .ne 5, 3) := by decide +kernel
theorem dX8_mayHave_60 : decode cX8_mayHave 60 = .ok (.iconst 0, 1) := by decide +kernel
theorem dX8_mayHave_61 : decode cX8_mayHave 61 = .ok (.ireturn, 1) := by decide +kernel
theorem dX8_mayHave_62 : decode cX8_mayHave 62 = .ok (.iconst 0, 1) := by decide +kernel
theorem dX8_mayHave_63 : decode cX8_mayHave 63 = .ok (.istore_n 3, 1) := by decide +kernel
theorem dX8_mayHave_64 : decode cX8_mayHave 64 = .ok (.iload_n 3, 1) := by decide +kernel
theorem dX8_mayHave_65 : decode cX8_mayHave 65 = .ok (.aload_n 0, 1) := by decide +kernel
theorem dX8_mayHave_66 : decode cX8_mayHave 66 = .ok (.getfield 160, 3) := by decide +kernel
theorem dX8_mayHave_69 : decode cX8_mayHave 69 = .ok (.if_icmp .ge 31, 3) := by decide +kernel
theorem dX8_mayHave_72 : decode cX8_mayHave 72 = .ok (.aload_n 0, 1) := by decide +kernel
theorem dX8_mayHave_73 : decode cX8_mayHave 73 = .ok (.getfield 109, 3) := by decide +kernel
theorem dX8_mayHave_76 : decode cX8_mayHave 76 = .ok (.iload_n 3, 1) := by decide +kernel
theorem dX8_mayHave_77 : decode cX8_mayHave 77 = .ok (.iaload, 1) := by decide +kernel
theorem dX8_mayHave_78 : decode cX8_mayHave 78 = .ok (.iload_n 1, 1) := by decide +kernel
theorem dX8_mayHave_79 : decode cX8_mayHave 79 = .ok (.if_icmp .ne 15, 3) := by decide +kernel
theorem dX8_mayHave_82 : decode cX8_mayHave 82 = .ok (.aload_n 0, 1) := by decide +kernel
theorem dX8_mayHave_83 : decode cX8_mayHave 83 = .ok (.getfield 112, 3) := by decide +kernel
theorem dX8_mayHave_86 : decode cX8_mayHave 86 = .ok (.iload_n 3, 1) := by decide +kernel
theorem dX8_mayHave_87 : decode cX8_mayHave 87 = .ok (.iaload, 1) := by decide +kernel
theorem dX8_mayHave_88 : decode cX8_mayHave 88 = .ok (.iload_n 2, 1) := by decide +kernel
theorem dX8_mayHave_89 : decode cX8_mayHave 89 = .ok (.if_icmp .ne 5, 3) := by decide +kernel
theorem dX8_mayHave_92 : decode cX8_mayHave 92 = .ok (.iconst 0, 1) := by decide +kernel
theorem dX8_mayHave_93 : decode cX8_mayHave 93 = .ok (.ireturn, 1) := by decide +kernel
theorem dX8_mayHave_94 : decode cX8_mayHave 94 = .ok (.iinc 3 1, 3) := by decide +kernel
theorem dX8_mayHave_97 : decode cX8_mayHave 97 = .ok (.goto (-33), 3) := by decide +kernel
theorem dX8_mayHave_100 : decode cX8_mayHave 100 = .ok (.aload_n 0, 1) := by decide +kernel
theorem dX8_mayHave_101 : decode cX8_mayHave 101 = .ok (.iload_n 1, 1) := by decide +kernel
theorem dX8_mayHave_102 : decode cX8_mayHave 102 = .ok (.iload_n 2, 1) := by decide +kernel
theorem dX8_mayHave_103 : decode cX8_mayHave 103 = .ok (.invokevirtual 170, 3) := by decide +kernel
theorem dX8_mayHave_106 : decode cX8_mayHave 106 = .ok (.ifCond .ne 43, 3) := by decide +kernel
theorem dX8_mayHave_109 : decode cX8_mayHave 109 = .ok (.aload_n 0, 1) := by decide +kernel
theorem dX8_mayHave_110 : decode cX8_mayHave 110 = .ok (.iload_n 1, 1) := by decide +kernel
theorem dX8_mayHave_111 : decode cX8_mayHave 111 = .ok (.iconst (-1), 1) := by decide +kernel
theorem dX8_mayHave_112 : decode cX8_mayHave 112 = .ok (.invokevirtual 170, 3) := by decide +kernel
theorem dX8_mayHave_115 : decode cX8_mayHave 115 = .ok (.aload_n 0, 1) := by decide +kernel
theorem dX8_mayHave_116 : decode cX8_mayHave 116 = .ok (.getfield 93, 3) := by decide +kernel
theorem dX8_mayHave_119 : decode cX8_mayHave 119 = .ok (.iload_n 1, 1) := by decide +kernel
theorem dX8_mayHave_120 : decode cX8_mayHave 120 = .ok (.iaload, 1) := by decide +kernel
theorem dX8_mayHave_121 : decode cX8_mayHave 121 = .ok (.if_icmp .ge 28, 3) := by decide +kernel
theorem dX8_mayHave_124 : decode cX8_mayHave 124 = .ok (.aload_n 0, 1) := by decide +kernel
theorem dX8_mayHave_125 : decode cX8_mayHave 125 = .ok (.iload_n 2, 1) := by decide +kernel
theorem dX8_mayHave_126 : decode cX8_mayHave 126 = .ok (.invokevirtual 174, 3) := by decide +kernel
theorem dX8_mayHave_129 : decode cX8_mayHave 129 = .ok (.aload_n 0, 1) := by decide +kernel
theorem dX8_mayHave_130 : decode cX8_mayHave 130 = .ok (.iconst (-1), 1) := by decide +kernel
theorem dX8_mayHave_131 : decode cX8_mayHave 131 = .ok (.iload_n 2, 1) := by decide +kernel
theorem dX8_mayHave_132 : decode cX8_mayHave 132 = .ok (.invokevirtual 170, 3) := by decide +kernel
theorem dX8_mayHave_135 : decode cX8_mayHave 135 = .ok (.iadd, 1) := by decide +kernel
theorem dX8_mayHave_136 : decode cX8_mayHave 136 = .ok (.aload_n 0, 1) := by decide +kernel
theorem dX8_mayHave_137 : decode cX8_mayHave 137 = .ok (.getfield 62, 3) := by decide +kernel
theorem dX8_mayHave_140 : decode cX8_mayHave 140 = .ok (.iload_n 2, 1) := by decide +kernel
theorem dX8_mayHave_141 : decode cX8_mayHave 141 = .ok (.iaload, 1) := by decide +kernel
theorem dX8_mayHave_142 : decode cX8_mayHave 142 = .ok (.if_icmp .ge 7, 3) := by decide +kernel
theorem dX8_mayHave_145 : decode cX8_mayHave 145 = .ok (.iconst 1, 1) := by decide +kernel
theorem dX8_mayHave_146 : decode cX8_mayHave 146 = .ok (.goto 4, 3) := by decide +kernel
theorem dX8_mayHave_149 : decode cX8_mayHave 149 = .ok (.iconst 0, 1) := by decide +kernel
theorem dX8_mayHave_150 : decode cX8_mayHave 150 = .ok (.ireturn, 1) := by decide +kernel
theorem dX8_nextOf_0 : decode cX8_nextOf 0 = .ok (.bipush (-4), 2) := by decide +kernel
theorem dX8_nextOf_2 : decode cX8_nextOf 2 = .ok (.istore_n 2, 1) := by decide +kernel
theorem dX8_nextOf_3 : decode cX8_nextOf 3 = .ok (.iconst 0, 1) := by decide +kernel
theorem dX8_nextOf_4 : decode cX8_nextOf 4 = .ok (.istore_n 3, 1) := by decide +kernel
theorem dX8_nextOf_5 : decode cX8_nextOf 5 = .ok (.iload_n 3, 1) := by decide +kernel
theorem dX8_nextOf_6 : decode cX8_nextOf 6 = .ok (.aload_n 0, 1) := by decide +kernel
theorem dX8_nextOf_7 : decode cX8_nextOf 7 = .ok (.getfield 133, 3) := by decide +kernel
theorem dX8_nextOf_10 : decode cX8_nextOf 10 = .ok (.if_icmp .ge 73, 3) := by decide +kernel
theorem dX8_nextOf_13 : decode cX8_nextOf 13 = .ok (.aload_n 0, 1) := by decide +kernel
theorem dX8_nextOf_14 : decode cX8_nextOf 14 = .ok (.iload_n 1, 1) := by decide +kernel
theorem dX8_nextOf_15 : decode cX8_nextOf 15 = .ok (.iload_n 3, 1) := by decide +kernel
theorem dX8_nextOf_16 : decode cX8_nextOf 16 = .ok (.invokevirtual 177, 3) := by decide +kernel
theorem dX8_nextOf_19 : decode cX8_nextOf 19 = .ok (.ifCond .eq 58, 3) := by decide +kernel
theorem dX8_nextOf_22 : decode cX8_nextOf 22 = .ok (.iload_n 2, 1) := by decide +kernel
theorem dX8_nextOf_23 : decode cX8_nextOf 23 = .ok (.ifCond .lt 52, 3) := by decide +kernel
theorem dX8_nextOf_26 : decode cX8_nextOf 26 = .ok (.aload_n 0, 1) := by decide +kernel
theorem dX8_nextOf_27 : decode cX8_nextOf 27 = .ok (.getfield 13, 3) := by decide +kernel
theorem dX8_nextOf_30 : decode cX8_nextOf 30 = .ok (.aload_n 0, 1) := by decide +kernel
theorem dX8_nextOf_31 : decode cX8_nextOf 31 = .ok (.getfield 47, 3) := by decide +kernel
theorem dX8_nextOf_34 : decode cX8_nextOf 34 = .ok (.iload_n 3, 1) := by decide +kernel
theorem dX8_nextOf_35 : decode cX8_nextOf 35 = .ok (.iaload, 1) := by decide +kernel
theorem dX8_nextOf_36 : decode cX8_nextOf 36 = .ok (.iaload, 1) := by decide +kernel
theorem dX8_nextOf_37 : decode cX8_nextOf 37 = .ok (.aload_n 0, 1) := by decide +kernel
theorem dX8_nextOf_38 : decode cX8_nextOf 38 = .ok (.getfield 38, 3) := by decide +kernel
theorem dX8_nextOf_41 : decode cX8_nextOf 41 = .ok (.aload_n 0, 1) := by decide +kernel
theorem dX8_nextOf_42 : decode cX8_nextOf 42 = .ok (.getfield 44, 3) := by decide +kernel
theorem dX8_nextOf_45 : decode cX8_nextOf 45 = .ok (.iload_n 3, 1) := by decide +kernel
theorem dX8_nextOf_46 : decode cX8_nextOf 46 = .ok (.iaload, 1) := by decide +kernel
theorem dX8_nextOf_47 : decode cX8_nextOf 47 = .ok (.iaload, 1) := by decide +kernel
theorem dX8_nextOf_48 : decode cX8_nextOf 48 = .ok (.imul, 1) := by decide +kernel
theorem dX8_nextOf_49 : decode cX8_nextOf 49 = .ok (.aload_n 0, 1) := by decide +kernel
theorem dX8_nextOf_50 : decode cX8_nextOf 50 = .ok (.getfield 13, 3) := by decide +kernel
theorem dX8_nextOf_53 : decode cX8_nextOf 53 = .ok (.aload_n 0, 1) := by decide +kernel
theorem dX8_nextOf_54 : decode cX8_nextOf 54 = .ok (.getfield 47, 3) := by decide +kernel
theorem dX8_nextOf_57 : decode cX8_nextOf 57 = .ok (.iload_n 2, 1) := by decide +kernel
theorem dX8_nextOf_58 : decode cX8_nextOf 58 = .ok (.iaload, 1) := by decide +kernel
theorem dX8_nextOf_59 : decode cX8_nextOf 59 = .ok (.iaload, 1) := by decide +kernel
theorem dX8_nextOf_60 : decode cX8_nextOf 60 = .ok (.aload_n 0, 1) := by decide +kernel
theorem dX8_nextOf_61 : decode cX8_nextOf 61 = .ok (.getfield 38, 3) := by decide +kernel
theorem dX8_nextOf_64 : decode cX8_nextOf 64 = .ok (.aload_n 0, 1) := by decide +kernel
theorem dX8_nextOf_65 : decode cX8_nextOf 65 = .ok (.getfield 44, 3) := by decide +kernel
theorem dX8_nextOf_68 : decode cX8_nextOf 68 = .ok (.iload_n 2, 1) := by decide +kernel
theorem dX8_nextOf_69 : decode cX8_nextOf 69 = .ok (.iaload, 1) := by decide +kernel
theorem dX8_nextOf_70 : decode cX8_nextOf 70 = .ok (.iaload, 1) := by decide +kernel
theorem dX8_nextOf_71 : decode cX8_nextOf 71 = .ok (.imul, 1) := by decide +kernel
theorem dX8_nextOf_72 : decode cX8_nextOf 72 = .ok (.if_icmp .le 5, 3) := by decide +kernel
theorem dX8_nextOf_75 : decode cX8_nextOf 75 = .ok (.iload_n 3, 1) := by decide +kernel
theorem dX8_nextOf_76 : decode cX8_nextOf 76 = .ok (.istore_n 2, 1) := by decide +kernel
theorem dX8_nextOf_77 : decode cX8_nextOf 77 = .ok (.iinc 3 1, 3) := by decide +kernel
theorem dX8_nextOf_80 : decode cX8_nextOf 80 = .ok (.goto (-75), 3) := by decide +kernel
theorem dX8_nextOf_83 : decode cX8_nextOf 83 = .ok (.iload_n 2, 1) := by decide +kernel
theorem dX8_nextOf_84 : decode cX8_nextOf 84 = .ok (.ireturn, 1) := by decide +kernel
theorem dX8_next_0 : decode cX8_next 0 = .ok (.iload_n 1, 1) := by decide +kernel
theorem dX8_next_1 : decode cX8_next 1 = .ok (.invokestatic 147, 3) := by decide +kernel
theorem dX8_next_4 : decode cX8_next 4 = .ok (.ifCond .eq 11, 3) := by decide +kernel
theorem dX8_next_7 : decode cX8_next 7 = .ok (.aload_n 0, 1) := by decide +kernel
theorem dX8_next_8 : decode cX8_next 8 = .ok (.iload_n 1, 1) := by decide +kernel
theorem dX8_next_9 : decode cX8_next 9 = .ok (.invokevirtual 181, 3) := by decide +kernel
theorem dX8_next_12 : decode cX8_next 12 = .ok (.goto 4, 3) := by decide +kernel
theorem dX8_next_15 : decode cX8_next 15 = .ok (.iconst (-1), 1) := by decide +kernel
theorem dX8_next_16 : decode cX8_next 16 = .ok (.ireturn, 1) := by decide +kernel
theorem dX8_give_0 : decode cX8_give 0 = .ok (.iload_n 1, 1) := by decide +kernel
theorem dX8_give_1 : decode cX8_give 1 = .ok (.invokestatic 147, 3) := by decide +kernel
theorem dX8_give_4 : decode cX8_give 4 = .ok (.ifCond .ne 5, 3) := by decide +kernel
theorem dX8_give_7 : decode cX8_give 7 = .ok (.iconst (-1), 1) := by decide +kernel
theorem dX8_give_8 : decode cX8_give 8 = .ok (.ireturn, 1) := by decide +kernel
theorem dX8_give_9 : decode cX8_give 9 = .ok (.aload_n 0, 1) := by decide +kernel
theorem dX8_give_10 : decode cX8_give 10 = .ok (.iload_n 1, 1) := by decide +kernel
theorem dX8_give_11 : decode cX8_give 11 = .ok (.invokevirtual 181, 3) := by decide +kernel
theorem dX8_give_14 : decode cX8_give 14 = .ok (.istore_n 2, 1) := by decide +kernel
theorem dX8_give_15 : decode cX8_give 15 = .ok (.iload_n 2, 1) := by decide +kernel
theorem dX8_give_16 : decode cX8_give 16 = .ok (.ifCond .lt 33, 3) := by decide +kernel
theorem dX8_give_19 : decode cX8_give 19 = .ok (.aload_n 0, 1) := by decide +kernel
theorem dX8_give_20 : decode cX8_give 20 = .ok (.getfield 103, 3) := by decide +kernel
theorem dX8_give_23 : decode cX8_give 23 = .ok (.aload_n 0, 1) := by decide +kernel
theorem dX8_give_24 : decode cX8_give 24 = .ok (.getfield 153, 3) := by decide +kernel
theorem dX8_give_27 : decode cX8_give 27 = .ok (.iload_n 1, 1) := by decide +kernel
theorem dX8_give_28 : decode cX8_give 28 = .ok (.iastore, 1) := by decide +kernel
theorem dX8_give_29 : decode cX8_give 29 = .ok (.aload_n 0, 1) := by decide +kernel
theorem dX8_give_30 : decode cX8_give 30 = .ok (.getfield 106, 3) := by decide +kernel
theorem dX8_give_33 : decode cX8_give 33 = .ok (.aload_n 0, 1) := by decide +kernel
theorem dX8_give_34 : decode cX8_give 34 = .ok (.getfield 153, 3) := by decide +kernel
theorem dX8_give_37 : decode cX8_give 37 = .ok (.iload_n 2, 1) := by decide +kernel
theorem dX8_give_38 : decode cX8_give 38 = .ok (.iastore, 1) := by decide +kernel
theorem dX8_give_39 : decode cX8_give 39 = .ok (.aload_n 0, 1) := by decide +kernel
theorem dX8_give_40 : decode cX8_give 40 = .ok (.dup, 1) := by decide +kernel
theorem dX8_give_41 : decode cX8_give 41 = .ok (.getfield 153, 3) := by decide +kernel
theorem dX8_give_44 : decode cX8_give 44 = .ok (.iconst 1, 1) := by decide +kernel
theorem dX8_give_45 : decode cX8_give 45 = .ok (.iadd, 1) := by decide +kernel
theorem dX8_give_46 : decode cX8_give 46 = .ok (.putfield 153, 3) := by decide +kernel
theorem dX8_give_49 : decode cX8_give 49 = .ok (.iload_n 2, 1) := by decide +kernel
theorem dX8_give_50 : decode cX8_give 50 = .ok (.ireturn, 1) := by decide +kernel
theorem dX8_undo_0 : decode cX8_undo 0 = .ok (.aload_n 0, 1) := by decide +kernel
theorem dX8_undo_1 : decode cX8_undo 1 = .ok (.getfield 153, 3) := by decide +kernel
theorem dX8_undo_4 : decode cX8_undo 4 = .ok (.ifCond .ne 6, 3) := by decide +kernel
theorem dX8_undo_7 : decode cX8_undo 7 = .ok (.bipush (-4), 2) := by decide +kernel
theorem dX8_undo_9 : decode cX8_undo 9 = .ok (.ireturn, 1) := by decide +kernel
theorem dX8_undo_10 : decode cX8_undo 10 = .ok (.aload_n 0, 1) := by decide +kernel
theorem dX8_undo_11 : decode cX8_undo 11 = .ok (.dup, 1) := by decide +kernel
theorem dX8_undo_12 : decode cX8_undo 12 = .ok (.getfield 153, 3) := by decide +kernel
theorem dX8_undo_15 : decode cX8_undo 15 = .ok (.iconst 1, 1) := by decide +kernel
theorem dX8_undo_16 : decode cX8_undo 16 = .ok (.isub, 1) := by decide +kernel
theorem dX8_undo_17 : decode cX8_undo 17 = .ok (.putfield 153, 3) := by decide +kernel
theorem dX8_undo_20 : decode cX8_undo 20 = .ok (.aload_n 0, 1) := by decide +kernel
theorem dX8_undo_21 : decode cX8_undo 21 = .ok (.getfield 106, 3) := by decide +kernel
theorem dX8_undo_24 : decode cX8_undo 24 = .ok (.aload_n 0, 1) := by decide +kernel
theorem dX8_undo_25 : decode cX8_undo 25 = .ok (.getfield 153, 3) := by decide +kernel
theorem dX8_undo_28 : decode cX8_undo 28 = .ok (.iaload, 1) := by decide +kernel
theorem dX8_undo_29 : decode cX8_undo 29 = .ok (.ireturn, 1) := by decide +kernel
theorem dX8_may_0 : decode cX8_may 0 = .ok (.iload_n 1, 1) := by decide +kernel
theorem dX8_may_1 : decode cX8_may 1 = .ok (.invokestatic 147, 3) := by decide +kernel
theorem dX8_may_4 : decode cX8_may 4 = .ok (.ifCond .eq 28, 3) := by decide +kernel
theorem dX8_may_7 : decode cX8_may 7 = .ok (.aload_n 0, 1) := by decide +kernel
theorem dX8_may_8 : decode cX8_may 8 = .ok (.iload_n 2, 1) := by decide +kernel
theorem dX8_may_9 : decode cX8_may 9 = .ok (.invokevirtual 184, 3) := by decide +kernel
theorem dX8_may_12 : decode cX8_may 12 = .ok (.ifCond .eq 20, 3) := by decide +kernel
theorem dX8_may_15 : decode cX8_may 15 = .ok (.aload_n 0, 1) := by decide +kernel
theorem dX8_may_16 : decode cX8_may 16 = .ok (.iload_n 1, 1) := by decide +kernel
theorem dX8_may_17 : decode cX8_may 17 = .ok (.iload_n 2, 1) := by decide +kernel
theorem dX8_may_18 : decode cX8_may 18 = .ok (.invokevirtual 177, 3) := by decide +kernel
theorem dX8_may_21 : decode cX8_may 21 = .ok (.ifCond .eq 7, 3) := by decide +kernel
theorem dX8_may_24 : decode cX8_may 24 = .ok (.iconst 1, 1) := by decide +kernel
theorem dX8_may_25 : decode cX8_may 25 = .ok (.goto 8, 3) := by decide +kernel
theorem dX8_may_28 : decode cX8_may 28 = .ok (.iconst 0, 1) := by decide +kernel
theorem dX8_may_29 : decode cX8_may 29 = .ok (.goto 4, 3) := by decide +kernel
theorem dX8_may_32 : decode cX8_may 32 = .ok (.iconst (-1), 1) := by decide +kernel
theorem dX8_may_33 : decode cX8_may 33 = .ok (.ireturn, 1) := by decide +kernel
theorem dX8_against_0 : decode cX8_against 0 = .ok (.aload_n 0, 1) := by decide +kernel
theorem dX8_against_1 : decode cX8_against 1 = .ok (.getfield 112, 3) := by decide +kernel
theorem dX8_against_4 : decode cX8_against 4 = .ok (.iload_n 1, 1) := by decide +kernel
theorem dX8_against_5 : decode cX8_against 5 = .ok (.iaload, 1) := by decide +kernel
theorem dX8_against_6 : decode cX8_against 6 = .ok (.istore_n 2, 1) := by decide +kernel
theorem dX8_against_7 : decode cX8_against 7 = .ok (.aload_n 0, 1) := by decide +kernel
theorem dX8_against_8 : decode cX8_against 8 = .ok (.getfield 71, 3) := by decide +kernel
theorem dX8_against_11 : decode cX8_against 11 = .ok (.iload_n 2, 1) := by decide +kernel
theorem dX8_against_12 : decode cX8_against 12 = .ok (.iaload, 1) := by decide +kernel
theorem dX8_against_13 : decode cX8_against 13 = .ok (.ifCond .lt 12, 3) := by decide +kernel
theorem dX8_against_16 : decode cX8_against 16 = .ok (.aload_n 0, 1) := by decide +kernel
theorem dX8_against_17 : decode cX8_against 17 = .ok (.getfield 71, 3) := by decide +kernel
theorem dX8_against_20 : decode cX8_against 20 = .ok (.iload_n 2, 1) := by decide +kernel
theorem dX8_against_21 : decode cX8_against 21 = .ok (.iaload, 1) := by decide +kernel
theorem dX8_against_22 : decode cX8_against 22 = .ok (.goto 18, 3) := by decide +kernel
theorem dX8_against_25 : decode cX8_against 25 = .ok (.aload_n 0, 1) := by decide +kernel
theorem dX8_against_26 : decode cX8_against 26 = .ok (.getfield 74, 3) := by decide +kernel
theorem dX8_against_29 : decode cX8_against 29 = .ok (.iconst 2, 1) := by decide +kernel
theorem dX8_against_30 : decode cX8_against 30 = .ok (.iload_n 2, 1) := by decide +kernel
theorem dX8_against_31 : decode cX8_against 31 = .ok (.imul, 1) := by decide +kernel
theorem dX8_against_32 : decode cX8_against 32 = .ok (.aload_n 0, 1) := by decide +kernel
theorem dX8_against_33 : decode cX8_against 33 = .ok (.getfield 115, 3) := by decide +kernel
theorem dX8_against_36 : decode cX8_against 36 = .ok (.iload_n 1, 1) := by decide +kernel
theorem dX8_against_37 : decode cX8_against 37 = .ok (.iaload, 1) := by decide +kernel
theorem dX8_against_38 : decode cX8_against 38 = .ok (.iadd, 1) := by decide +kernel
theorem dX8_against_39 : decode cX8_against 39 = .ok (.iaload, 1) := by decide +kernel
theorem dX8_against_40 : decode cX8_against 40 = .ok (.ireturn, 1) := by decide +kernel
theorem dX8_doubt_0 : decode cX8_doubt 0 = .ok (.iconst 0, 1) := by decide +kernel
theorem dX8_doubt_1 : decode cX8_doubt 1 = .ok (.istore_n 3, 1) := by decide +kernel
theorem dX8_doubt_2 : decode cX8_doubt 2 = .ok (.iconst 0, 1) := by decide +kernel
theorem dX8_doubt_3 : decode cX8_doubt 3 = .ok (.istore 4, 2) := by decide +kernel
theorem dX8_doubt_5 : decode cX8_doubt 5 = .ok (.iload 4, 2) := by decide +kernel
theorem dX8_doubt_7 : decode cX8_doubt 7 = .ok (.aload_n 0, 1) := by decide +kernel
theorem dX8_doubt_8 : decode cX8_doubt 8 = .ok (.getfield 160, 3) := by decide +kernel
theorem dX8_doubt_11 : decode cX8_doubt 11 = .ok (.if_icmp .ge 57, 3) := by decide +kernel
theorem dX8_doubt_14 : decode cX8_doubt 14 = .ok (.aload_n 0, 1) := by decide +kernel
theorem dX8_doubt_15 : decode cX8_doubt 15 = .ok (.iload 4, 2) := by decide +kernel
theorem dX8_doubt_17 : decode cX8_doubt 17 = .ok (.invokevirtual 187, 3) := by decide +kernel
theorem dX8_doubt_20 : decode cX8_doubt 20 = .ok (.istore 5, 2) := by decide +kernel
theorem dX8_doubt_22 : decode cX8_doubt 22 = .ok (.iload_n 3, 1) := by decide +kernel
theorem dX8_doubt_23 : decode cX8_doubt 23 = .ok (.aload_n 0, 1) := by decide +kernel
theorem dX8_doubt_24 : decode cX8_doubt 24 = .ok (.getfield 109, 3) := by decide +kernel
theorem dX8_doubt_27 : decode cX8_doubt 27 = .ok (.iload 4, 2) := by decide +kernel
theorem dX8_doubt_29 : decode cX8_doubt 29 = .ok (.iaload, 1) := by decide +kernel
theorem dX8_doubt_30 : decode cX8_doubt 30 = .ok (.iload_n 1, 1) := by decide +kernel
theorem dX8_doubt_31 : decode cX8_doubt 31 = .ok (.if_icmp .ne 28, 3) := by decide +kernel
theorem dX8_doubt_34 : decode cX8_doubt 34 = .ok (.iload 5, 2) := by decide +kernel
theorem dX8_doubt_36 : decode cX8_doubt 36 = .ok (.ifCond .lt 23, 3) := by decide +kernel
theorem dX8_doubt_39 : decode cX8_doubt 39 = .ok (.iload_n 2, 1) := by decide +kernel
theorem dX8_doubt_40 : decode cX8_doubt 40 = .ok (.ifCond .eq 15, 3) := by decide +kernel
theorem dX8_doubt_43 : decode cX8_doubt 43 = .ok (.aload_n 0, 1) := by decide +kernel
theorem dX8_doubt_44 : decode cX8_doubt 44 = .ok (.getfield 118, 3) := by decide +kernel
theorem dX8_doubt_47 : decode cX8_doubt 47 = .ok (.iload 4, 2) := by decide +kernel
theorem dX8_doubt_49 : decode cX8_doubt 49 = .ok (.iaload, 1) := by decide +kernel
theorem dX8_doubt_50 : decode cX8_doubt 50 = .ok (.iload 5, 2) := by decide +kernel
theorem dX8_doubt_52 : decode cX8_doubt 52 = .ok (.if_icmp .eq 7, 3) := by decide +kernel
theorem dX8_doubt_55 : decode cX8_doubt 55 = .ok (.iconst 1, 1) := by decide +kernel
theorem dX8_doubt_56 : decode cX8_doubt 56 = .ok (.goto 4, 3) := by decide +kernel
theorem dX8_doubt_59 : decode cX8_doubt 59 = .ok (.iconst 0, 1) := by decide +kernel
theorem dX8_doubt_60 : decode cX8_doubt 60 = .ok (.iadd, 1) := by decide +kernel
theorem dX8_doubt_61 : decode cX8_doubt 61 = .ok (.istore_n 3, 1) := by decide +kernel
theorem dX8_doubt_62 : decode cX8_doubt 62 = .ok (.iinc 4 1, 3) := by decide +kernel
theorem dX8_doubt_65 : decode cX8_doubt 65 = .ok (.goto (-60), 3) := by decide +kernel
theorem dX8_doubt_68 : decode cX8_doubt 68 = .ok (.iload_n 3, 1) := by decide +kernel
theorem dX8_doubt_69 : decode cX8_doubt 69 = .ok (.ireturn, 1) := by decide +kernel
theorem dX8_lookAtJudges_0 : decode cX8_lookAtJudges 0 = .ok (.iconst 0, 1) := by decide +kernel
theorem dX8_lookAtJudges_1 : decode cX8_lookAtJudges 1 = .ok (.istore_n 1, 1) := by decide +kernel
theorem dX8_lookAtJudges_2 : decode cX8_lookAtJudges 2 = .ok (.iload_n 1, 1) := by decide +kernel
theorem dX8_lookAtJudges_3 : decode cX8_lookAtJudges 3 = .ok (.bipush 20, 2) := by decide +kernel
theorem dX8_lookAtJudges_5 : decode cX8_lookAtJudges 5 = .ok (.if_icmp .ge 51, 3) := by decide +kernel
theorem dX8_lookAtJudges_8 : decode cX8_lookAtJudges 8 = .ok (.aload_n 0, 1) := by decide +kernel
theorem dX8_lookAtJudges_9 : decode cX8_lookAtJudges 9 = .ok (.iload_n 1, 1) := by decide +kernel
theorem dX8_lookAtJudges_10 : decode cX8_lookAtJudges 10 = .ok (.iconst 0, 1) := by decide +kernel
theorem dX8_lookAtJudges_11 : decode cX8_lookAtJudges 11 = .ok (.invokevirtual 190, 3) := by decide +kernel
theorem dX8_lookAtJudges_14 : decode cX8_lookAtJudges 14 = .ok (.istore_n 2, 1) := by decide +kernel
theorem dX8_lookAtJudges_15 : decode cX8_lookAtJudges 15 = .ok (.iload_n 2, 1) := by decide +kernel
theorem dX8_lookAtJudges_16 : decode cX8_lookAtJudges 16 = .ok (.iconst 5, 1) := by decide +kernel
theorem dX8_lookAtJudges_17 : decode cX8_lookAtJudges 17 = .ok (.if_icmp .lt 33, 3) := by decide +kernel
theorem dX8_lookAtJudges_20 : decode cX8_lookAtJudges 20 = .ok (.aload_n 0, 1) := by decide +kernel
theorem dX8_lookAtJudges_21 : decode cX8_lookAtJudges 21 = .ok (.iload_n 1, 1) := by decide +kernel
theorem dX8_lookAtJudges_22 : decode cX8_lookAtJudges 22 = .ok (.iconst 1, 1) := by decide +kernel
theorem dX8_lookAtJudges_23 : decode cX8_lookAtJudges 23 = .ok (.invokevirtual 190, 3) := by decide +kernel
theorem dX8_lookAtJudges_26 : decode cX8_lookAtJudges 26 = .ok (.bipush 100, 2) := by decide +kernel
theorem dX8_lookAtJudges_28 : decode cX8_lookAtJudges 28 = .ok (.imul, 1) := by decide +kernel
theorem dX8_lookAtJudges_29 : decode cX8_lookAtJudges 29 = .ok (.aload_n 0, 1) := by decide +kernel
theorem dX8_lookAtJudges_30 : decode cX8_lookAtJudges 30 = .ok (.getfield 29, 3) := by decide +kernel
theorem dX8_lookAtJudges_33 : decode cX8_lookAtJudges 33 = .ok (.iload_n 2, 1) := by decide +kernel
theorem dX8_lookAtJudges_34 : decode cX8_lookAtJudges 34 = .ok (.imul, 1) := by decide +kernel
theorem dX8_lookAtJudges_35 : decode cX8_lookAtJudges 35 = .ok (.if_icmp .le 15, 3) := by decide +kernel
theorem dX8_lookAtJudges_38 : decode cX8_lookAtJudges 38 = .ok (.aload_n 0, 1) := by decide +kernel
theorem dX8_lookAtJudges_39 : decode cX8_lookAtJudges 39 = .ok (.getfield 99, 3) := by decide +kernel
theorem dX8_lookAtJudges_42 : decode cX8_lookAtJudges 42 = .ok (.iload_n 1, 1) := by decide +kernel
theorem dX8_lookAtJudges_43 : decode cX8_lookAtJudges 43 = .ok (.iconst 1, 1) := by decide +kernel
theorem dX8_lookAtJudges_44 : decode cX8_lookAtJudges 44 = .ok (.bastore, 1) := by decide +kernel
theorem dX8_lookAtJudges_45 : decode cX8_lookAtJudges 45 = .ok (.aload_n 0, 1) := by decide +kernel
theorem dX8_lookAtJudges_46 : decode cX8_lookAtJudges 46 = .ok (.iload_n 1, 1) := by decide +kernel
theorem dX8_lookAtJudges_47 : decode cX8_lookAtJudges 47 = .ok (.invokevirtual 156, 3) := by decide +kernel
theorem dX8_lookAtJudges_50 : decode cX8_lookAtJudges 50 = .ok (.iinc 1 1, 3) := by decide +kernel
theorem dX8_lookAtJudges_53 : decode cX8_lookAtJudges 53 = .ok (.goto (-51), 3) := by decide +kernel
theorem dX8_lookAtJudges_56 : decode cX8_lookAtJudges 56 = .ok (.return_, 1) := by decide +kernel
theorem dX8_vote_0 : decode cX8_vote 0 = .ok (.iload_n 1, 1) := by decide +kernel
theorem dX8_vote_1 : decode cX8_vote 1 = .ok (.invokestatic 147, 3) := by decide +kernel
theorem dX8_vote_4 : decode cX8_vote 4 = .ok (.ifCond .eq 20, 3) := by decide +kernel
theorem dX8_vote_7 : decode cX8_vote 7 = .ok (.aload_n 0, 1) := by decide +kernel
theorem dX8_vote_8 : decode cX8_vote 8 = .ok (.iload_n 2, 1) := by decide +kernel
theorem dX8_vote_9 : decode cX8_vote 9 = .ok (.invokevirtual 184, 3) := by decide +kernel
theorem dX8_vote_12 : decode cX8_vote 12 = .ok (.ifCond .eq 12, 3) := by decide +kernel
theorem dX8_vote_15 : decode cX8_vote 15 = .ok (.iload_n 3, 1) := by decide +kernel
theorem dX8_vote_16 : decode cX8_vote 16 = .ok (.iconst 0, 1) := by decide +kernel
theorem dX8_vote_17 : decode cX8_vote 17 = .ok (.iconst 1, 1) := by decide +kernel
theorem dX8_vote_18 : decode cX8_vote 18 = .ok (.invokestatic 136, 3) := by decide +kernel
theorem dX8_vote_21 : decode cX8_vote 21 = .ok (.ifCond .ne 5, 3) := by decide +kernel
theorem dX8_vote_24 : decode cX8_vote 24 = .ok (.iconst (-1), 1) := by decide +kernel
theorem dX8_vote_25 : decode cX8_vote 25 = .ok (.ireturn, 1) := by decide +kernel
theorem dX8_vote_26 : decode cX8_vote 26 = .ok (.aload_n 0, 1) := by decide +kernel
theorem dX8_vote_27 : decode cX8_vote 27 = .ok (.iload_n 1, 1) := by decide +kernel
theorem dX8_vote_28 : decode cX8_vote 28 = .ok (.iload_n 2, 1) := by decide +kernel
theorem dX8_vote_29 : decode cX8_vote 29 = .ok (.invokevirtual 170, 3) := by decide +kernel
theorem dX8_vote_32 : decode cX8_vote 32 = .ok (.ifCond .ne 6, 3) := by decide +kernel
theorem dX8_vote_35 : decode cX8_vote 35 = .ok (.bipush (-4), 2) := by decide +kernel
theorem dX8_vote_37 : decode cX8_vote 37 = .ok (.ireturn, 1) := by decide +kernel
theorem dX8_vote_38 : decode cX8_vote 38 = .ok (.iconst 0, 1) := by decide +kernel
theorem dX8_vote_39 : decode cX8_vote 39 = .ok (.istore 4, 2) := by decide +kernel
theorem dX8_vote_41 : decode cX8_vote 41 = .ok (.iconst 0, 1) := by decide +kernel
theorem dX8_vote_42 : decode cX8_vote 42 = .ok (.istore 5, 2) := by decide +kernel
theorem dX8_vote_44 : decode cX8_vote 44 = .ok (.iload 5, 2) := by decide +kernel
theorem dX8_vote_46 : decode cX8_vote 46 = .ok (.aload_n 0, 1) := by decide +kernel
theorem dX8_vote_47 : decode cX8_vote 47 = .ok (.getfield 153, 3) := by decide +kernel
theorem dX8_vote_50 : decode cX8_vote 50 = .ok (.if_icmp .ge 62, 3) := by decide +kernel
theorem dX8_vote_53 : decode cX8_vote 53 = .ok (.aload_n 0, 1) := by decide +kernel
theorem dX8_vote_54 : decode cX8_vote 54 = .ok (.getfield 103, 3) := by decide +kernel
theorem dX8_vote_57 : decode cX8_vote 57 = .ok (.iload 5, 2) := by decide +kernel
theorem dX8_vote_59 : decode cX8_vote 59 = .ok (.iaload, 1) := by decide +kernel
theorem dX8_vote_60 : decode cX8_vote 60 = .ok (.iload_n 1, 1) := by decide +kernel
theorem dX8_vote_61 : decode cX8_vote 61 = .ok (.if_icmp .ne 14, 3) := by decide +kernel
theorem dX8_vote_64 : decode cX8_vote 64 = .ok (.aload_n 0, 1) := by decide +kernel
theorem dX8_vote_65 : decode cX8_vote 65 = .ok (.getfield 106, 3) := by decide +kernel
theorem dX8_vote_68 : decode cX8_vote 68 = .ok (.iload 5, 2) := by decide +kernel
theorem dX8_vote_70 : decode cX8_vote 70 = .ok (.iaload, 1) := by decide +kernel
theorem dX8_vote_71 : decode cX8_vote 71 = .ok (.iload_n 2, 1) := by decide +kernel
theorem dX8_vote_72 : decode cX8_vote 72 = .ok (.if_icmp .eq 34, 3) := by decide +kernel
theorem dX8_vote_75 : decode cX8_vote 75 = .ok (.aload_n 0, 1) := by decide +kernel
theorem dX8_vote_76 : decode cX8_vote 76 = .ok (.getfield 103, 3) := by decide +kernel
theorem dX8_vote_79 : decode cX8_vote 79 = .ok (.iload 4, 2) := by decide +kernel
theorem dX8_vote_81 : decode cX8_vote 81 = .ok (.aload_n 0, 1) := by decide +kernel
theorem dX8_vote_82 : decode cX8_vote 82 = .ok (.getfield 103, 3) := by decide +kernel
theorem dX8_vote_85 : decode cX8_vote 85 = .ok (.iload 5, 2) := by decide +kernel
theorem dX8_vote_87 : decode cX8_vote 87 = .ok (.iaload, 1) := by decide +kernel
theorem dX8_vote_88 : decode cX8_vote 88 = .ok (.iastore, 1) := by decide +kernel
theorem dX8_vote_89 : decode cX8_vote 89 = .ok (.aload_n 0, 1) := by decide +kernel
theorem dX8_vote_90 : decode cX8_vote 90 = .ok (.getfield 106, 3) := by decide +kernel
theorem dX8_vote_93 : decode cX8_vote 93 = .ok (.iload 4, 2) := by decide +kernel
theorem dX8_vote_95 : decode cX8_vote 95 = .ok (.aload_n 0, 1) := by decide +kernel
theorem dX8_vote_96 : decode cX8_vote 96 = .ok (.getfield 106, 3) := by decide +kernel
theorem dX8_vote_99 : decode cX8_vote 99 = .ok (.iload 5, 2) := by decide +kernel
theorem dX8_vote_101 : decode cX8_vote 101 = .ok (.iaload, 1) := by decide +kernel
theorem dX8_vote_102 : decode cX8_vote 102 = .ok (.iastore, 1) := by decide +kernel
theorem dX8_vote_103 : decode cX8_vote 103 = .ok (.iinc 4 1, 3) := by decide +kernel
theorem dX8_vote_106 : decode cX8_vote 106 = .ok (.iinc 5 1, 3) := by decide +kernel
theorem dX8_vote_109 : decode cX8_vote 109 = .ok (.goto (-65), 3) := by decide +kernel
theorem dX8_vote_112 : decode cX8_vote 112 = .ok (.aload_n 0, 1) := by decide +kernel
theorem dX8_vote_113 : decode cX8_vote 113 = .ok (.iload 4, 2) := by decide +kernel
theorem dX8_vote_115 : decode cX8_vote 115 = .ok (.putfield 153, 3) := by decide +kernel
theorem dX8_vote_118 : decode cX8_vote 118 = .ok (.aload_n 0, 1) := by decide +kernel
theorem dX8_vote_119 : decode cX8_vote 119 = .ok (.getfield 109, 3) := by decide +kernel
theorem dX8_vote_122 : decode cX8_vote 122 = .ok (.aload_n 0, 1) := by decide +kernel
theorem dX8_vote_123 : decode cX8_vote 123 = .ok (.getfield 160, 3) := by decide +kernel
theorem dX8_vote_126 : decode cX8_vote 126 = .ok (.iload_n 1, 1) := by decide +kernel
theorem dX8_vote_127 : decode cX8_vote 127 = .ok (.iastore, 1) := by decide +kernel
theorem dX8_vote_128 : decode cX8_vote 128 = .ok (.aload_n 0, 1) := by decide +kernel
theorem dX8_vote_129 : decode cX8_vote 129 = .ok (.getfield 112, 3) := by decide +kernel
theorem dX8_vote_132 : decode cX8_vote 132 = .ok (.aload_n 0, 1) := by decide +kernel
theorem dX8_vote_133 : decode cX8_vote 133 = .ok (.getfield 160, 3) := by decide +kernel
theorem dX8_vote_136 : decode cX8_vote 136 = .ok (.iload_n 2, 1) := by decide +kernel
theorem dX8_vote_137 : decode cX8_vote 137 = .ok (.iastore, 1) := by decide +kernel
theorem dX8_vote_138 : decode cX8_vote 138 = .ok (.aload_n 0, 1) := by decide +kernel
theorem dX8_vote_139 : decode cX8_vote 139 = .ok (.getfield 115, 3) := by decide +kernel
theorem dX8_vote_142 : decode cX8_vote 142 = .ok (.aload_n 0, 1) := by decide +kernel
theorem dX8_vote_143 : decode cX8_vote 143 = .ok (.getfield 160, 3) := by decide +kernel
theorem dX8_vote_146 : decode cX8_vote 146 = .ok (.aload_n 0, 1) := by decide +kernel
theorem dX8_vote_147 : decode cX8_vote 147 = .ok (.iload_n 2, 1) := by decide +kernel
theorem dX8_vote_148 : decode cX8_vote 148 = .ok (.invokevirtual 163, 3) := by decide +kernel
theorem dX8_vote_151 : decode cX8_vote 151 = .ok (.iastore, 1) := by decide +kernel
theorem dX8_vote_152 : decode cX8_vote 152 = .ok (.aload_n 0, 1) := by decide +kernel
theorem dX8_vote_153 : decode cX8_vote 153 = .ok (.getfield 118, 3) := by decide +kernel
theorem dX8_vote_156 : decode cX8_vote 156 = .ok (.aload_n 0, 1) := by decide +kernel
theorem dX8_vote_157 : decode cX8_vote 157 = .ok (.getfield 160, 3) := by decide +kernel
theorem dX8_vote_160 : decode cX8_vote 160 = .ok (.iload_n 3, 1) := by decide +kernel
theorem dX8_vote_161 : decode cX8_vote 161 = .ok (.iastore, 1) := by decide +kernel
theorem dX8_vote_162 : decode cX8_vote 162 = .ok (.aload_n 0, 1) := by decide +kernel
theorem dX8_vote_163 : decode cX8_vote 163 = .ok (.getfield 121, 3) := by decide +kernel
theorem dX8_vote_166 : decode cX8_vote 166 = .ok (.aload_n 0, 1) := by decide +kernel
theorem dX8_vote_167 : decode cX8_vote 167 = .ok (.getfield 160, 3) := by decide +kernel
theorem dX8_vote_170 : decode cX8_vote 170 = .ok (.aload_n 0, 1) := by decide +kernel
theorem dX8_vote_171 : decode cX8_vote 171 = .ok (.getfield 96, 3) := by decide +kernel
theorem dX8_vote_174 : decode cX8_vote 174 = .ok (.iload_n 1, 1) := by decide +kernel
theorem dX8_vote_175 : decode cX8_vote 175 = .ok (.iaload, 1) := by decide +kernel
theorem dX8_vote_176 : decode cX8_vote 176 = .ok (.iastore, 1) := by decide +kernel
theorem dX8_vote_177 : decode cX8_vote 177 = .ok (.aload_n 0, 1) := by decide +kernel
theorem dX8_vote_178 : decode cX8_vote 178 = .ok (.dup, 1) := by decide +kernel
theorem dX8_vote_179 : decode cX8_vote 179 = .ok (.getfield 160, 3) := by decide +kernel
theorem dX8_vote_182 : decode cX8_vote 182 = .ok (.iconst 1, 1) := by decide +kernel
theorem dX8_vote_183 : decode cX8_vote 183 = .ok (.iadd, 1) := by decide +kernel
theorem dX8_vote_184 : decode cX8_vote 184 = .ok (.putfield 160, 3) := by decide +kernel
theorem dX8_vote_187 : decode cX8_vote 187 = .ok (.aload_n 0, 1) := by decide +kernel
theorem dX8_vote_188 : decode cX8_vote 188 = .ok (.iload_n 2, 1) := by decide +kernel
theorem dX8_vote_189 : decode cX8_vote 189 = .ok (.invokevirtual 174, 3) := by decide +kernel
theorem dX8_vote_192 : decode cX8_vote 192 = .ok (.aload_n 0, 1) := by decide +kernel
theorem dX8_vote_193 : decode cX8_vote 193 = .ok (.getfield 62, 3) := by decide +kernel
theorem dX8_vote_196 : decode cX8_vote 196 = .ok (.iload_n 2, 1) := by decide +kernel
theorem dX8_vote_197 : decode cX8_vote 197 = .ok (.iaload, 1) := by decide +kernel
theorem dX8_vote_198 : decode cX8_vote 198 = .ok (.if_icmp .ne 8, 3) := by decide +kernel
theorem dX8_vote_201 : decode cX8_vote 201 = .ok (.aload_n 0, 1) := by decide +kernel
theorem dX8_vote_202 : decode cX8_vote 202 = .ok (.iload_n 2, 1) := by decide +kernel
theorem dX8_vote_203 : decode cX8_vote 203 = .ok (.invokevirtual 194, 3) := by decide +kernel
theorem dX8_vote_206 : decode cX8_vote 206 = .ok (.aload_n 0, 1) := by decide +kernel
theorem dX8_vote_207 : decode cX8_vote 207 = .ok (.getfield 50, 3) := by decide +kernel
theorem dX8_vote_210 : decode cX8_vote 210 = .ok (.iload_n 2, 1) := by decide +kernel
theorem dX8_vote_211 : decode cX8_vote 211 = .ok (.iaload, 1) := by decide +kernel
theorem dX8_vote_212 : decode cX8_vote 212 = .ok (.ireturn, 1) := by decide +kernel
theorem dX8_settle_0 : decode cX8_settle 0 = .ok (.iconst 0, 1) := by decide +kernel
theorem dX8_settle_1 : decode cX8_settle 1 = .ok (.istore_n 2, 1) := by decide +kernel
theorem dX8_settle_2 : decode cX8_settle 2 = .ok (.iconst 0, 1) := by decide +kernel
theorem dX8_settle_3 : decode cX8_settle 3 = .ok (.istore_n 3, 1) := by decide +kernel
theorem dX8_settle_4 : decode cX8_settle 4 = .ok (.iconst 0, 1) := by decide +kernel
theorem dX8_settle_5 : decode cX8_settle 5 = .ok (.istore 4, 2) := by decide +kernel
theorem dX8_settle_7 : decode cX8_settle 7 = .ok (.iload 4, 2) := by decide +kernel
theorem dX8_settle_9 : decode cX8_settle 9 = .ok (.aload_n 0, 1) := by decide +kernel
theorem dX8_settle_10 : decode cX8_settle 10 = .ok (.getfield 160, 3) := by decide +kernel
theorem dX8_settle_13 : decode cX8_settle 13 = .ok (.if_icmp .ge 84, 3) := by decide +kernel
theorem dX8_settle_16 : decode cX8_settle 16 = .ok (.aload_n 0, 1) := by decide +kernel
theorem dX8_settle_17 : decode cX8_settle 17 = .ok (.getfield 112, 3) := by decide +kernel
theorem dX8_settle_20 : decode cX8_settle 20 = .ok (.iload 4, 2) := by decide +kernel
theorem dX8_settle_22 : decode cX8_settle 22 = .ok (.iaload, 1) := by decide +kernel
theorem dX8_settle_23 : decode cX8_settle 23 = .ok (.iload_n 1, 1) := by decide +kernel
theorem dX8_settle_24 : decode cX8_settle 24 = .ok (.if_icmp .ne 67, 3) := by decide +kernel
theorem dX8_settle_27 : decode cX8_settle 27 = .ok (.aload_n 0, 1) := by decide +kernel
theorem dX8_settle_28 : decode cX8_settle 28 = .ok (.getfield 115, 3) := by decide +kernel
theorem dX8_settle_31 : decode cX8_settle 31 = .ok (.iload 4, 2) := by decide +kernel
theorem dX8_settle_33 : decode cX8_settle 33 = .ok (.iaload, 1) := by decide +kernel
theorem dX8_settle_34 : decode cX8_settle 34 = .ok (.aload_n 0, 1) := by decide +kernel
theorem dX8_settle_35 : decode cX8_settle 35 = .ok (.iload_n 1, 1) := by decide +kernel
theorem dX8_settle_36 : decode cX8_settle 36 = .ok (.invokevirtual 163, 3) := by decide +kernel
theorem dX8_settle_39 : decode cX8_settle 39 = .ok (.if_icmp .ne 52, 3) := by decide +kernel
theorem dX8_settle_42 : decode cX8_settle 42 = .ok (.iload_n 2, 1) := by decide +kernel
theorem dX8_settle_43 : decode cX8_settle 43 = .ok (.aload_n 0, 1) := by decide +kernel
theorem dX8_settle_44 : decode cX8_settle 44 = .ok (.getfield 118, 3) := by decide +kernel
theorem dX8_settle_47 : decode cX8_settle 47 = .ok (.iload 4, 2) := by decide +kernel
theorem dX8_settle_49 : decode cX8_settle 49 = .ok (.iaload, 1) := by decide +kernel
theorem dX8_settle_50 : decode cX8_settle 50 = .ok (.iconst 1, 1) := by decide +kernel
theorem dX8_settle_51 : decode cX8_settle 51 = .ok (.if_icmp .ne 13, 3) := by decide +kernel
theorem dX8_settle_54 : decode cX8_settle 54 = .ok (.aload_n 0, 1) := by decide +kernel
theorem dX8_settle_55 : decode cX8_settle 55 = .ok (.getfield 121, 3) := by decide +kernel
theorem dX8_settle_58 : decode cX8_settle 58 = .ok (.iload 4, 2) := by decide +kernel
theorem dX8_settle_60 : decode cX8_settle 60 = .ok (.iaload, 1) := by decide +kernel
theorem dX8_settle_61 : decode cX8_settle 61 = .ok (.goto 4, 3) := by decide +kernel
theorem dX8_settle_64 : decode cX8_settle 64 = .ok (.iconst 0, 1) := by decide +kernel
theorem dX8_settle_65 : decode cX8_settle 65 = .ok (.iadd, 1) := by decide +kernel
theorem dX8_settle_66 : decode cX8_settle 66 = .ok (.istore_n 2, 1) := by decide +kernel
theorem dX8_settle_67 : decode cX8_settle 67 = .ok (.iload_n 3, 1) := by decide +kernel
theorem dX8_settle_68 : decode cX8_settle 68 = .ok (.aload_n 0, 1) := by decide +kernel
theorem dX8_settle_69 : decode cX8_settle 69 = .ok (.getfield 118, 3) := by decide +kernel
theorem dX8_settle_72 : decode cX8_settle 72 = .ok (.iload 4, 2) := by decide +kernel
theorem dX8_settle_74 : decode cX8_settle 74 = .ok (.iaload, 1) := by decide +kernel
theorem dX8_settle_75 : decode cX8_settle 75 = .ok (.ifCond .ne 13, 3) := by decide +kernel
theorem dX8_settle_78 : decode cX8_settle 78 = .ok (.aload_n 0, 1) := by decide +kernel
theorem dX8_settle_79 : decode cX8_settle 79 = .ok (.getfield 121, 3) := by decide +kernel
theorem dX8_settle_82 : decode cX8_settle 82 = .ok (.iload 4, 2) := by decide +kernel
theorem dX8_settle_84 : decode cX8_settle 84 = .ok (.iaload, 1) := by decide +kernel
theorem dX8_settle_85 : decode cX8_settle 85 = .ok (.goto 4, 3) := by decide +kernel
theorem dX8_settle_88 : decode cX8_settle 88 = .ok (.iconst 0, 1) := by decide +kernel
theorem dX8_settle_89 : decode cX8_settle 89 = .ok (.iadd, 1) := by decide +kernel
theorem dX8_settle_90 : decode cX8_settle 90 = .ok (.istore_n 3, 1) := by decide +kernel
theorem dX8_settle_91 : decode cX8_settle 91 = .ok (.iinc 4 1, 3) := by decide +kernel
theorem dX8_settle_94 : decode cX8_settle 94 = .ok (.goto (-87), 3) := by decide +kernel
theorem dX8_settle_97 : decode cX8_settle 97 = .ok (.iconst 3, 1) := by decide +kernel
theorem dX8_settle_98 : decode cX8_settle 98 = .ok (.iload_n 2, 1) := by decide +kernel
theorem dX8_settle_99 : decode cX8_settle 99 = .ok (.imul, 1) := by decide +kernel
theorem dX8_settle_100 : decode cX8_settle 100 = .ok (.iconst 2, 1) := by decide +kernel
theorem dX8_settle_101 : decode cX8_settle 101 = .ok (.iload_n 2, 1) := by decide +kernel
theorem dX8_settle_102 : decode cX8_settle 102 = .ok (.imul, 1) := by decide +kernel
theorem dX8_settle_103 : decode cX8_settle 103 = .ok (.iconst 2, 1) := by decide +kernel
theorem dX8_settle_104 : decode cX8_settle 104 = .ok (.iload_n 3, 1) := by decide +kernel
theorem dX8_settle_105 : decode cX8_settle 105 = .ok (.imul, 1) := by decide +kernel
theorem dX8_settle_106 : decode cX8_settle 106 = .ok (.iadd, 1) := by decide +kernel
theorem dX8_settle_107 : decode cX8_settle 107 = .ok (.if_icmp .ge 16, 3) := by decide +kernel
theorem dX8_settle_110 : decode cX8_settle 110 = .ok (.iconst 3, 1) := by decide +kernel
theorem dX8_settle_111 : decode cX8_settle 111 = .ok (.iload_n 3, 1) := by decide +kernel
theorem dX8_settle_112 : decode cX8_settle 112 = .ok (.imul, 1) := by decide +kernel
theorem dX8_settle_113 : decode cX8_settle 113 = .ok (.iconst 2, 1) := by decide +kernel
theorem dX8_settle_114 : decode cX8_settle 114 = .ok (.iload_n 2, 1) := by decide +kernel
theorem dX8_settle_115 : decode cX8_settle 115 = .ok (.imul, 1) := by decide +kernel
theorem dX8_settle_116 : decode cX8_settle 116 = .ok (.iconst 2, 1) := by decide +kernel
theorem dX8_settle_117 : decode cX8_settle 117 = .ok (.iload_n 3, 1) := by decide +kernel
theorem dX8_settle_118 : decode cX8_settle 118 = .ok (.imul, 1) := by decide +kernel
theorem dX8_settle_119 : decode cX8_settle 119 = .ok (.iadd, 1) := by decide +kernel
theorem dX8_settle_120 : decode cX8_settle 120 = .ok (.if_icmp .lt 7, 3) := by decide +kernel
theorem dX8_settle_123 : decode cX8_settle 123 = .ok (.iconst 1, 1) := by decide +kernel
theorem dX8_settle_124 : decode cX8_settle 124 = .ok (.goto 4, 3) := by decide +kernel
theorem dX8_settle_127 : decode cX8_settle 127 = .ok (.iconst 0, 1) := by decide +kernel
theorem dX8_settle_128 : decode cX8_settle 128 = .ok (.istore 4, 2) := by decide +kernel
theorem dX8_settle_130 : decode cX8_settle 130 = .ok (.iload 4, 2) := by decide +kernel
theorem dX8_settle_132 : decode cX8_settle 132 = .ok (.ifCond .ne 45, 3) := by decide +kernel
theorem dX8_settle_135 : decode cX8_settle 135 = .ok (.aload_n 0, 1) := by decide +kernel
theorem dX8_settle_136 : decode cX8_settle 136 = .ok (.getfield 65, 3) := by decide +kernel
theorem dX8_settle_139 : decode cX8_settle 139 = .ok (.iload_n 1, 1) := by decide +kernel
theorem dX8_settle_140 : decode cX8_settle 140 = .ok (.iaload, 1) := by decide +kernel
theorem dX8_settle_141 : decode cX8_settle 141 = .ok (.iconst 2, 1) := by decide +kernel
theorem dX8_settle_142 : decode cX8_settle 142 = .ok (.if_icmp .ge 35, 3) := by decide +kernel
theorem dX8_settle_145 : decode cX8_settle 145 = .ok (.aload_n 0, 1) := by decide +kernel
theorem dX8_settle_146 : decode cX8_settle 146 = .ok (.getfield 62, 3) := by decide +kernel
theorem dX8_settle_149 : decode cX8_settle 149 = .ok (.iload_n 1, 1) := by decide +kernel
theorem dX8_settle_150 : decode cX8_settle 150 = .ok (.iaload, 1) := by decide +kernel
theorem dX8_settle_151 : decode cX8_settle 151 = .ok (.bipush 7, 2) := by decide +kernel
theorem dX8_settle_153 : decode cX8_settle 153 = .ok (.if_icmp .gt 24, 3) := by decide +kernel
theorem dX8_settle_156 : decode cX8_settle 156 = .ok (.aload_n 0, 1) := by decide +kernel
theorem dX8_settle_157 : decode cX8_settle 157 = .ok (.getfield 65, 3) := by decide +kernel
theorem dX8_settle_160 : decode cX8_settle 160 = .ok (.iload_n 1, 1) := by decide +kernel
theorem dX8_settle_161 : decode cX8_settle 161 = .ok (.dup2, 1) := by decide +kernel
theorem dX8_settle_162 : decode cX8_settle 162 = .ok (.iaload, 1) := by decide +kernel
theorem dX8_settle_163 : decode cX8_settle 163 = .ok (.iconst 1, 1) := by decide +kernel
theorem dX8_settle_164 : decode cX8_settle 164 = .ok (.iadd, 1) := by decide +kernel
theorem dX8_settle_165 : decode cX8_settle 165 = .ok (.iastore, 1) := by decide +kernel
theorem dX8_settle_166 : decode cX8_settle 166 = .ok (.aload_n 0, 1) := by decide +kernel
theorem dX8_settle_167 : decode cX8_settle 167 = .ok (.getfield 62, 3) := by decide +kernel
theorem dX8_settle_170 : decode cX8_settle 170 = .ok (.iload_n 1, 1) := by decide +kernel
theorem dX8_settle_171 : decode cX8_settle 171 = .ok (.dup2, 1) := by decide +kernel
theorem dX8_settle_172 : decode cX8_settle 172 = .ok (.iaload, 1) := by decide +kernel
theorem dX8_settle_173 : decode cX8_settle 173 = .ok (.iconst 2, 1) := by decide +kernel
theorem dX8_settle_174 : decode cX8_settle 174 = .ok (.iadd, 1) := by decide +kernel
theorem dX8_settle_175 : decode cX8_settle 175 = .ok (.iastore, 1) := by decide +kernel
theorem dX8_settle_176 : decode cX8_settle 176 = .ok (.return_, 1) := by decide +kernel
theorem dX8_settle_177 : decode cX8_settle 177 = .ok (.aload_n 0, 1) := by decide +kernel
theorem dX8_settle_178 : decode cX8_settle 178 = .ok (.getfield 74, 3) := by decide +kernel
theorem dX8_settle_181 : decode cX8_settle 181 = .ok (.iconst 2, 1) := by decide +kernel
theorem dX8_settle_182 : decode cX8_settle 182 = .ok (.iload_n 1, 1) := by decide +kernel
theorem dX8_settle_183 : decode cX8_settle 183 = .ok (.imul, 1) := by decide +kernel
theorem dX8_settle_184 : decode cX8_settle 184 = .ok (.aload_n 0, 1) := by decide +kernel
theorem dX8_settle_185 : decode cX8_settle 185 = .ok (.iload_n 1, 1) := by decide +kernel
theorem dX8_settle_186 : decode cX8_settle 186 = .ok (.invokevirtual 163, 3) := by decide +kernel
theorem dX8_settle_189 : decode cX8_settle 189 = .ok (.iadd, 1) := by decide +kernel
theorem dX8_settle_190 : decode cX8_settle 190 = .ok (.iload_n 2, 1) := by decide +kernel
theorem dX8_settle_191 : decode cX8_settle 191 = .ok (.iload_n 3, 1) := by decide +kernel
theorem dX8_settle_192 : decode cX8_settle 192 = .ok (.if_icmp .le 7, 3) := by decide +kernel
theorem dX8_settle_195 : decode cX8_settle 195 = .ok (.iconst 1, 1) := by decide +kernel
theorem dX8_settle_196 : decode cX8_settle 196 = .ok (.goto 4, 3) := by decide +kernel
theorem dX8_settle_199 : decode cX8_settle 199 = .ok (.iconst 0, 1) := by decide +kernel
theorem dX8_settle_200 : decode cX8_settle 200 = .ok (.iastore, 1) := by decide +kernel
theorem dX8_settle_201 : decode cX8_settle 201 = .ok (.aload_n 0, 1) := by decide +kernel
theorem dX8_settle_202 : decode cX8_settle 202 = .ok (.getfield 77, 3) := by decide +kernel
theorem dX8_settle_205 : decode cX8_settle 205 = .ok (.iload_n 1, 1) := by decide +kernel
theorem dX8_settle_206 : decode cX8_settle 206 = .ok (.aload_n 0, 1) := by decide +kernel
theorem dX8_settle_207 : decode cX8_settle 207 = .ok (.getfield 62, 3) := by decide +kernel
theorem dX8_settle_210 : decode cX8_settle 210 = .ok (.iload_n 1, 1) := by decide +kernel
theorem dX8_settle_211 : decode cX8_settle 211 = .ok (.iaload, 1) := by decide +kernel
theorem dX8_settle_212 : decode cX8_settle 212 = .ok (.iastore, 1) := by decide +kernel
theorem dX8_settle_213 : decode cX8_settle 213 = .ok (.aload_n 0, 1) := by decide +kernel
theorem dX8_settle_214 : decode cX8_settle 214 = .ok (.getfield 80, 3) := by decide +kernel
theorem dX8_settle_217 : decode cX8_settle 217 = .ok (.iload_n 1, 1) := by decide +kernel
theorem dX8_settle_218 : decode cX8_settle 218 = .ok (.iload_n 2, 1) := by decide +kernel
theorem dX8_settle_219 : decode cX8_settle 219 = .ok (.iastore, 1) := by decide +kernel
theorem dX8_settle_220 : decode cX8_settle 220 = .ok (.aload_n 0, 1) := by decide +kernel
theorem dX8_settle_221 : decode cX8_settle 221 = .ok (.getfield 83, 3) := by decide +kernel
theorem dX8_settle_224 : decode cX8_settle 224 = .ok (.iload_n 1, 1) := by decide +kernel
theorem dX8_settle_225 : decode cX8_settle 225 = .ok (.iload_n 3, 1) := by decide +kernel
theorem dX8_settle_226 : decode cX8_settle 226 = .ok (.iastore, 1) := by decide +kernel
theorem dX8_settle_227 : decode cX8_settle 227 = .ok (.aload_n 0, 1) := by decide +kernel
theorem dX8_settle_228 : decode cX8_settle 228 = .ok (.getfield 68, 3) := by decide +kernel
theorem dX8_settle_231 : decode cX8_settle 231 = .ok (.iload_n 1, 1) := by decide +kernel
theorem dX8_settle_232 : decode cX8_settle 232 = .ok (.dup2, 1) := by decide +kernel
theorem dX8_settle_233 : decode cX8_settle 233 = .ok (.iaload, 1) := by decide +kernel
theorem dX8_settle_234 : decode cX8_settle 234 = .ok (.iconst 1, 1) := by decide +kernel
theorem dX8_settle_235 : decode cX8_settle 235 = .ok (.iadd, 1) := by decide +kernel
theorem dX8_settle_236 : decode cX8_settle 236 = .ok (.iastore, 1) := by decide +kernel
theorem dX8_settle_237 : decode cX8_settle 237 = .ok (.aload_n 0, 1) := by decide +kernel
theorem dX8_settle_238 : decode cX8_settle 238 = .ok (.dup, 1) := by decide +kernel
theorem dX8_settle_239 : decode cX8_settle 239 = .ok (.getfield 197, 3) := by decide +kernel
theorem dX8_settle_242 : decode cX8_settle 242 = .ok (.iconst 1, 1) := by decide +kernel
theorem dX8_settle_243 : decode cX8_settle 243 = .ok (.iadd, 1) := by decide +kernel
theorem dX8_settle_244 : decode cX8_settle 244 = .ok (.putfield 197, 3) := by decide +kernel
theorem dX8_settle_247 : decode cX8_settle 247 = .ok (.aload_n 0, 1) := by decide +kernel
theorem dX8_settle_248 : decode cX8_settle 248 = .ok (.getfield 50, 3) := by decide +kernel
theorem dX8_settle_251 : decode cX8_settle 251 = .ok (.iload_n 1, 1) := by decide +kernel
theorem dX8_settle_252 : decode cX8_settle 252 = .ok (.iaload, 1) := by decide +kernel
theorem dX8_settle_253 : decode cX8_settle 253 = .ok (.iconst 3, 1) := by decide +kernel
theorem dX8_settle_254 : decode cX8_settle 254 = .ok (.if_icmp .ne 7, 3) := by decide +kernel
theorem dX8_settle_257 : decode cX8_settle 257 = .ok (.iconst 1, 1) := by decide +kernel
theorem dX8_settle_258 : decode cX8_settle 258 = .ok (.goto 4, 3) := by decide +kernel
theorem dX8_settle_261 : decode cX8_settle 261 = .ok (.iconst 0, 1) := by decide +kernel
theorem dX8_settle_262 : decode cX8_settle 262 = .ok (.istore 5, 2) := by decide +kernel
theorem dX8_settle_264 : decode cX8_settle 264 = .ok (.aload_n 0, 1) := by decide +kernel
theorem dX8_settle_265 : decode cX8_settle 265 = .ok (.getfield 50, 3) := by decide +kernel
theorem dX8_settle_268 : decode cX8_settle 268 = .ok (.iload_n 1, 1) := by decide +kernel
theorem dX8_settle_269 : decode cX8_settle 269 = .ok (.iload_n 2, 1) := by decide +kernel
theorem dX8_settle_270 : decode cX8_settle 270 = .ok (.iload_n 3, 1) := by decide +kernel
theorem dX8_settle_271 : decode cX8_settle 271 = .ok (.if_icmp .le 16, 3) := by decide +kernel
theorem dX8_settle_274 : decode cX8_settle 274 = .ok (.iload 5, 2) := by decide +kernel
theorem dX8_settle_276 : decode cX8_settle 276 = .ok (.ifCond .eq 7, 3) := by decide +kernel
theorem dX8_settle_279 : decode cX8_settle 279 = .ok (.iconst 5, 1) := by decide +kernel
theorem dX8_settle_280 : decode cX8_settle 280 = .ok (.goto 17, 3) := by decide +kernel
theorem dX8_settle_283 : decode cX8_settle 283 = .ok (.iconst 2, 1) := by decide +kernel
theorem dX8_settle_284 : decode cX8_settle 284 = .ok (.goto 13, 3) := by decide +kernel
theorem dX8_settle_287 : decode cX8_settle 287 = .ok (.iload 5, 2) := by decide +kernel
theorem dX8_settle_289 : decode cX8_settle 289 = .ok (.ifCond .eq 7, 3) := by decide +kernel
theorem dX8_settle_292 : decode cX8_settle 292 = .ok (.iconst 4, 1) := by decide +kernel
theorem dX8_settle_293 : decode cX8_settle 293 = .ok (.goto 4, 3) := by decide +kernel
theorem dX8_settle_296 : decode cX8_settle 296 = .ok (.iconst 1, 1) := by decide +kernel
theorem dX8_settle_297 : decode cX8_settle 297 = .ok (.iastore, 1) := by decide +kernel
theorem dX8_settle_298 : decode cX8_settle 298 = .ok (.aload_n 0, 1) := by decide +kernel
theorem dX8_settle_299 : decode cX8_settle 299 = .ok (.invokevirtual 200, 3) := by decide +kernel
theorem dX8_settle_302 : decode cX8_settle 302 = .ok (.return_, 1) := by decide +kernel
theorem dX8_told_0 : decode cX8_told 0 = .ok (.iload_n 1, 1) := by decide +kernel
theorem dX8_told_1 : decode cX8_told 1 = .ok (.invokestatic 147, 3) := by decide +kernel
theorem dX8_told_4 : decode cX8_told 4 = .ok (.ifCond .ne 5, 3) := by decide +kernel
theorem dX8_told_7 : decode cX8_told 7 = .ok (.iconst (-1), 1) := by decide +kernel
theorem dX8_told_8 : decode cX8_told 8 = .ok (.ireturn, 1) := by decide +kernel
theorem dX8_told_9 : decode cX8_told 9 = .ok (.iconst 0, 1) := by decide +kernel
theorem dX8_told_10 : decode cX8_told 10 = .ok (.istore_n 3, 1) := by decide +kernel
theorem dX8_told_11 : decode cX8_told 11 = .ok (.iload_n 2, 1) := by decide +kernel
theorem dX8_told_12 : decode cX8_told 12 = .ok (.tableswitch 144 0 7 #[48, 55, 62, 69, 76, 91, 130, 137], 48) := by decide +kernel
theorem dX8_told_60 : decode cX8_told 60 = .ok (.aload_n 0, 1) := by decide +kernel
theorem dX8_told_61 : decode cX8_told 61 = .ok (.getfield 86, 3) := by decide +kernel
theorem dX8_told_64 : decode cX8_told 64 = .ok (.iload_n 1, 1) := by decide +kernel
theorem dX8_told_65 : decode cX8_told 65 = .ok (.iaload, 1) := by decide +kernel
theorem dX8_told_66 : decode cX8_told 66 = .ok (.ireturn, 1) := by decide +kernel
theorem dX8_told_67 : decode cX8_told 67 = .ok (.aload_n 0, 1) := by decide +kernel
theorem dX8_told_68 : decode cX8_told 68 = .ok (.getfield 93, 3) := by decide +kernel
theorem dX8_told_71 : decode cX8_told 71 = .ok (.iload_n 1, 1) := by decide +kernel
theorem dX8_told_72 : decode cX8_told 72 = .ok (.iaload, 1) := by decide +kernel
theorem dX8_told_73 : decode cX8_told 73 = .ok (.ireturn, 1) := by decide +kernel
theorem dX8_told_74 : decode cX8_told 74 = .ok (.aload_n 0, 1) := by decide +kernel
theorem dX8_told_75 : decode cX8_told 75 = .ok (.getfield 96, 3) := by decide +kernel
theorem dX8_told_78 : decode cX8_told 78 = .ok (.iload_n 1, 1) := by decide +kernel
theorem dX8_told_79 : decode cX8_told 79 = .ok (.iaload, 1) := by decide +kernel
theorem dX8_told_80 : decode cX8_told 80 = .ok (.ireturn, 1) := by decide +kernel
theorem dX8_told_81 : decode cX8_told 81 = .ok (.aload_n 0, 1) := by decide +kernel
theorem dX8_told_82 : decode cX8_told 82 = .ok (.iload_n 1, 1) := by decide +kernel
theorem dX8_told_83 : decode cX8_told 83 = .ok (.iconst (-1), 1) := by decide +kernel
theorem dX8_told_84 : decode cX8_told 84 = .ok (.invokevirtual 170, 3) := by decide +kernel
theorem dX8_told_87 : decode cX8_told 87 = .ok (.ireturn, 1) := by decide +kernel
theorem dX8_told_88 : decode cX8_told 88 = .ok (.aload_n 0, 1) := by decide +kernel
theorem dX8_told_89 : decode cX8_told 89 = .ok (.getfield 99, 3) := by decide +kernel
theorem dX8_told_92 : decode cX8_told 92 = .ok (.iload_n 1, 1) := by decide +kernel
theorem dX8_told_93 : decode cX8_told 93 = .ok (.baload, 1) := by decide +kernel
theorem dX8_told_94 : decode cX8_told 94 = .ok (.ifCond .eq 7, 3) := by decide +kernel
theorem dX8_told_97 : decode cX8_told 97 = .ok (.iconst 1, 1) := by decide +kernel
theorem dX8_told_98 : decode cX8_told 98 = .ok (.goto 4, 3) := by decide +kernel
theorem dX8_told_101 : decode cX8_told 101 = .ok (.iconst 0, 1) := by decide +kernel
theorem dX8_told_102 : decode cX8_told 102 = .ok (.ireturn, 1) := by decide +kernel
theorem dX8_told_103 : decode cX8_told 103 = .ok (.iconst 0, 1) := by decide +kernel
theorem dX8_told_104 : decode cX8_told 104 = .ok (.istore 4, 2) := by decide +kernel
theorem dX8_told_106 : decode cX8_told 106 = .ok (.iload 4, 2) := by decide +kernel
theorem dX8_told_108 : decode cX8_told 108 = .ok (.aload_n 0, 1) := by decide +kernel
theorem dX8_told_109 : decode cX8_told 109 = .ok (.getfield 160, 3) := by decide +kernel
theorem dX8_told_112 : decode cX8_told 112 = .ok (.if_icmp .ge 28, 3) := by decide +kernel
theorem dX8_told_115 : decode cX8_told 115 = .ok (.iload_n 3, 1) := by decide +kernel
theorem dX8_told_116 : decode cX8_told 116 = .ok (.aload_n 0, 1) := by decide +kernel
theorem dX8_told_117 : decode cX8_told 117 = .ok (.getfield 109, 3) := by decide +kernel
theorem dX8_told_120 : decode cX8_told 120 = .ok (.iload 4, 2) := by decide +kernel
theorem dX8_told_122 : decode cX8_told 122 = .ok (.iaload, 1) := by decide +kernel
theorem dX8_told_123 : decode cX8_told 123 = .ok (.iload_n 1, 1) := by decide +kernel
theorem dX8_told_124 : decode cX8_told 124 = .ok (.if_icmp .ne 7, 3) := by decide +kernel
theorem dX8_told_127 : decode cX8_told 127 = .ok (.iconst 1, 1) := by decide +kernel
theorem dX8_told_128 : decode cX8_told 128 = .ok (.goto 4, 3) := by decide +kernel
theorem dX8_told_131 : decode cX8_told 131 = .ok (.iconst 0, 1) := by decide +kernel
theorem dX8_told_132 : decode cX8_told 132 = .ok (.iadd, 1) := by decide +kernel
theorem dX8_told_133 : decode cX8_told 133 = .ok (.istore_n 3, 1) := by decide +kernel
theorem dX8_told_134 : decode cX8_told 134 = .ok (.iinc 4 1, 3) := by decide +kernel
theorem dX8_told_137 : decode cX8_told 137 = .ok (.goto (-31), 3) := by decide +kernel
theorem dX8_told_140 : decode cX8_told 140 = .ok (.iload_n 3, 1) := by decide +kernel
theorem dX8_told_141 : decode cX8_told 141 = .ok (.ireturn, 1) := by decide +kernel
theorem dX8_told_142 : decode cX8_told 142 = .ok (.aload_n 0, 1) := by decide +kernel
theorem dX8_told_143 : decode cX8_told 143 = .ok (.iload_n 1, 1) := by decide +kernel
theorem dX8_told_144 : decode cX8_told 144 = .ok (.iconst 0, 1) := by decide +kernel
theorem dX8_told_145 : decode cX8_told 145 = .ok (.invokevirtual 190, 3) := by decide +kernel
theorem dX8_told_148 : decode cX8_told 148 = .ok (.ireturn, 1) := by decide +kernel
theorem dX8_told_149 : decode cX8_told 149 = .ok (.aload_n 0, 1) := by decide +kernel
theorem dX8_told_150 : decode cX8_told 150 = .ok (.iload_n 1, 1) := by decide +kernel
theorem dX8_told_151 : decode cX8_told 151 = .ok (.iconst 1, 1) := by decide +kernel
theorem dX8_told_152 : decode cX8_told 152 = .ok (.invokevirtual 190, 3) := by decide +kernel
theorem dX8_told_155 : decode cX8_told 155 = .ok (.ireturn, 1) := by decide +kernel
theorem dX8_told_156 : decode cX8_told 156 = .ok (.iconst (-1), 1) := by decide +kernel
theorem dX8_told_157 : decode cX8_told 157 = .ok (.ireturn, 1) := by decide +kernel
theorem dX8_lateBy_0 : decode cX8_lateBy 0 = .ok (.aload_n 0, 1) := by decide +kernel
theorem dX8_lateBy_1 : decode cX8_lateBy 1 = .ok (.getfield 140, 3) := by decide +kernel
theorem dX8_lateBy_4 : decode cX8_lateBy 4 = .ok (.aload_n 0, 1) := by decide +kernel
theorem dX8_lateBy_5 : decode cX8_lateBy 5 = .ok (.getfield 59, 3) := by decide +kernel
theorem dX8_lateBy_8 : decode cX8_lateBy 8 = .ok (.iload_n 1, 1) := by decide +kernel
theorem dX8_lateBy_9 : decode cX8_lateBy 9 = .ok (.iaload, 1) := by decide +kernel
theorem dX8_lateBy_10 : decode cX8_lateBy 10 = .ok (.isub, 1) := by decide +kernel
theorem dX8_lateBy_11 : decode cX8_lateBy 11 = .ok (.aload_n 0, 1) := by decide +kernel
theorem dX8_lateBy_12 : decode cX8_lateBy 12 = .ok (.getfield 19, 3) := by decide +kernel
theorem dX8_lateBy_15 : decode cX8_lateBy 15 = .ok (.aload_n 0, 1) := by decide +kernel
theorem dX8_lateBy_16 : decode cX8_lateBy 16 = .ok (.getfield 56, 3) := by decide +kernel
theorem dX8_lateBy_19 : decode cX8_lateBy 19 = .ok (.iload_n 1, 1) := by decide +kernel
theorem dX8_lateBy_20 : decode cX8_lateBy 20 = .ok (.iaload, 1) := by decide +kernel
theorem dX8_lateBy_21 : decode cX8_lateBy 21 = .ok (.iaload, 1) := by decide +kernel
theorem dX8_lateBy_22 : decode cX8_lateBy 22 = .ok (.isub, 1) := by decide +kernel
theorem dX8_lateBy_23 : decode cX8_lateBy 23 = .ok (.istore_n 2, 1) := by decide +kernel
theorem dX8_lateBy_24 : decode cX8_lateBy 24 = .ok (.aload_n 0, 1) := by decide +kernel
theorem dX8_lateBy_25 : decode cX8_lateBy 25 = .ok (.iload_n 1, 1) := by decide +kernel
theorem dX8_lateBy_26 : decode cX8_lateBy 26 = .ok (.invokevirtual 167, 3) := by decide +kernel
theorem dX8_lateBy_29 : decode cX8_lateBy 29 = .ok (.ifCond .eq 11, 3) := by decide +kernel
theorem dX8_lateBy_32 : decode cX8_lateBy 32 = .ok (.iload_n 2, 1) := by decide +kernel
theorem dX8_lateBy_33 : decode cX8_lateBy 33 = .ok (.ifCond .le 7, 3) := by decide +kernel
theorem dX8_lateBy_36 : decode cX8_lateBy 36 = .ok (.iload_n 2, 1) := by decide +kernel
theorem dX8_lateBy_37 : decode cX8_lateBy 37 = .ok (.goto 4, 3) := by decide +kernel
theorem dX8_lateBy_40 : decode cX8_lateBy 40 = .ok (.iconst 0, 1) := by decide +kernel
theorem dX8_lateBy_41 : decode cX8_lateBy 41 = .ok (.ireturn, 1) := by decide +kernel
theorem dX8_about_0 : decode cX8_about 0 = .ok (.aload_n 0, 1) := by decide +kernel
theorem dX8_about_1 : decode cX8_about 1 = .ok (.iload_n 1, 1) := by decide +kernel
theorem dX8_about_2 : decode cX8_about 2 = .ok (.invokevirtual 184, 3) := by decide +kernel
theorem dX8_about_5 : decode cX8_about 5 = .ok (.ifCond .ne 5, 3) := by decide +kernel
theorem dX8_about_8 : decode cX8_about 8 = .ok (.iconst (-1), 1) := by decide +kernel
theorem dX8_about_9 : decode cX8_about 9 = .ok (.ireturn, 1) := by decide +kernel
theorem dX8_about_10 : decode cX8_about 10 = .ok (.iload_n 2, 1) := by decide +kernel
theorem dX8_about_11 : decode cX8_about 11 = .ok (.tableswitch 112 0 7 #[45, 52, 59, 66, 73, 92, 99, 105], 45) := by decide +kernel
theorem dX8_about_56 : decode cX8_about 56 = .ok (.aload_n 0, 1) := by decide +kernel
theorem dX8_about_57 : decode cX8_about 57 = .ok (.getfield 44, 3) := by decide +kernel
theorem dX8_about_60 : decode cX8_about 60 = .ok (.iload_n 1, 1) := by decide +kernel
theorem dX8_about_61 : decode cX8_about 61 = .ok (.iaload, 1) := by decide +kernel
theorem dX8_about_62 : decode cX8_about 62 = .ok (.ireturn, 1) := by decide +kernel
theorem dX8_about_63 : decode cX8_about 63 = .ok (.aload_n 0, 1) := by decide +kernel
theorem dX8_about_64 : decode cX8_about 64 = .ok (.getfield 47, 3) := by decide +kernel
theorem dX8_about_67 : decode cX8_about 67 = .ok (.iload_n 1, 1) := by decide +kernel
theorem dX8_about_68 : decode cX8_about 68 = .ok (.iaload, 1) := by decide +kernel
theorem dX8_about_69 : decode cX8_about 69 = .ok (.ireturn, 1) := by decide +kernel
theorem dX8_about_70 : decode cX8_about 70 = .ok (.aload_n 0, 1) := by decide +kernel
theorem dX8_about_71 : decode cX8_about 71 = .ok (.getfield 50, 3) := by decide +kernel
theorem dX8_about_74 : decode cX8_about 74 = .ok (.iload_n 1, 1) := by decide +kernel
theorem dX8_about_75 : decode cX8_about 75 = .ok (.iaload, 1) := by decide +kernel
theorem dX8_about_76 : decode cX8_about 76 = .ok (.ireturn, 1) := by decide +kernel
theorem dX8_about_77 : decode cX8_about 77 = .ok (.aload_n 0, 1) := by decide +kernel
theorem dX8_about_78 : decode cX8_about 78 = .ok (.getfield 53, 3) := by decide +kernel
theorem dX8_about_81 : decode cX8_about 81 = .ok (.iload_n 1, 1) := by decide +kernel
theorem dX8_about_82 : decode cX8_about 82 = .ok (.iaload, 1) := by decide +kernel
theorem dX8_about_83 : decode cX8_about 83 = .ok (.ireturn, 1) := by decide +kernel
theorem dX8_about_84 : decode cX8_about 84 = .ok (.aload_n 0, 1) := by decide +kernel
theorem dX8_about_85 : decode cX8_about 85 = .ok (.iload_n 1, 1) := by decide +kernel
theorem dX8_about_86 : decode cX8_about 86 = .ok (.invokevirtual 167, 3) := by decide +kernel
theorem dX8_about_89 : decode cX8_about 89 = .ok (.ifCond .eq 12, 3) := by decide +kernel
theorem dX8_about_92 : decode cX8_about 92 = .ok (.aload_n 0, 1) := by decide +kernel
theorem dX8_about_93 : decode cX8_about 93 = .ok (.getfield 62, 3) := by decide +kernel
theorem dX8_about_96 : decode cX8_about 96 = .ok (.iload_n 1, 1) := by decide +kernel
theorem dX8_about_97 : decode cX8_about 97 = .ok (.iaload, 1) := by decide +kernel
theorem dX8_about_98 : decode cX8_about 98 = .ok (.goto 4, 3) := by decide +kernel
theorem dX8_about_101 : decode cX8_about 101 = .ok (.iconst 0, 1) := by decide +kernel
theorem dX8_about_102 : decode cX8_about 102 = .ok (.ireturn, 1) := by decide +kernel
theorem dX8_about_103 : decode cX8_about 103 = .ok (.aload_n 0, 1) := by decide +kernel
theorem dX8_about_104 : decode cX8_about 104 = .ok (.iconst (-1), 1) := by decide +kernel
theorem dX8_about_105 : decode cX8_about 105 = .ok (.iload_n 1, 1) := by decide +kernel
theorem dX8_about_106 : decode cX8_about 106 = .ok (.invokevirtual 170, 3) := by decide +kernel
theorem dX8_about_109 : decode cX8_about 109 = .ok (.ireturn, 1) := by decide +kernel
theorem dX8_about_110 : decode cX8_about 110 = .ok (.aload_n 0, 1) := by decide +kernel
theorem dX8_about_111 : decode cX8_about 111 = .ok (.iload_n 1, 1) := by decide +kernel
theorem dX8_about_112 : decode cX8_about 112 = .ok (.invokevirtual 203, 3) := by decide +kernel
theorem dX8_about_115 : decode cX8_about 115 = .ok (.ireturn, 1) := by decide +kernel
theorem dX8_about_116 : decode cX8_about 116 = .ok (.aload_n 0, 1) := by decide +kernel
theorem dX8_about_117 : decode cX8_about 117 = .ok (.getfield 68, 3) := by decide +kernel
theorem dX8_about_120 : decode cX8_about 120 = .ok (.iload_n 1, 1) := by decide +kernel
theorem dX8_about_121 : decode cX8_about 121 = .ok (.iaload, 1) := by decide +kernel
theorem dX8_about_122 : decode cX8_about 122 = .ok (.ireturn, 1) := by decide +kernel
theorem dX8_about_123 : decode cX8_about 123 = .ok (.iconst (-1), 1) := by decide +kernel
theorem dX8_about_124 : decode cX8_about 124 = .ok (.ireturn, 1) := by decide +kernel
theorem dX8_judged_0 : decode cX8_judged 0 = .ok (.aload_n 0, 1) := by decide +kernel
theorem dX8_judged_1 : decode cX8_judged 1 = .ok (.iload_n 1, 1) := by decide +kernel
theorem dX8_judged_2 : decode cX8_judged 2 = .ok (.invokevirtual 184, 3) := by decide +kernel
theorem dX8_judged_5 : decode cX8_judged 5 = .ok (.ifCond .eq 12, 3) := by decide +kernel
theorem dX8_judged_8 : decode cX8_judged 8 = .ok (.iload_n 2, 1) := by decide +kernel
theorem dX8_judged_9 : decode cX8_judged 9 = .ok (.iconst 0, 1) := by decide +kernel
theorem dX8_judged_10 : decode cX8_judged 10 = .ok (.iconst 2, 1) := by decide +kernel
theorem dX8_judged_11 : decode cX8_judged 11 = .ok (.invokestatic 136, 3) := by decide +kernel
theorem dX8_judged_14 : decode cX8_judged 14 = .ok (.ifCond .ne 5, 3) := by decide +kernel
theorem dX8_judged_17 : decode cX8_judged 17 = .ok (.iconst (-1), 1) := by decide +kernel
theorem dX8_judged_18 : decode cX8_judged 18 = .ok (.ireturn, 1) := by decide +kernel
theorem dX8_judged_19 : decode cX8_judged 19 = .ok (.aload_n 0, 1) := by decide +kernel
theorem dX8_judged_20 : decode cX8_judged 20 = .ok (.getfield 68, 3) := by decide +kernel
theorem dX8_judged_23 : decode cX8_judged 23 = .ok (.iload_n 1, 1) := by decide +kernel
theorem dX8_judged_24 : decode cX8_judged 24 = .ok (.iaload, 1) := by decide +kernel
theorem dX8_judged_25 : decode cX8_judged 25 = .ok (.ifCond .ne 6, 3) := by decide +kernel
theorem dX8_judged_28 : decode cX8_judged 28 = .ok (.bipush (-4), 2) := by decide +kernel
theorem dX8_judged_30 : decode cX8_judged 30 = .ok (.ireturn, 1) := by decide +kernel
theorem dX8_judged_31 : decode cX8_judged 31 = .ok (.iload_n 2, 1) := by decide +kernel
theorem dX8_judged_32 : decode cX8_judged 32 = .ok (.ifCond .ne 12, 3) := by decide +kernel
theorem dX8_judged_35 : decode cX8_judged 35 = .ok (.aload_n 0, 1) := by decide +kernel
theorem dX8_judged_36 : decode cX8_judged 36 = .ok (.getfield 77, 3) := by decide +kernel
theorem dX8_judged_39 : decode cX8_judged 39 = .ok (.iload_n 1, 1) := by decide +kernel
theorem dX8_judged_40 : decode cX8_judged 40 = .ok (.iaload, 1) := by decide +kernel
theorem dX8_judged_41 : decode cX8_judged 41 = .ok (.goto 23, 3) := by decide +kernel
theorem dX8_judged_44 : decode cX8_judged 44 = .ok (.iload_n 2, 1) := by decide +kernel
theorem dX8_judged_45 : decode cX8_judged 45 = .ok (.iconst 1, 1) := by decide +kernel
theorem dX8_judged_46 : decode cX8_judged 46 = .ok (.if_icmp .ne 12, 3) := by decide +kernel
theorem dX8_judged_49 : decode cX8_judged 49 = .ok (.aload_n 0, 1) := by decide +kernel
theorem dX8_judged_50 : decode cX8_judged 50 = .ok (.getfield 80, 3) := by decide +kernel
theorem dX8_judged_53 : decode cX8_judged 53 = .ok (.iload_n 1, 1) := by decide +kernel
theorem dX8_judged_54 : decode cX8_judged 54 = .ok (.iaload, 1) := by decide +kernel
theorem dX8_judged_55 : decode cX8_judged 55 = .ok (.goto 9, 3) := by decide +kernel
theorem dX8_judged_58 : decode cX8_judged 58 = .ok (.aload_n 0, 1) := by decide +kernel
theorem dX8_judged_59 : decode cX8_judged 59 = .ok (.getfield 83, 3) := by decide +kernel
theorem dX8_judged_62 : decode cX8_judged 62 = .ok (.iload_n 1, 1) := by decide +kernel
