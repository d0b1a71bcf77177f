theorem dX7_post_2 : decode cX7_post 2 = .ok (.bipush 39, 2) := by decide +kernel
theorem dX7_post_4 : decode cX7_post 4 = .ok (.invokestatic 59, 3) := by decide +kernel
theorem dX7_post_7 : decode cX7_post 7 = .ok (.ifCond .eq 25, 3) := by decide +kernel
theorem dX7_post_10 : decode cX7_post 10 = .ok (.iload_n 2, 1) := by decide +kernel
theorem dX7_post_11 : decode cX7_post 11 = .ok (.iconst 1, 1) := by decide +kernel
theorem dX7_post_12 : decode cX7_post 12 = .ok (.sipush 1000, 3) := by decide +kernel
theorem dX7_post_15 : decode cX7_post 15 = .ok (.invokestatic 59, 3) := by decide +kernel
theorem dX7_post_18 : decode cX7_post 18 = .ok (.ifCond .eq 14, 3) := by decide +kernel
theorem dX7_post_21 : decode cX7_post 21 = .ok (.iload_n 3, 1) := by decide +kernel
theorem dX7_post_22 : decode cX7_post 22 = .ok (.iconst 0, 1) := by decide +kernel
theorem dX7_post_23 : decode cX7_post 23 = .ok (.sipush 255, 3) := by decide +kernel
theorem dX7_post_26 : decode cX7_post 26 = .ok (.invokestatic 59, 3) := by decide +kernel
theorem dX7_post_29 : decode cX7_post 29 = .ok (.ifCond .ne 5, 3) := by decide +kernel
theorem dX7_post_32 : decode cX7_post 32 = .ok (.iconst (-1), 1) := by decide +kernel
theorem dX7_post_33 : decode cX7_post 33 = .ok (.ireturn, 1) := by decide +kernel
theorem dX7_post_34 : decode cX7_post 34 = .ok (.aload_n 0, 1) := by decide +kernel
theorem dX7_post_35 : decode cX7_post 35 = .ok (.getfield 24, 3) := by decide +kernel
theorem dX7_post_38 : decode cX7_post 38 = .ok (.invokevirtual 83, 3) := by decide +kernel
theorem dX7_post_41 : decode cX7_post 41 = .ok (.istore 4, 2) := by decide +kernel
theorem dX7_post_43 : decode cX7_post 43 = .ok (.iload 4, 2) := by decide +kernel
theorem dX7_post_45 : decode cX7_post 45 = .ok (.sipush 300, 3) := by decide +kernel
theorem dX7_post_48 : decode cX7_post 48 = .ok (.if_icmp .lt 6, 3) := by decide +kernel
theorem dX7_post_51 : decode cX7_post 51 = .ok (.bipush (-2), 2) := by decide +kernel
theorem dX7_post_53 : decode cX7_post 53 = .ok (.ireturn, 1) := by decide +kernel
theorem dX7_post_54 : decode cX7_post 54 = .ok (.aload_n 0, 1) := by decide +kernel
theorem dX7_post_55 : decode cX7_post 55 = .ok (.getfield 24, 3) := by decide +kernel
theorem dX7_post_58 : decode cX7_post 58 = .ok (.new 87, 3) := by decide +kernel
theorem dX7_post_61 : decode cX7_post 61 = .ok (.dup, 1) := by decide +kernel
theorem dX7_post_62 : decode cX7_post 62 = .ok (.iload 4, 2) := by decide +kernel
theorem dX7_post_64 : decode cX7_post 64 = .ok (.iload_n 1, 1) := by decide +kernel
theorem dX7_post_65 : decode cX7_post 65 = .ok (.iload_n 2, 1) := by decide +kernel
theorem dX7_post_66 : decode cX7_post 66 = .ok (.iload_n 3, 1) := by decide +kernel
theorem dX7_post_67 : decode cX7_post 67 = .ok (.aload_n 0, 1) := by decide +kernel
theorem dX7_post_68 : decode cX7_post 68 = .ok (.getfield 45, 3) := by decide +kernel
theorem dX7_post_71 : decode cX7_post 71 = .ok (.invokespecial 89, 3) := by decide +kernel
theorem dX7_post_74 : decode cX7_post 74 = .ok (.invokevirtual 92, 3) := by decide +kernel
theorem dX7_post_77 : decode cX7_post 77 = .ok (.pop, 1) := by decide +kernel
theorem dX7_post_78 : decode cX7_post 78 = .ok (.iload 4, 2) := by decide +kernel
theorem dX7_post_80 : decode cX7_post 80 = .ok (.ireturn, 1) := by decide +kernel
theorem dX7_complain_0 : decode cX7_complain 0 = .ok (.aload_n 0, 1) := by decide +kernel
theorem dX7_complain_1 : decode cX7_complain 1 = .ok (.iload_n 1, 1) := by decide +kernel
theorem dX7_complain_2 : decode cX7_complain 2 = .ok (.invokevirtual 96, 3) := by decide +kernel
theorem dX7_complain_5 : decode cX7_complain 5 = .ok (.astore_n 3, 1) := by decide +kernel
theorem dX7_complain_6 : decode cX7_complain 6 = .ok (.aload_n 0, 1) := by decide +kernel
theorem dX7_complain_7 : decode cX7_complain 7 = .ok (.iload_n 2, 1) := by decide +kernel
theorem dX7_complain_8 : decode cX7_complain 8 = .ok (.invokevirtual 64, 3) := by decide +kernel
theorem dX7_complain_11 : decode cX7_complain 11 = .ok (.astore 4, 2) := by decide +kernel
theorem dX7_complain_13 : decode cX7_complain 13 = .ok (.aload_n 3, 1) := by decide +kernel
theorem dX7_complain_14 : decode cX7_complain 14 = .ok (.ifnull 8, 3) := by decide +kernel
theorem dX7_complain_17 : decode cX7_complain 17 = .ok (.aload 4, 2) := by decide +kernel
theorem dX7_complain_19 : decode cX7_complain 19 = .ok (.ifnonnull 5, 3) := by decide +kernel
theorem dX7_complain_22 : decode cX7_complain 22 = .ok (.iconst (-1), 1) := by decide +kernel
theorem dX7_complain_23 : decode cX7_complain 23 = .ok (.ireturn, 1) := by decide +kernel
theorem dX7_complain_24 : decode cX7_complain 24 = .ok (.aload_n 3, 1) := by decide +kernel
theorem dX7_complain_25 : decode cX7_complain 25 = .ok (.iload_n 2, 1) := by decide +kernel
theorem dX7_complain_26 : decode cX7_complain 26 = .ok (.invokevirtual 100, 3) := by decide +kernel
theorem dX7_complain_29 : decode cX7_complain 29 = .ok (.astore 5, 2) := by decide +kernel
theorem dX7_complain_31 : decode cX7_complain 31 = .ok (.aload 5, 2) := by decide +kernel
theorem dX7_complain_33 : decode cX7_complain 33 = .ok (.ifnull 20, 3) := by decide +kernel
theorem dX7_complain_36 : decode cX7_complain 36 = .ok (.aload 5, 2) := by decide +kernel
theorem dX7_complain_38 : decode cX7_complain 38 = .ok (.dup, 1) := by decide +kernel
theorem dX7_complain_39 : decode cX7_complain 39 = .ok (.getfield 104, 3) := by decide +kernel
theorem dX7_complain_42 : decode cX7_complain 42 = .ok (.iconst 1, 1) := by decide +kernel
theorem dX7_complain_43 : decode cX7_complain 43 = .ok (.iadd, 1) := by decide +kernel
theorem dX7_complain_44 : decode cX7_complain 44 = .ok (.putfield 104, 3) := by decide +kernel
theorem dX7_complain_47 : decode cX7_complain 47 = .ok (.aload 5, 2) := by decide +kernel
theorem dX7_complain_49 : decode cX7_complain 49 = .ok (.getfield 109, 3) := by decide +kernel
theorem dX7_complain_52 : decode cX7_complain 52 = .ok (.ireturn, 1) := by decide +kernel
theorem dX7_complain_53 : decode cX7_complain 53 = .ok (.aload_n 0, 1) := by decide +kernel
theorem dX7_complain_54 : decode cX7_complain 54 = .ok (.getfield 28, 3) := by decide +kernel
theorem dX7_complain_57 : decode cX7_complain 57 = .ok (.invokevirtual 83, 3) := by decide +kernel
theorem dX7_complain_60 : decode cX7_complain 60 = .ok (.istore 6, 2) := by decide +kernel
theorem dX7_complain_62 : decode cX7_complain 62 = .ok (.iload 6, 2) := by decide +kernel
theorem dX7_complain_64 : decode cX7_complain 64 = .ok (.sipush 400, 3) := by decide +kernel
theorem dX7_complain_67 : decode cX7_complain 67 = .ok (.if_icmp .lt 6, 3) := by decide +kernel
theorem dX7_complain_70 : decode cX7_complain 70 = .ok (.bipush (-2), 2) := by decide +kernel
theorem dX7_complain_72 : decode cX7_complain 72 = .ok (.ireturn, 1) := by decide +kernel
theorem dX7_complain_73 : decode cX7_complain 73 = .ok (.new 105, 3) := by decide +kernel
theorem dX7_complain_76 : decode cX7_complain 76 = .ok (.dup, 1) := by decide +kernel
theorem dX7_complain_77 : decode cX7_complain 77 = .ok (.iload 6, 2) := by decide +kernel
theorem dX7_complain_79 : decode cX7_complain 79 = .ok (.aload_n 3, 1) := by decide +kernel
theorem dX7_complain_80 : decode cX7_complain 80 = .ok (.aload 4, 2) := by decide +kernel
theorem dX7_complain_82 : decode cX7_complain 82 = .ok (.aload_n 0, 1) := by decide +kernel
theorem dX7_complain_83 : decode cX7_complain 83 = .ok (.getfield 45, 3) := by decide +kernel
theorem dX7_complain_86 : decode cX7_complain 86 = .ok (.invokespecial 112, 3) := by decide +kernel
theorem dX7_complain_89 : decode cX7_complain 89 = .ok (.astore 7, 2) := by decide +kernel
theorem dX7_complain_91 : decode cX7_complain 91 = .ok (.aload_n 0, 1) := by decide +kernel
theorem dX7_complain_92 : decode cX7_complain 92 = .ok (.getfield 28, 3) := by decide +kernel
theorem dX7_complain_95 : decode cX7_complain 95 = .ok (.aload 7, 2) := by decide +kernel
theorem dX7_complain_97 : decode cX7_complain 97 = .ok (.invokevirtual 92, 3) := by decide +kernel
theorem dX7_complain_100 : decode cX7_complain 100 = .ok (.pop, 1) := by decide +kernel
theorem dX7_complain_101 : decode cX7_complain 101 = .ok (.aload_n 3, 1) := by decide +kernel
theorem dX7_complain_102 : decode cX7_complain 102 = .ok (.aload 7, 2) := by decide +kernel
theorem dX7_complain_104 : decode cX7_complain 104 = .ok (.invokevirtual 115, 3) := by decide +kernel
theorem dX7_complain_107 : decode cX7_complain 107 = .ok (.iload 6, 2) := by decide +kernel
theorem dX7_complain_109 : decode cX7_complain 109 = .ok (.ireturn, 1) := by decide +kernel
theorem dX7_judge_0 : decode cX7_judge 0 = .ok (.aload_n 0, 1) := by decide +kernel
theorem dX7_judge_1 : decode cX7_judge 1 = .ok (.iload_n 1, 1) := by decide +kernel
theorem dX7_judge_2 : decode cX7_judge 2 = .ok (.invokevirtual 119, 3) := by decide +kernel
theorem dX7_judge_5 : decode cX7_judge 5 = .ok (.astore 5, 2) := by decide +kernel
theorem dX7_judge_7 : decode cX7_judge 7 = .ok (.aload 5, 2) := by decide +kernel
theorem dX7_judge_9 : decode cX7_judge 9 = .ok (.ifnull 35, 3) := by decide +kernel
theorem dX7_judge_12 : decode cX7_judge 12 = .ok (.iload_n 2, 1) := by decide +kernel
theorem dX7_judge_13 : decode cX7_judge 13 = .ok (.iconst 0, 1) := by decide +kernel
theorem dX7_judge_14 : decode cX7_judge 14 = .ok (.sipush 255, 3) := by decide +kernel
theorem dX7_judge_17 : decode cX7_judge 17 = .ok (.invokestatic 59, 3) := by decide +kernel
theorem dX7_judge_20 : decode cX7_judge 20 = .ok (.ifCond .eq 24, 3) := by decide +kernel
theorem dX7_judge_23 : decode cX7_judge 23 = .ok (.iload_n 3, 1) := by decide +kernel
theorem dX7_judge_24 : decode cX7_judge 24 = .ok (.iconst 0, 1) := by decide +kernel
theorem dX7_judge_25 : decode cX7_judge 25 = .ok (.bipush 20, 2) := by decide +kernel
theorem dX7_judge_27 : decode cX7_judge 27 = .ok (.invokestatic 59, 3) := by decide +kernel
theorem dX7_judge_30 : decode cX7_judge 30 = .ok (.ifCond .eq 14, 3) := by decide +kernel
theorem dX7_judge_33 : decode cX7_judge 33 = .ok (.iload 4, 2) := by decide +kernel
theorem dX7_judge_35 : decode cX7_judge 35 = .ok (.iconst 1, 1) := by decide +kernel
theorem dX7_judge_36 : decode cX7_judge 36 = .ok (.bipush 10, 2) := by decide +kernel
theorem dX7_judge_38 : decode cX7_judge 38 = .ok (.invokestatic 59, 3) := by decide +kernel
theorem dX7_judge_41 : decode cX7_judge 41 = .ok (.ifCond .ne 5, 3) := by decide +kernel
theorem dX7_judge_44 : decode cX7_judge 44 = .ok (.iconst (-1), 1) := by decide +kernel
theorem dX7_judge_45 : decode cX7_judge 45 = .ok (.ireturn, 1) := by decide +kernel
theorem dX7_judge_46 : decode cX7_judge 46 = .ok (.aload 5, 2) := by decide +kernel
theorem dX7_judge_48 : decode cX7_judge 48 = .ok (.iload_n 2, 1) := by decide +kernel
theorem dX7_judge_49 : decode cX7_judge 49 = .ok (.putfield 123, 3) := by decide +kernel
theorem dX7_judge_52 : decode cX7_judge 52 = .ok (.aload 5, 2) := by decide +kernel
theorem dX7_judge_54 : decode cX7_judge 54 = .ok (.iload_n 3, 1) := by decide +kernel
theorem dX7_judge_55 : decode cX7_judge 55 = .ok (.putfield 126, 3) := by decide +kernel
theorem dX7_judge_58 : decode cX7_judge 58 = .ok (.aload 5, 2) := by decide +kernel
theorem dX7_judge_60 : decode cX7_judge 60 = .ok (.iload 4, 2) := by decide +kernel
theorem dX7_judge_62 : decode cX7_judge 62 = .ok (.putfield 129, 3) := by decide +kernel
theorem dX7_judge_65 : decode cX7_judge 65 = .ok (.iconst 1, 1) := by decide +kernel
theorem dX7_judge_66 : decode cX7_judge 66 = .ok (.ireturn, 1) := by decide +kernel
theorem dX7_kin_0 : decode cX7_kin 0 = .ok (.aload_n 0, 1) := by decide +kernel
theorem dX7_kin_1 : decode cX7_kin 1 = .ok (.iload_n 1, 1) := by decide +kernel
theorem dX7_kin_2 : decode cX7_kin 2 = .ok (.invokevirtual 119, 3) := by decide +kernel
theorem dX7_kin_5 : decode cX7_kin 5 = .ok (.astore 4, 2) := by decide +kernel
theorem dX7_kin_7 : decode cX7_kin 7 = .ok (.aload 4, 2) := by decide +kernel
theorem dX7_kin_9 : decode cX7_kin 9 = .ok (.ifnull 22, 3) := by decide +kernel
theorem dX7_kin_12 : decode cX7_kin 12 = .ok (.iload_n 2, 1) := by decide +kernel
theorem dX7_kin_13 : decode cX7_kin 13 = .ok (.iconst 0, 1) := by decide +kernel
theorem dX7_kin_14 : decode cX7_kin 14 = .ok (.bipush 39, 2) := by decide +kernel
theorem dX7_kin_16 : decode cX7_kin 16 = .ok (.invokestatic 59, 3) := by decide +kernel
theorem dX7_kin_19 : decode cX7_kin 19 = .ok (.ifCond .eq 12, 3) := by decide +kernel
theorem dX7_kin_22 : decode cX7_kin 22 = .ok (.iload_n 3, 1) := by decide +kernel
theorem dX7_kin_23 : decode cX7_kin 23 = .ok (.iconst 0, 1) := by decide +kernel
theorem dX7_kin_24 : decode cX7_kin 24 = .ok (.iconst 1, 1) := by decide +kernel
theorem dX7_kin_25 : decode cX7_kin 25 = .ok (.invokestatic 59, 3) := by decide +kernel
theorem dX7_kin_28 : decode cX7_kin 28 = .ok (.ifCond .ne 5, 3) := by decide +kernel
theorem dX7_kin_31 : decode cX7_kin 31 = .ok (.iconst (-1), 1) := by decide +kernel
theorem dX7_kin_32 : decode cX7_kin 32 = .ok (.ireturn, 1) := by decide +kernel
theorem dX7_kin_33 : decode cX7_kin 33 = .ok (.aload 4, 2) := by decide +kernel
theorem dX7_kin_35 : decode cX7_kin 35 = .ok (.iload_n 2, 1) := by decide +kernel
theorem dX7_kin_36 : decode cX7_kin 36 = .ok (.invokevirtual 132, 3) := by decide +kernel
theorem dX7_kin_39 : decode cX7_kin 39 = .ok (.invokestatic 136, 3) := by decide +kernel
theorem dX7_kin_42 : decode cX7_kin 42 = .ok (.istore 5, 2) := by decide +kernel
theorem dX7_kin_44 : decode cX7_kin 44 = .ok (.aload 4, 2) := by decide +kernel
theorem dX7_kin_46 : decode cX7_kin 46 = .ok (.iload_n 2, 1) := by decide +kernel
theorem dX7_kin_47 : decode cX7_kin 47 = .ok (.iload_n 3, 1) := by decide +kernel
theorem dX7_kin_48 : decode cX7_kin 48 = .ok (.iconst 1, 1) := by decide +kernel
theorem dX7_kin_49 : decode cX7_kin 49 = .ok (.if_icmp .ne 7, 3) := by decide +kernel
theorem dX7_kin_52 : decode cX7_kin 52 = .ok (.iconst 1, 1) := by decide +kernel
theorem dX7_kin_53 : decode cX7_kin 53 = .ok (.goto 4, 3) := by decide +kernel
theorem dX7_kin_56 : decode cX7_kin 56 = .ok (.iconst 0, 1) := by decide +kernel
theorem dX7_kin_57 : decode cX7_kin 57 = .ok (.invokevirtual 140, 3) := by decide +kernel
theorem dX7_kin_60 : decode cX7_kin 60 = .ok (.iload 5, 2) := by decide +kernel
theorem dX7_kin_62 : decode cX7_kin 62 = .ok (.ireturn, 1) := by decide +kernel
theorem dX7_rest_0 : decode cX7_rest 0 = .ok (.aload_n 0, 1) := by decide +kernel
theorem dX7_rest_1 : decode cX7_rest 1 = .ok (.iload_n 1, 1) := by decide +kernel
theorem dX7_rest_2 : decode cX7_rest 2 = .ok (.invokevirtual 119, 3) := by decide +kernel
theorem dX7_rest_5 : decode cX7_rest 5 = .ok (.astore_n 3, 1) := by decide +kernel
theorem dX7_rest_6 : decode cX7_rest 6 = .ok (.aload_n 3, 1) := by decide +kernel
theorem dX7_rest_7 : decode cX7_rest 7 = .ok (.ifnull 12, 3) := by decide +kernel
theorem dX7_rest_10 : decode cX7_rest 10 = .ok (.iload_n 2, 1) := by decide +kernel
theorem dX7_rest_11 : decode cX7_rest 11 = .ok (.iconst 0, 1) := by decide +kernel
theorem dX7_rest_12 : decode cX7_rest 12 = .ok (.iconst 1, 1) := by decide +kernel
theorem dX7_rest_13 : decode cX7_rest 13 = .ok (.invokestatic 59, 3) := by decide +kernel
theorem dX7_rest_16 : decode cX7_rest 16 = .ok (.ifCond .ne 5, 3) := by decide +kernel
theorem dX7_rest_19 : decode cX7_rest 19 = .ok (.iconst (-1), 1) := by decide +kernel
theorem dX7_rest_20 : decode cX7_rest 20 = .ok (.ireturn, 1) := by decide +kernel
theorem dX7_rest_21 : decode cX7_rest 21 = .ok (.aload_n 3, 1) := by decide +kernel
theorem dX7_rest_22 : decode cX7_rest 22 = .ok (.getfield 144, 3) := by decide +kernel
theorem dX7_rest_25 : decode cX7_rest 25 = .ok (.invokestatic 136, 3) := by decide +kernel
theorem dX7_rest_28 : decode cX7_rest 28 = .ok (.istore 4, 2) := by decide +kernel
theorem dX7_rest_30 : decode cX7_rest 30 = .ok (.iload_n 2, 1) := by decide +kernel
theorem dX7_rest_31 : decode cX7_rest 31 = .ok (.iconst 1, 1) := by decide +kernel
theorem dX7_rest_32 : decode cX7_rest 32 = .ok (.if_icmp .ne 11, 3) := by decide +kernel
theorem dX7_rest_35 : decode cX7_rest 35 = .ok (.aload_n 0, 1) := by decide +kernel
theorem dX7_rest_36 : decode cX7_rest 36 = .ok (.aload_n 3, 1) := by decide +kernel
theorem dX7_rest_37 : decode cX7_rest 37 = .ok (.invokevirtual 148, 3) := by decide +kernel
theorem dX7_rest_40 : decode cX7_rest 40 = .ok (.goto 8, 3) := by decide +kernel
theorem dX7_rest_43 : decode cX7_rest 43 = .ok (.aload_n 3, 1) := by decide +kernel
theorem dX7_rest_44 : decode cX7_rest 44 = .ok (.iconst 0, 1) := by decide +kernel
theorem dX7_rest_45 : decode cX7_rest 45 = .ok (.putfield 144, 3) := by decide +kernel
theorem dX7_rest_48 : decode cX7_rest 48 = .ok (.iload 4, 2) := by decide +kernel
theorem dX7_rest_50 : decode cX7_rest 50 = .ok (.ireturn, 1) := by decide +kernel
theorem dX7_next_0 : decode cX7_next 0 = .ok (.aload_n 0, 1) := by decide +kernel
theorem dX7_next_1 : decode cX7_next 1 = .ok (.iload_n 1, 1) := by decide +kernel
theorem dX7_next_2 : decode cX7_next 2 = .ok (.invokevirtual 119, 3) := by decide +kernel
theorem dX7_next_5 : decode cX7_next 5 = .ok (.astore_n 2, 1) := by decide +kernel
theorem dX7_next_6 : decode cX7_next 6 = .ok (.aload_n 2, 1) := by decide +kernel
theorem dX7_next_7 : decode cX7_next 7 = .ok (.ifnonnull 5, 3) := by decide +kernel
theorem dX7_next_10 : decode cX7_next 10 = .ok (.iconst (-1), 1) := by decide +kernel
theorem dX7_next_11 : decode cX7_next 11 = .ok (.ireturn, 1) := by decide +kernel
theorem dX7_next_12 : decode cX7_next 12 = .ok (.aload_n 0, 1) := by decide +kernel
theorem dX7_next_13 : decode cX7_next 13 = .ok (.aload_n 2, 1) := by decide +kernel
theorem dX7_next_14 : decode cX7_next 14 = .ok (.invokevirtual 152, 3) := by decide +kernel
theorem dX7_next_17 : decode cX7_next 17 = .ok (.astore_n 3, 1) := by decide +kernel
theorem dX7_next_18 : decode cX7_next 18 = .ok (.aload_n 3, 1) := by decide +kernel
theorem dX7_next_19 : decode cX7_next 19 = .ok (.ifnonnull 8, 3) := by decide +kernel
theorem dX7_next_22 : decode cX7_next 22 = .ok (.bipush (-4), 2) := by decide +kernel
theorem dX7_next_24 : decode cX7_next 24 = .ok (.goto 7, 3) := by decide +kernel
theorem dX7_next_27 : decode cX7_next 27 = .ok (.aload_n 3, 1) := by decide +kernel
theorem dX7_next_28 : decode cX7_next 28 = .ok (.getfield 109, 3) := by decide +kernel
theorem dX7_next_31 : decode cX7_next 31 = .ok (.ireturn, 1) := by decide +kernel
theorem dX7_give_0 : decode cX7_give 0 = .ok (.aload_n 0, 1) := by decide +kernel
theorem dX7_give_1 : decode cX7_give 1 = .ok (.iload_n 1, 1) := by decide +kernel
theorem dX7_give_2 : decode cX7_give 2 = .ok (.invokevirtual 119, 3) := by decide +kernel
theorem dX7_give_5 : decode cX7_give 5 = .ok (.astore_n 2, 1) := by decide +kernel
theorem dX7_give_6 : decode cX7_give 6 = .ok (.aload_n 2, 1) := by decide +kernel
theorem dX7_give_7 : decode cX7_give 7 = .ok (.ifnonnull 5, 3) := by decide +kernel
theorem dX7_give_10 : decode cX7_give 10 = .ok (.iconst (-1), 1) := by decide +kernel
theorem dX7_give_11 : decode cX7_give 11 = .ok (.ireturn, 1) := by decide +kernel
theorem dX7_give_12 : decode cX7_give 12 = .ok (.aload_n 0, 1) := by decide +kernel
theorem dX7_give_13 : decode cX7_give 13 = .ok (.aload_n 2, 1) := by decide +kernel
theorem dX7_give_14 : decode cX7_give 14 = .ok (.invokevirtual 152, 3) := by decide +kernel
theorem dX7_give_17 : decode cX7_give 17 = .ok (.astore_n 3, 1) := by decide +kernel
theorem dX7_give_18 : decode cX7_give 18 = .ok (.aload_n 3, 1) := by decide +kernel
theorem dX7_give_19 : decode cX7_give 19 = .ok (.ifnonnull 6, 3) := by decide +kernel
theorem dX7_give_22 : decode cX7_give 22 = .ok (.bipush (-4), 2) := by decide +kernel
theorem dX7_give_24 : decode cX7_give 24 = .ok (.ireturn, 1) := by decide +kernel
theorem dX7_give_25 : decode cX7_give 25 = .ok (.aload_n 0, 1) := by decide +kernel
theorem dX7_give_26 : decode cX7_give 26 = .ok (.getfield 31, 3) := by decide +kernel
theorem dX7_give_29 : decode cX7_give 29 = .ok (.new 156, 3) := by decide +kernel
theorem dX7_give_32 : decode cX7_give 32 = .ok (.dup, 1) := by decide +kernel
theorem dX7_give_33 : decode cX7_give 33 = .ok (.aload_n 2, 1) := by decide +kernel
theorem dX7_give_34 : decode cX7_give 34 = .ok (.aload_n 3, 1) := by decide +kernel
theorem dX7_give_35 : decode cX7_give 35 = .ok (.invokespecial 158, 3) := by decide +kernel
theorem dX7_give_38 : decode cX7_give 38 = .ok (.invokevirtual 92, 3) := by decide +kernel
theorem dX7_give_41 : decode cX7_give 41 = .ok (.pop, 1) := by decide +kernel
theorem dX7_give_42 : decode cX7_give 42 = .ok (.aload_n 2, 1) := by decide +kernel
theorem dX7_give_43 : decode cX7_give 43 = .ok (.dup, 1) := by decide +kernel
theorem dX7_give_44 : decode cX7_give 44 = .ok (.getfield 161, 3) := by decide +kernel
theorem dX7_give_47 : decode cX7_give 47 = .ok (.iconst 1, 1) := by decide +kernel
theorem dX7_give_48 : decode cX7_give 48 = .ok (.iadd, 1) := by decide +kernel
theorem dX7_give_49 : decode cX7_give 49 = .ok (.putfield 161, 3) := by decide +kernel
theorem dX7_give_52 : decode cX7_give 52 = .ok (.aload_n 3, 1) := by decide +kernel
theorem dX7_give_53 : decode cX7_give 53 = .ok (.dup, 1) := by decide +kernel
theorem dX7_give_54 : decode cX7_give 54 = .ok (.getfield 163, 3) := by decide +kernel
theorem dX7_give_57 : decode cX7_give 57 = .ok (.aload_n 2, 1) := by decide +kernel
theorem dX7_give_58 : decode cX7_give 58 = .ok (.getfield 166, 3) := by decide +kernel
theorem dX7_give_61 : decode cX7_give 61 = .ok (.ior, 1) := by decide +kernel
theorem dX7_give_62 : decode cX7_give 62 = .ok (.putfield 163, 3) := by decide +kernel
theorem dX7_give_65 : decode cX7_give 65 = .ok (.aload_n 3, 1) := by decide +kernel
theorem dX7_give_66 : decode cX7_give 66 = .ok (.getfield 109, 3) := by decide +kernel
theorem dX7_give_69 : decode cX7_give 69 = .ok (.ireturn, 1) := by decide +kernel
theorem dX7_undo_0 : decode cX7_undo 0 = .ok (.aload_n 0, 1) := by decide +kernel
theorem dX7_undo_1 : decode cX7_undo 1 = .ok (.getfield 31, 3) := by decide +kernel
theorem dX7_undo_4 : decode cX7_undo 4 = .ok (.invokevirtual 83, 3) := by decide +kernel
theorem dX7_undo_7 : decode cX7_undo 7 = .ok (.iconst 1, 1) := by decide +kernel
theorem dX7_undo_8 : decode cX7_undo 8 = .ok (.isub, 1) := by decide +kernel
theorem dX7_undo_9 : decode cX7_undo 9 = .ok (.istore_n 1, 1) := by decide +kernel
theorem dX7_undo_10 : decode cX7_undo 10 = .ok (.iload_n 1, 1) := by decide +kernel
theorem dX7_undo_11 : decode cX7_undo 11 = .ok (.ifCond .ge 6, 3) := by decide +kernel
theorem dX7_undo_14 : decode cX7_undo 14 = .ok (.bipush (-4), 2) := by decide +kernel
theorem dX7_undo_16 : decode cX7_undo 16 = .ok (.ireturn, 1) := by decide +kernel
theorem dX7_undo_17 : decode cX7_undo 17 = .ok (.aload_n 0, 1) := by decide +kernel
theorem dX7_undo_18 : decode cX7_undo 18 = .ok (.getfield 31, 3) := by decide +kernel
theorem dX7_undo_21 : decode cX7_undo 21 = .ok (.iload_n 1, 1) := by decide +kernel
theorem dX7_undo_22 : decode cX7_undo 22 = .ok (.invokevirtual 169, 3) := by decide +kernel
theorem dX7_undo_25 : decode cX7_undo 25 = .ok (.checkcast 156, 3) := by decide +kernel
theorem dX7_undo_28 : decode cX7_undo 28 = .ok (.getfield 173, 3) := by decide +kernel
theorem dX7_undo_31 : decode cX7_undo 31 = .ok (.getfield 109, 3) := by decide +kernel
theorem dX7_undo_34 : decode cX7_undo 34 = .ok (.istore_n 2, 1) := by decide +kernel
theorem dX7_undo_35 : decode cX7_undo 35 = .ok (.aload_n 0, 1) := by decide +kernel
theorem dX7_undo_36 : decode cX7_undo 36 = .ok (.iload_n 1, 1) := by decide +kernel
theorem dX7_undo_37 : decode cX7_undo 37 = .ok (.invokevirtual 177, 3) := by decide +kernel
theorem dX7_undo_40 : decode cX7_undo 40 = .ok (.iload_n 2, 1) := by decide +kernel
theorem dX7_undo_41 : decode cX7_undo 41 = .ok (.ireturn, 1) := by decide +kernel
theorem dX7_vote_0 : decode cX7_vote 0 = .ok (.aload_n 0, 1) := by decide +kernel
theorem dX7_vote_1 : decode cX7_vote 1 = .ok (.iload_n 1, 1) := by decide +kernel
theorem dX7_vote_2 : decode cX7_vote 2 = .ok (.invokevirtual 119, 3) := by decide +kernel
theorem dX7_vote_5 : decode cX7_vote 5 = .ok (.astore 4, 2) := by decide +kernel
theorem dX7_vote_7 : decode cX7_vote 7 = .ok (.aload_n 0, 1) := by decide +kernel
theorem dX7_vote_8 : decode cX7_vote 8 = .ok (.iload_n 2, 1) := by decide +kernel
theorem dX7_vote_9 : decode cX7_vote 9 = .ok (.invokevirtual 180, 3) := by decide +kernel
theorem dX7_vote_12 : decode cX7_vote 12 = .ok (.astore 5, 2) := by decide +kernel
theorem dX7_vote_14 : decode cX7_vote 14 = .ok (.aload 4, 2) := by decide +kernel
theorem dX7_vote_16 : decode cX7_vote 16 = .ok (.ifnull 17, 3) := by decide +kernel
theorem dX7_vote_19 : decode cX7_vote 19 = .ok (.aload 5, 2) := by decide +kernel
theorem dX7_vote_21 : decode cX7_vote 21 = .ok (.ifnull 12, 3) := by decide +kernel
theorem dX7_vote_24 : decode cX7_vote 24 = .ok (.iload_n 3, 1) := by decide +kernel
theorem dX7_vote_25 : decode cX7_vote 25 = .ok (.iconst 0, 1) := by decide +kernel
theorem dX7_vote_26 : decode cX7_vote 26 = .ok (.iconst 1, 1) := by decide +kernel
theorem dX7_vote_27 : decode cX7_vote 27 = .ok (.invokestatic 59, 3) := by decide +kernel
theorem dX7_vote_30 : decode cX7_vote 30 = .ok (.ifCond .ne 5, 3) := by decide +kernel
theorem dX7_vote_33 : decode cX7_vote 33 = .ok (.iconst (-1), 1) := by decide +kernel
theorem dX7_vote_34 : decode cX7_vote 34 = .ok (.ireturn, 1) := by decide +kernel
theorem dX7_vote_35 : decode cX7_vote 35 = .ok (.aload_n 0, 1) := by decide +kernel
theorem dX7_vote_36 : decode cX7_vote 36 = .ok (.aload 4, 2) := by decide +kernel
theorem dX7_vote_38 : decode cX7_vote 38 = .ok (.aload 5, 2) := by decide +kernel
theorem dX7_vote_40 : decode cX7_vote 40 = .ok (.invokevirtual 183, 3) := by decide +kernel
theorem dX7_vote_43 : decode cX7_vote 43 = .ok (.istore 6, 2) := by decide +kernel
theorem dX7_vote_45 : decode cX7_vote 45 = .ok (.iload 6, 2) := by decide +kernel
theorem dX7_vote_47 : decode cX7_vote 47 = .ok (.ifCond .ge 6, 3) := by decide +kernel
theorem dX7_vote_50 : decode cX7_vote 50 = .ok (.bipush (-4), 2) := by decide +kernel
theorem dX7_vote_52 : decode cX7_vote 52 = .ok (.ireturn, 1) := by decide +kernel
theorem dX7_vote_53 : decode cX7_vote 53 = .ok (.aload_n 0, 1) := by decide +kernel
theorem dX7_vote_54 : decode cX7_vote 54 = .ok (.iload 6, 2) := by decide +kernel
theorem dX7_vote_56 : decode cX7_vote 56 = .ok (.invokevirtual 177, 3) := by decide +kernel
theorem dX7_vote_59 : decode cX7_vote 59 = .ok (.aload 4, 2) := by decide +kernel
theorem dX7_vote_61 : decode cX7_vote 61 = .ok (.dup, 1) := by decide +kernel
theorem dX7_vote_62 : decode cX7_vote 62 = .ok (.getfield 187, 3) := by decide +kernel
theorem dX7_vote_65 : decode cX7_vote 65 = .ok (.iconst 1, 1) := by decide +kernel
theorem dX7_vote_66 : decode cX7_vote 66 = .ok (.iadd, 1) := by decide +kernel
theorem dX7_vote_67 : decode cX7_vote 67 = .ok (.putfield 187, 3) := by decide +kernel
theorem dX7_vote_70 : decode cX7_vote 70 = .ok (.aload 5, 2) := by decide +kernel
theorem dX7_vote_72 : decode cX7_vote 72 = .ok (.invokevirtual 190, 3) := by decide +kernel
theorem dX7_vote_75 : decode cX7_vote 75 = .ok (.aload 4, 2) := by decide +kernel
theorem dX7_vote_77 : decode cX7_vote 77 = .ok (.iload_n 3, 1) := by decide +kernel
theorem dX7_vote_78 : decode cX7_vote 78 = .ok (.iconst 1, 1) := by decide +kernel
theorem dX7_vote_79 : decode cX7_vote 79 = .ok (.if_icmp .ne 7, 3) := by decide +kernel
theorem dX7_vote_82 : decode cX7_vote 82 = .ok (.iconst 1, 1) := by decide +kernel
theorem dX7_vote_83 : decode cX7_vote 83 = .ok (.goto 4, 3) := by decide +kernel
theorem dX7_vote_86 : decode cX7_vote 86 = .ok (.iconst 0, 1) := by decide +kernel
theorem dX7_vote_87 : decode cX7_vote 87 = .ok (.invokevirtual 194, 3) := by decide +kernel
theorem dX7_vote_90 : decode cX7_vote 90 = .ok (.aload_n 0, 1) := by decide +kernel
theorem dX7_vote_91 : decode cX7_vote 91 = .ok (.aload 5, 2) := by decide +kernel
theorem dX7_vote_93 : decode cX7_vote 93 = .ok (.invokevirtual 200, 3) := by decide +kernel
theorem dX7_vote_96 : decode cX7_vote 96 = .ok (.aload 5, 2) := by decide +kernel
theorem dX7_vote_98 : decode cX7_vote 98 = .ok (.getfield 203, 3) := by decide +kernel
theorem dX7_vote_101 : decode cX7_vote 101 = .ok (.ireturn, 1) := by decide +kernel
theorem dX7_may_0 : decode cX7_may 0 = .ok (.aload_n 0, 1) := by decide +kernel
theorem dX7_may_1 : decode cX7_may 1 = .ok (.iload_n 1, 1) := by decide +kernel
theorem dX7_may_2 : decode cX7_may 2 = .ok (.invokevirtual 119, 3) := by decide +kernel
theorem dX7_may_5 : decode cX7_may 5 = .ok (.astore_n 3, 1) := by decide +kernel
theorem dX7_may_6 : decode cX7_may 6 = .ok (.aload_n 0, 1) := by decide +kernel
theorem dX7_may_7 : decode cX7_may 7 = .ok (.iload_n 2, 1) := by decide +kernel
theorem dX7_may_8 : decode cX7_may 8 = .ok (.invokevirtual 180, 3) := by decide +kernel
theorem dX7_may_11 : decode cX7_may 11 = .ok (.astore 4, 2) := by decide +kernel
theorem dX7_may_13 : decode cX7_may 13 = .ok (.aload_n 3, 1) := by decide +kernel
theorem dX7_may_14 : decode cX7_may 14 = .ok (.ifnull 8, 3) := by decide +kernel
theorem dX7_may_17 : decode cX7_may 17 = .ok (.aload 4, 2) := by decide +kernel
theorem dX7_may_19 : decode cX7_may 19 = .ok (.ifnonnull 5, 3) := by decide +kernel
theorem dX7_may_22 : decode cX7_may 22 = .ok (.iconst (-1), 1) := by decide +kernel
theorem dX7_may_23 : decode cX7_may 23 = .ok (.ireturn, 1) := by decide +kernel
theorem dX7_may_24 : decode cX7_may 24 = .ok (.aload_n 3, 1) := by decide +kernel
theorem dX7_may_25 : decode cX7_may 25 = .ok (.aload 4, 2) := by decide +kernel
theorem dX7_may_27 : decode cX7_may 27 = .ok (.invokestatic 206, 3) := by decide +kernel
theorem dX7_may_30 : decode cX7_may 30 = .ok (.invokestatic 136, 3) := by decide +kernel
theorem dX7_may_33 : decode cX7_may 33 = .ok (.ireturn, 1) := by decide +kernel
theorem dX7_told_0 : decode cX7_told 0 = .ok (.aload_n 0, 1) := by decide +kernel
theorem dX7_told_1 : decode cX7_told 1 = .ok (.iload_n 1, 1) := by decide +kernel
theorem dX7_told_2 : decode cX7_told 2 = .ok (.invokevirtual 119, 3) := by decide +kernel
theorem dX7_told_5 : decode cX7_told 5 = .ok (.astore_n 3, 1) := by decide +kernel
theorem dX7_told_6 : decode cX7_told 6 = .ok (.aload_n 3, 1) := by decide +kernel
theorem dX7_told_7 : decode cX7_told 7 = .ok (.ifnonnull 5, 3) := by decide +kernel
theorem dX7_told_10 : decode cX7_told 10 = .ok (.iconst (-1), 1) := by decide +kernel
theorem dX7_told_11 : decode cX7_told 11 = .ok (.ireturn, 1) := by decide +kernel
theorem dX7_told_12 : decode cX7_told 12 = .ok (.iload_n 2, 1) := by decide +kernel
theorem dX7_told_13 : decode cX7_told 13 = .ok (.tableswitch 92 0 7 #[47, 52, 57, 62, 67, 75, 80, 86], 47) := by decide +kernel
theorem dX7_told_60 : decode cX7_told 60 = .ok (.aload_n 3, 1) := by decide +kernel
theorem dX7_told_61 : decode cX7_told 61 = .ok (.getfield 123, 3) := by decide +kernel
theorem dX7_told_64 : decode cX7_told 64 = .ok (.ireturn, 1) := by decide +kernel
theorem dX7_told_65 : decode cX7_told 65 = .ok (.aload_n 3, 1) := by decide +kernel
theorem dX7_told_66 : decode cX7_told 66 = .ok (.getfield 126, 3) := by decide +kernel
theorem dX7_told_69 : decode cX7_told 69 = .ok (.ireturn, 1) := by decide +kernel
theorem dX7_told_70 : decode cX7_told 70 = .ok (.aload_n 3, 1) := by decide +kernel
theorem dX7_told_71 : decode cX7_told 71 = .ok (.getfield 129, 3) := by decide +kernel
theorem dX7_told_74 : decode cX7_told 74 = .ok (.ireturn, 1) := by decide +kernel
theorem dX7_told_75 : decode cX7_told 75 = .ok (.aload_n 3, 1) := by decide +kernel
theorem dX7_told_76 : decode cX7_told 76 = .ok (.getfield 161, 3) := by decide +kernel
theorem dX7_told_79 : decode cX7_told 79 = .ok (.ireturn, 1) := by decide +kernel
theorem dX7_told_80 : decode cX7_told 80 = .ok (.aload_n 3, 1) := by decide +kernel
theorem dX7_told_81 : decode cX7_told 81 = .ok (.getfield 144, 3) := by decide +kernel
theorem dX7_told_84 : decode cX7_told 84 = .ok (.invokestatic 136, 3) := by decide +kernel
theorem dX7_told_87 : decode cX7_told 87 = .ok (.ireturn, 1) := by decide +kernel
theorem dX7_told_88 : decode cX7_told 88 = .ok (.aload_n 3, 1) := by decide +kernel
theorem dX7_told_89 : decode cX7_told 89 = .ok (.getfield 187, 3) := by decide +kernel
theorem dX7_told_92 : decode cX7_told 92 = .ok (.ireturn, 1) := by decide +kernel
theorem dX7_told_93 : decode cX7_told 93 = .ok (.aload_n 0, 1) := by decide +kernel
theorem dX7_told_94 : decode cX7_told 94 = .ok (.aload_n 3, 1) := by decide +kernel
theorem dX7_told_95 : decode cX7_told 95 = .ok (.invokevirtual 210, 3) := by decide +kernel
theorem dX7_told_98 : decode cX7_told 98 = .ok (.ireturn, 1) := by decide +kernel
theorem dX7_told_99 : decode cX7_told 99 = .ok (.aload_n 0, 1) := by decide +kernel
theorem dX7_told_100 : decode cX7_told 100 = .ok (.aload_n 3, 1) := by decide +kernel
theorem dX7_told_101 : decode cX7_told 101 = .ok (.invokevirtual 214, 3) := by decide +kernel
theorem dX7_told_104 : decode cX7_told 104 = .ok (.ireturn, 1) := by decide +kernel
theorem dX7_told_105 : decode cX7_told 105 = .ok (.iconst (-1), 1) := by decide +kernel
theorem dX7_told_106 : decode cX7_told 106 = .ok (.ireturn, 1) := by decide +kernel
theorem dX7_about_0 : decode cX7_about 0 = .ok (.aload_n 0, 1) := by decide +kernel
theorem dX7_about_1 : decode cX7_about 1 = .ok (.iload_n 1, 1) := by decide +kernel
theorem dX7_about_2 : decode cX7_about 2 = .ok (.invokevirtual 180, 3) := by decide +kernel
theorem dX7_about_5 : decode cX7_about 5 = .ok (.astore_n 3, 1) := by decide +kernel
theorem dX7_about_6 : decode cX7_about 6 = .ok (.aload_n 3, 1) := by decide +kernel
theorem dX7_about_7 : decode cX7_about 7 = .ok (.ifnonnull 5, 3) := by decide +kernel
theorem dX7_about_10 : decode cX7_about 10 = .ok (.iconst (-1), 1) := by decide +kernel
theorem dX7_about_11 : decode cX7_about 11 = .ok (.ireturn, 1) := by decide +kernel
theorem dX7_about_12 : decode cX7_about 12 = .ok (.iload_n 2, 1) := by decide +kernel
theorem dX7_about_13 : decode cX7_about 13 = .ok (.tableswitch 108 0 7 #[47, 55, 63, 68, 73, 92, 97, 103], 47) := by decide +kernel
theorem dX7_about_60 : decode cX7_about 60 = .ok (.aload_n 3, 1) := by decide +kernel
theorem dX7_about_61 : decode cX7_about 61 = .ok (.getfield 217, 3) := by decide +kernel
theorem dX7_about_64 : decode cX7_about 64 = .ok (.getfield 221, 3) := by decide +kernel
theorem dX7_about_67 : decode cX7_about 67 = .ok (.ireturn, 1) := by decide +kernel
theorem dX7_about_68 : decode cX7_about 68 = .ok (.aload_n 3, 1) := by decide +kernel
theorem dX7_about_69 : decode cX7_about 69 = .ok (.getfield 222, 3) := by decide +kernel
theorem dX7_about_72 : decode cX7_about 72 = .ok (.getfield 226, 3) := by decide +kernel
theorem dX7_about_75 : decode cX7_about 75 = .ok (.ireturn, 1) := by decide +kernel
theorem dX7_about_76 : decode cX7_about 76 = .ok (.aload_n 3, 1) := by decide +kernel
theorem dX7_about_77 : decode cX7_about 77 = .ok (.getfield 203, 3) := by decide +kernel
theorem dX7_about_80 : decode cX7_about 80 = .ok (.ireturn, 1) := by decide +kernel
theorem dX7_about_81 : decode cX7_about 81 = .ok (.aload_n 3, 1) := by decide +kernel
theorem dX7_about_82 : decode cX7_about 82 = .ok (.getfield 104, 3) := by decide +kernel
theorem dX7_about_85 : decode cX7_about 85 = .ok (.ireturn, 1) := by decide +kernel
theorem dX7_about_86 : decode cX7_about 86 = .ok (.aload_n 3, 1) := by decide +kernel
theorem dX7_about_87 : decode cX7_about 87 = .ok (.invokevirtual 227, 3) := by decide +kernel
theorem dX7_about_90 : decode cX7_about 90 = .ok (.ifCond .eq 13, 3) := by decide +kernel
theorem dX7_about_93 : decode cX7_about 93 = .ok (.aload_n 3, 1) := by decide +kernel
theorem dX7_about_94 : decode cX7_about 94 = .ok (.invokevirtual 190, 3) := by decide +kernel
theorem dX7_about_97 : decode cX7_about 97 = .ok (.getfield 231, 3) := by decide +kernel
theorem dX7_about_100 : decode cX7_about 100 = .ok (.goto 4, 3) := by decide +kernel
theorem dX7_about_103 : decode cX7_about 103 = .ok (.iconst 0, 1) := by decide +kernel
theorem dX7_about_104 : decode cX7_about 104 = .ok (.ireturn, 1) := by decide +kernel
theorem dX7_about_105 : decode cX7_about 105 = .ok (.aload_n 3, 1) := by decide +kernel
theorem dX7_about_106 : decode cX7_about 106 = .ok (.invokevirtual 234, 3) := by decide +kernel
theorem dX7_about_109 : decode cX7_about 109 = .ok (.ireturn, 1) := by decide +kernel
theorem dX7_about_110 : decode cX7_about 110 = .ok (.aload_n 0, 1) := by decide +kernel
theorem dX7_about_111 : decode cX7_about 111 = .ok (.aload_n 3, 1) := by decide +kernel
theorem dX7_about_112 : decode cX7_about 112 = .ok (.invokevirtual 237, 3) := by decide +kernel
theorem dX7_about_115 : decode cX7_about 115 = .ok (.ireturn, 1) := by decide +kernel
theorem dX7_about_116 : decode cX7_about 116 = .ok (.aload_n 3, 1) := by decide +kernel
theorem dX7_about_117 : decode cX7_about 117 = .ok (.invokevirtual 241, 3) := by decide +kernel
theorem dX7_about_120 : decode cX7_about 120 = .ok (.ireturn, 1) := by decide +kernel
theorem dX7_about_121 : decode cX7_about 121 = .ok (.iconst (-1), 1) := by decide +kernel
theorem dX7_about_122 : decode cX7_about 122 = .ok (.ireturn, 1) := by decide +kernel
theorem dX7_judged_0 : decode cX7_judged 0 = .ok (.aload_n 0, 1) := by decide +kernel
theorem dX7_judged_1 : decode cX7_judged 1 = .ok (.iload_n 1, 1) := by decide +kernel
theorem dX7_judged_2 : decode cX7_judged 2 = .ok (.invokevirtual 180, 3) := by decide +kernel
theorem dX7_judged_5 : decode cX7_judged 5 = .ok (.astore_n 3, 1) := by decide +kernel
theorem dX7_judged_6 : decode cX7_judged 6 = .ok (.aload_n 3, 1) := by decide +kernel
theorem dX7_judged_7 : decode cX7_judged 7 = .ok (.ifnull 12, 3) := by decide +kernel
theorem dX7_judged_10 : decode cX7_judged 10 = .ok (.iload_n 2, 1) := by decide +kernel
theorem dX7_judged_11 : decode cX7_judged 11 = .ok (.iconst 0, 1) := by decide +kernel
theorem dX7_judged_12 : decode cX7_judged 12 = .ok (.iconst 2, 1) := by decide +kernel
theorem dX7_judged_13 : decode cX7_judged 13 = .ok (.invokestatic 59, 3) := by decide +kernel
theorem dX7_judged_16 : decode cX7_judged 16 = .ok (.ifCond .ne 5, 3) := by decide +kernel
theorem dX7_judged_19 : decode cX7_judged 19 = .ok (.iconst (-1), 1) := by decide +kernel
theorem dX7_judged_20 : decode cX7_judged 20 = .ok (.ireturn, 1) := by decide +kernel
theorem dX7_judged_21 : decode cX7_judged 21 = .ok (.aload_n 3, 1) := by decide +kernel
theorem dX7_judged_22 : decode cX7_judged 22 = .ok (.invokevirtual 244, 3) := by decide +kernel
theorem dX7_judged_25 : decode cX7_judged 25 = .ok (.astore 4, 2) := by decide +kernel
theorem dX7_judged_27 : decode cX7_judged 27 = .ok (.aload 4, 2) := by decide +kernel
theorem dX7_judged_29 : decode cX7_judged 29 = .ok (.ifnonnull 6, 3) := by decide +kernel
theorem dX7_judged_32 : decode cX7_judged 32 = .ok (.bipush (-4), 2) := by decide +kernel
theorem dX7_judged_34 : decode cX7_judged 34 = .ok (.ireturn, 1) := by decide +kernel
theorem dX7_judged_35 : decode cX7_judged 35 = .ok (.iload_n 2, 1) := by decide +kernel
theorem dX7_judged_36 : decode cX7_judged 36 = .ok (.lookupswitch 40 #[(0, 28), (1, 34)], 28) := by decide +kernel
theorem dX7_judged_64 : decode cX7_judged 64 = .ok (.aload 4, 2) := by decide +kernel
theorem dX7_judged_66 : decode cX7_judged 66 = .ok (.invokevirtual 247, 3) := by decide +kernel
theorem dX7_judged_69 : decode cX7_judged 69 = .ok (.ireturn, 1) := by decide +kernel
theorem dX7_judged_70 : decode cX7_judged 70 = .ok (.aload 4, 2) := by decide +kernel
theorem dX7_judged_72 : decode cX7_judged 72 = .ok (.getfield 249, 3) := by decide +kernel
theorem dX7_judged_75 : decode cX7_judged 75 = .ok (.ireturn, 1) := by decide +kernel
theorem dX7_judged_76 : decode cX7_judged 76 = .ok (.aload 4, 2) := by decide +kernel
theorem dX7_judged_78 : decode cX7_judged 78 = .ok (.getfield 252, 3) := by decide +kernel
theorem dX7_judged_81 : decode cX7_judged 81 = .ok (.ireturn, 1) := by decide +kernel
theorem dX7_appeal_0 : decode cX7_appeal 0 = .ok (.aload_n 0, 1) := by decide +kernel
theorem dX7_appeal_1 : decode cX7_appeal 1 = .ok (.iload_n 1, 1) := by decide +kernel
theorem dX7_appeal_2 : decode cX7_appeal 2 = .ok (.invokevirtual 180, 3) := by decide +kernel
theorem dX7_appeal_5 : decode cX7_appeal 5 = .ok (.astore_n 2, 1) := by decide +kernel
theorem dX7_appeal_6 : decode cX7_appeal 6 = .ok (.aload_n 2, 1) := by decide +kernel
theorem dX7_appeal_7 : decode cX7_appeal 7 = .ok (.ifnonnull 5, 3) := by decide +kernel
theorem dX7_appeal_10 : decode cX7_appeal 10 = .ok (.iconst (-1), 1) := by decide +kernel
theorem dX7_appeal_11 : decode cX7_appeal 11 = .ok (.ireturn, 1) := by decide +kernel
theorem dX7_appeal_12 : decode cX7_appeal 12 = .ok (.aload_n 2, 1) := by decide +kernel
theorem dX7_appeal_13 : decode cX7_appeal 13 = .ok (.getfield 203, 3) := by decide +kernel
theorem dX7_appeal_16 : decode cX7_appeal 16 = .ok (.iconst 2, 1) := by decide +kernel
theorem dX7_appeal_17 : decode cX7_appeal 17 = .ok (.if_icmp .eq 6, 3) := by decide +kernel
theorem dX7_appeal_20 : decode cX7_appeal 20 = .ok (.bipush (-4), 2) := by decide +kernel
theorem dX7_appeal_22 : decode cX7_appeal 22 = .ok (.ireturn, 1) := by decide +kernel
theorem dX7_appeal_23 : decode cX7_appeal 23 = .ok (.aload_n 2, 1) := by decide +kernel
theorem dX7_appeal_24 : decode cX7_appeal 24 = .ok (.aload_n 0, 1) := by decide +kernel
theorem dX7_appeal_25 : decode cX7_appeal 25 = .ok (.getfield 45, 3) := by decide +kernel
theorem dX7_appeal_28 : decode cX7_appeal 28 = .ok (.invokevirtual 255, 3) := by decide +kernel
theorem dX7_appeal_31 : decode cX7_appeal 31 = .ok (.iconst 1, 1) := by decide +kernel
theorem dX7_appeal_32 : decode cX7_appeal 32 = .ok (.ireturn, 1) := by decide +kernel
theorem dX7_known_0 : decode cX7_known 0 = .ok (.aload_n 0, 1) := by decide +kernel
theorem dX7_known_1 : decode cX7_known 1 = .ok (.iload_n 1, 1) := by decide +kernel
theorem dX7_known_2 : decode cX7_known 2 = .ok (.invokevirtual 180, 3) := by decide +kernel
theorem dX7_known_5 : decode cX7_known 5 = .ok (.astore_n 3, 1) := by decide +kernel
theorem dX7_known_6 : decode cX7_known 6 = .ok (.aload_n 3, 1) := by decide +kernel
theorem dX7_known_7 : decode cX7_known 7 = .ok (.ifnull 12, 3) := by decide +kernel
theorem dX7_known_10 : decode cX7_known 10 = .ok (.iload_n 2, 1) := by decide +kernel
theorem dX7_known_11 : decode cX7_known 11 = .ok (.iconst (-1), 1) := by decide +kernel
theorem dX7_known_12 : decode cX7_known 12 = .ok (.iconst 1, 1) := by decide +kernel
theorem dX7_known_13 : decode cX7_known 13 = .ok (.invokestatic 59, 3) := by decide +kernel
theorem dX7_known_16 : decode cX7_known 16 = .ok (.ifCond .ne 6, 3) := by decide +kernel
theorem dX7_known_19 : decode cX7_known 19 = .ok (.bipush (-5), 2) := by decide +kernel
theorem dX7_known_21 : decode cX7_known 21 = .ok (.ireturn, 1) := by decide +kernel
theorem dX7_known_22 : decode cX7_known 22 = .ok (.aload_n 3, 1) := by decide +kernel
theorem dX7_known_23 : decode cX7_known 23 = .ok (.getfield 258, 3) := by decide +kernel
theorem dX7_known_26 : decode cX7_known 26 = .ok (.istore 4, 2) := by decide +kernel
theorem dX7_known_28 : decode cX7_known 28 = .ok (.aload_n 3, 1) := by decide +kernel
theorem dX7_known_29 : decode cX7_known 29 = .ok (.iload_n 2, 1) := by decide +kernel
theorem dX7_known_30 : decode cX7_known 30 = .ok (.putfield 258, 3) := by decide +kernel
theorem dX7_known_33 : decode cX7_known 33 = .ok (.aload_n 0, 1) := by decide +kernel
theorem dX7_known_34 : decode cX7_known 34 = .ok (.invokevirtual 261, 3) := by decide +kernel
theorem dX7_known_37 : decode cX7_known 37 = .ok (.iload 4, 2) := by decide +kernel
theorem dX7_known_39 : decode cX7_known 39 = .ok (.ireturn, 1) := by decide +kernel
theorem dX7_late_0 : decode cX7_late 0 = .ok (.bipush (-4), 2) := by decide +kernel
theorem dX7_late_2 : decode cX7_late 2 = .ok (.istore_n 1, 1) := by decide +kernel
theorem dX7_late_3 : decode cX7_late 3 = .ok (.iconst 0, 1) := by decide +kernel
theorem dX7_late_4 : decode cX7_late 4 = .ok (.istore_n 2, 1) := by decide +kernel
theorem dX7_late_5 : decode cX7_late 5 = .ok (.iconst 0, 1) := by decide +kernel
theorem dX7_late_6 : decode cX7_late 6 = .ok (.istore_n 3, 1) := by decide +kernel
theorem dX7_late_7 : decode cX7_late 7 = .ok (.iload_n 3, 1) := by decide +kernel
theorem dX7_late_8 : decode cX7_late 8 = .ok (.aload_n 0, 1) := by decide +kernel
theorem dX7_late_9 : decode cX7_late 9 = .ok (.getfield 28, 3) := by decide +kernel
theorem dX7_late_12 : decode cX7_late 12 = .ok (.invokevirtual 83, 3) := by decide +kernel
theorem dX7_late_15 : decode cX7_late 15 = .ok (.if_icmp .ge 37, 3) := by decide +kernel
theorem dX7_late_18 : decode cX7_late 18 = .ok (.aload_n 0, 1) := by decide +kernel
theorem dX7_late_19 : decode cX7_late 19 = .ok (.aload_n 0, 1) := by decide +kernel
theorem dX7_late_20 : decode cX7_late 20 = .ok (.getfield 28, 3) := by decide +kernel
theorem dX7_late_23 : decode cX7_late 23 = .ok (.iload_n 3, 1) := by decide +kernel
theorem dX7_late_24 : decode cX7_late 24 = .ok (.invokevirtual 169, 3) := by decide +kernel
theorem dX7_late_27 : decode cX7_late 27 = .ok (.checkcast 105, 3) := by decide +kernel
theorem dX7_late_30 : decode cX7_late 30 = .ok (.invokevirtual 237, 3) := by decide +kernel
theorem dX7_late_33 : decode cX7_late 33 = .ok (.istore 4, 2) := by decide +kernel
theorem dX7_late_35 : decode cX7_late 35 = .ok (.iload 4, 2) := by decide +kernel
theorem dX7_late_37 : decode cX7_late 37 = .ok (.iload_n 2, 1) := by decide +kernel
theorem dX7_late_38 : decode cX7_late 38 = .ok (.if_icmp .le 8, 3) := by decide +kernel
theorem dX7_late_41 : decode cX7_late 41 = .ok (.iload 4, 2) := by decide +kernel
theorem dX7_late_43 : decode cX7_late 43 = .ok (.istore_n 2, 1) := by decide +kernel
theorem dX7_late_44 : decode cX7_late 44 = .ok (.iload_n 3, 1) := by decide +kernel
theorem dX7_late_45 : decode cX7_late 45 = .ok (.istore_n 1, 1) := by decide +kernel
theorem dX7_late_46 : decode cX7_late 46 = .ok (.iinc 3 1, 3) := by decide +kernel
theorem dX7_late_49 : decode cX7_late 49 = .ok (.goto (-42), 3) := by decide +kernel
theorem dX7_late_52 : decode cX7_late 52 = .ok (.iload_n 1, 1) := by decide +kernel
theorem dX7_late_53 : decode cX7_late 53 = .ok (.ireturn, 1) := by decide +kernel
theorem dX7_like_0 : decode cX7_like 0 = .ok (.aload_n 0, 1) := by decide +kernel
theorem dX7_like_1 : decode cX7_like 1 = .ok (.iload_n 1, 1) := by decide +kernel
theorem dX7_like_2 : decode cX7_like 2 = .ok (.invokevirtual 180, 3) := by decide +kernel
theorem dX7_like_5 : decode cX7_like 5 = .ok (.astore_n 3, 1) := by decide +kernel
theorem dX7_like_6 : decode cX7_like 6 = .ok (.aload_n 3, 1) := by decide +kernel
theorem dX7_like_7 : decode cX7_like 7 = .ok (.ifnull 13, 3) := by decide +kernel
theorem dX7_like_10 : decode cX7_like 10 = .ok (.iload_n 2, 1) := by decide +kernel
theorem dX7_like_11 : decode cX7_like 11 = .ok (.iconst 0, 1) := by decide +kernel
theorem dX7_like_12 : decode cX7_like 12 = .ok (.bipush 8, 2) := by decide +kernel
theorem dX7_like_14 : decode cX7_like 14 = .ok (.invokestatic 59, 3) := by decide +kernel
theorem dX7_like_17 : decode cX7_like 17 = .ok (.ifCond .ne 5, 3) := by decide +kernel
theorem dX7_like_20 : decode cX7_like 20 = .ok (.iconst (-1), 1) := by decide +kernel
theorem dX7_like_21 : decode cX7_like 21 = .ok (.ireturn, 1) := by decide +kernel
theorem dX7_like_22 : decode cX7_like 22 = .ok (.aload_n 0, 1) := by decide +kernel
theorem dX7_like_23 : decode cX7_like 23 = .ok (.aload_n 3, 1) := by decide +kernel
theorem dX7_like_24 : decode cX7_like 24 = .ok (.iload_n 2, 1) := by decide +kernel
theorem dX7_like_25 : decode cX7_like 25 = .ok (.iconst 0, 1) := by decide +kernel
theorem dX7_like_26 : decode cX7_like 26 = .ok (.invokevirtual 264, 3) := by decide +kernel
theorem dX7_like_29 : decode cX7_like 29 = .ok (.aload_n 0, 1) := by decide +kernel
theorem dX7_like_30 : decode cX7_like 30 = .ok (.aload_n 3, 1) := by decide +kernel
theorem dX7_like_31 : decode cX7_like 31 = .ok (.iload_n 2, 1) := by decide +kernel
theorem dX7_like_32 : decode cX7_like 32 = .ok (.iconst 1, 1) := by decide +kernel
theorem dX7_like_33 : decode cX7_like 33 = .ok (.invokevirtual 264, 3) := by decide +kernel
theorem dX7_like_36 : decode cX7_like 36 = .ok (.iadd, 1) := by decide +kernel
theorem dX7_like_37 : decode cX7_like 37 = .ok (.ireturn, 1) := by decide +kernel
theorem dX7_unlike_0 : decode cX7_unlike 0 = .ok (.aload_n 0, 1) := by decide +kernel
theorem dX7_unlike_1 : decode cX7_unlike 1 = .ok (.iload_n 1, 1) := by decide +kernel
theorem dX7_unlike_2 : decode cX7_unlike 2 = .ok (.invokevirtual 180, 3) := by decide +kernel
theorem dX7_unlike_5 : decode cX7_unlike 5 = .ok (.astore_n 3, 1) := by decide +kernel
theorem dX7_unlike_6 : decode cX7_unlike 6 = .ok (.aload_n 3, 1) := by decide +kernel
theorem dX7_unlike_7 : decode cX7_unlike 7 = .ok (.ifnull 13, 3) := by decide +kernel
theorem dX7_unlike_10 : decode cX7_unlike 10 = .ok (.iload_n 2, 1) := by decide +kernel
theorem dX7_unlike_11 : decode cX7_unlike 11 = .ok (.iconst 0, 1) := by decide +kernel
theorem dX7_unlike_12 : decode cX7_unlike 12 = .ok (.bipush 8, 2) := by decide +kernel
theorem dX7_unlike_14 : decode cX7_unlike 14 = .ok (.invokestatic 59, 3) := by decide +kernel
theorem dX7_unlike_17 : decode cX7_unlike 17 = .ok (.ifCond .ne 5, 3) := by decide +kernel
theorem dX7_unlike_20 : decode cX7_unlike 20 = .ok (.iconst (-1), 1) := by decide +kernel
theorem dX7_unlike_21 : decode cX7_unlike 21 = .ok (.ireturn, 1) := by decide +kernel
theorem dX7_unlike_22 : decode cX7_unlike 22 = .ok (.aload_n 0, 1) := by decide +kernel
theorem dX7_unlike_23 : decode cX7_unlike 23 = .ok (.aload_n 3, 1) := by decide +kernel
theorem dX7_unlike_24 : decode cX7_unlike 24 = .ok (.iload_n 2, 1) := by decide +kernel
theorem dX7_unlike_25 : decode cX7_unlike 25 = .ok (.iconst 0, 1) := by decide +kernel
theorem dX7_unlike_26 : decode cX7_unlike 26 = .ok (.invokevirtual 264, 3) := by decide +kernel
theorem dX7_unlike_29 : decode cX7_unlike 29 = .ok (.istore 4, 2) := by decide +kernel
theorem dX7_unlike_31 : decode cX7_unlike 31 = .ok (.aload_n 0, 1) := by decide +kernel
theorem dX7_unlike_32 : decode cX7_unlike 32 = .ok (.aload_n 3, 1) := by decide +kernel
theorem dX7_unlike_33 : decode cX7_unlike 33 = .ok (.iload_n 2, 1) := by decide +kernel
theorem dX7_unlike_34 : decode cX7_unlike 34 = .ok (.iconst 1, 1) := by decide +kernel
theorem dX7_unlike_35 : decode cX7_unlike 35 = .ok (.invokevirtual 264, 3) := by decide +kernel
theorem dX7_unlike_38 : decode cX7_unlike 38 = .ok (.istore 5, 2) := by decide +kernel
theorem dX7_unlike_40 : decode cX7_unlike 40 = .ok (.iload 4, 2) := by decide +kernel
theorem dX7_unlike_42 : decode cX7_unlike 42 = .ok (.iload 5, 2) := by decide +kernel
theorem dX7_unlike_44 : decode cX7_unlike 44 = .ok (.if_icmp .ne 7, 3) := by decide +kernel
theorem dX7_unlike_47 : decode cX7_unlike 47 = .ok (.iconst 0, 1) := by decide +kernel
theorem dX7_unlike_48 : decode cX7_unlike 48 = .ok (.goto 10, 3) := by decide +kernel
theorem dX7_unlike_51 : decode cX7_unlike 51 = .ok (.iload 4, 2) := by decide +kernel
theorem dX7_unlike_53 : decode cX7_unlike 53 = .ok (.iload 5, 2) := by decide +kernel
theorem dX7_unlike_55 : decode cX7_unlike 55 = .ok (.invokestatic 268, 3) := by decide +kernel
theorem dX7_unlike_58 : decode cX7_unlike 58 = .ok (.ireturn, 1) := by decide +kernel
theorem dX7_writer_0 : decode cX7_writer 0 = .ok (.iload_n 1, 1) := by decide +kernel
theorem dX7_writer_1 : decode cX7_writer 1 = .ok (.iconst 0, 1) := by decide +kernel
theorem dX7_writer_2 : decode cX7_writer 2 = .ok (.bipush 39, 2) := by decide +kernel
theorem dX7_writer_4 : decode cX7_writer 4 = .ok (.invokestatic 59, 3) := by decide +kernel
theorem dX7_writer_7 : decode cX7_writer 7 = .ok (.ifCond .ne 5, 3) := by decide +kernel
theorem dX7_writer_10 : decode cX7_writer 10 = .ok (.iconst (-1), 1) := by decide +kernel
theorem dX7_writer_11 : decode cX7_writer 11 = .ok (.ireturn, 1) := by decide +kernel
theorem dX7_writer_12 : decode cX7_writer 12 = .ok (.iload_n 2, 1) := by decide +kernel
theorem dX7_writer_13 : decode cX7_writer 13 = .ok (.tableswitch 137 0 6 #[43, 61, 78, 103, 109, 116, 123], 43) := by decide +kernel
theorem dX7_writer_56 : decode cX7_writer 56 = .ok (.aload_n 0, 1) := by decide +kernel
theorem dX7_writer_57 : decode cX7_writer 57 = .ok (.iload_n 1, 1) := by decide +kernel
theorem dX7_writer_58 : decode cX7_writer 58 = .ok (.aconst_null, 1) := by decide +kernel
theorem dX7_writer_59 : decode cX7_writer 59 = .ok (.invokevirtual 274, 3) := by decide +kernel
theorem dX7_writer_62 : decode cX7_writer 62 = .ok (.aload_n 0, 1) := by decide +kernel
theorem dX7_writer_63 : decode cX7_writer 63 = .ok (.getfield 41, 3) := by decide +kernel
theorem dX7_writer_66 : decode cX7_writer 66 = .ok (.aload_n 0, 1) := by decide +kernel
theorem dX7_writer_67 : decode cX7_writer 67 = .ok (.getfield 45, 3) := by decide +kernel
theorem dX7_writer_70 : decode cX7_writer 70 = .ok (.invokevirtual 278, 3) := by decide +kernel
theorem dX7_writer_73 : decode cX7_writer 73 = .ok (.ireturn, 1) := by decide +kernel
theorem dX7_writer_74 : decode cX7_writer 74 = .ok (.aload_n 0, 1) := by decide +kernel
theorem dX7_writer_75 : decode cX7_writer 75 = .ok (.iload_n 1, 1) := by decide +kernel
theorem dX7_writer_76 : decode cX7_writer 76 = .ok (.aconst_null, 1) := by decide +kernel
theorem dX7_writer_77 : decode cX7_writer 77 = .ok (.invokevirtual 274, 3) := by decide +kernel
theorem dX7_writer_80 : decode cX7_writer 80 = .ok (.aload_n 0, 1) := by decide +kernel
theorem dX7_writer_81 : decode cX7_writer 81 = .ok (.getfield 41, 3) := by decide +kernel
theorem dX7_writer_84 : decode cX7_writer 84 = .ok (.getfield 282, 3) := by decide +kernel
theorem dX7_writer_87 : decode cX7_writer 87 = .ok (.invokestatic 136, 3) := by decide +kernel
theorem dX7_writer_90 : decode cX7_writer 90 = .ok (.ireturn, 1) := by decide +kernel
theorem dX7_writer_91 : decode cX7_writer 91 = .ok (.aload_n 0, 1) := by decide +kernel
theorem dX7_writer_92 : decode cX7_writer 92 = .ok (.iload_n 1, 1) := by decide +kernel
theorem dX7_writer_93 : decode cX7_writer 93 = .ok (.aconst_null, 1) := by decide +kernel
theorem dX7_writer_94 : decode cX7_writer 94 = .ok (.invokevirtual 274, 3) := by decide +kernel
theorem dX7_writer_97 : decode cX7_writer 97 = .ok (.aload_n 0, 1) := by decide +kernel
theorem dX7_writer_98 : decode cX7_writer 98 = .ok (.getfield 41, 3) := by decide +kernel
theorem dX7_writer_101 : decode cX7_writer 101 = .ok (.getfield 285, 3) := by decide +kernel
theorem dX7_writer_104 : decode cX7_writer 104 = .ok (.ifCond .lt 7, 3) := by decide +kernel
theorem dX7_writer_107 : decode cX7_writer 107 = .ok (.iconst 1, 1) := by decide +kernel
theorem dX7_writer_108 : decode cX7_writer 108 = .ok (.goto 4, 3) := by decide +kernel
theorem dX7_writer_111 : decode cX7_writer 111 = .ok (.iconst 0, 1) := by decide +kernel
theorem dX7_writer_112 : decode cX7_writer 112 = .ok (.invokestatic 136, 3) := by decide +kernel
theorem dX7_writer_115 : decode cX7_writer 115 = .ok (.ireturn, 1) := by decide +kernel
theorem dX7_writer_116 : decode cX7_writer 116 = .ok (.aload_n 0, 1) := by decide +kernel
theorem dX7_writer_117 : decode cX7_writer 117 = .ok (.iload_n 1, 1) := by decide +kernel
theorem dX7_writer_118 : decode cX7_writer 118 = .ok (.invokevirtual 288, 3) := by decide +kernel
theorem dX7_writer_121 : decode cX7_writer 121 = .ok (.ireturn, 1) := by decide +kernel
theorem dX7_writer_122 : decode cX7_writer 122 = .ok (.aload_n 0, 1) := by decide +kernel
theorem dX7_writer_123 : decode cX7_writer 123 = .ok (.iload_n 1, 1) := by decide +kernel
theorem dX7_writer_124 : decode cX7_writer 124 = .ok (.iconst 0, 1) := by decide +kernel
theorem dX7_writer_125 : decode cX7_writer 125 = .ok (.invokevirtual 291, 3) := by decide +kernel
theorem dX7_writer_128 : decode cX7_writer 128 = .ok (.ireturn, 1) := by decide +kernel
theorem dX7_writer_129 : decode cX7_writer 129 = .ok (.aload_n 0, 1) := by decide +kernel
theorem dX7_writer_130 : decode cX7_writer 130 = .ok (.iload_n 1, 1) := by decide +kernel
theorem dX7_writer_131 : decode cX7_writer 131 = .ok (.iconst 1, 1) := by decide +kernel
theorem dX7_writer_132 : decode cX7_writer 132 = .ok (.invokevirtual 291, 3) := by decide +kernel
theorem dX7_writer_135 : decode cX7_writer 135 = .ok (.ireturn, 1) := by decide +kernel
theorem dX7_writer_136 : decode cX7_writer 136 = .ok (.aload_n 0, 1) := by decide +kernel
theorem dX7_writer_137 : decode cX7_writer 137 = .ok (.iload_n 1, 1) := by decide +kernel
theorem dX7_writer_138 : decode cX7_writer 138 = .ok (.aconst_null, 1) := by decide +kernel
theorem dX7_writer_139 : decode cX7_writer 139 = .ok (.invokevirtual 274, 3) := by decide +kernel
theorem dX7_writer_142 : decode cX7_writer 142 = .ok (.aload_n 0, 1) := by decide +kernel
theorem dX7_writer_143 : decode cX7_writer 143 = .ok (.getfield 41, 3) := by decide +kernel
theorem dX7_writer_146 : decode cX7_writer 146 = .ok (.getfield 285, 3) := by decide +kernel
theorem dX7_writer_149 : decode cX7_writer 149 = .ok (.ireturn, 1) := by decide +kernel
theorem dX7_writer_150 : decode cX7_writer 150 = .ok (.iconst (-1), 1) := by decide +kernel
theorem dX7_writer_151 : decode cX7_writer 151 = .ok (.ireturn, 1) := by decide +kernel
theorem dX7_level_0 : decode cX7_level 0 = .ok (.aload_n 0, 1) := by decide +kernel
theorem dX7_level_1 : decode cX7_level 1 = .ok (.iload_n 1, 1) := by decide +kernel
theorem dX7_level_2 : decode cX7_level 2 = .ok (.invokevirtual 180, 3) := by decide +kernel
theorem dX7_level_5 : decode cX7_level 5 = .ok (.astore_n 2, 1) := by decide +kernel
theorem dX7_level_6 : decode cX7_level 6 = .ok (.aload_n 2, 1) := by decide +kernel
theorem dX7_level_7 : decode cX7_level 7 = .ok (.ifnonnull 5, 3) := by decide +kernel
theorem dX7_level_10 : decode cX7_level 10 = .ok (.iconst (-1), 1) := by decide +kernel
theorem dX7_level_11 : decode cX7_level 11 = .ok (.ireturn, 1) := by decide +kernel
theorem dX7_level_12 : decode cX7_level 12 = .ok (.aload_n 2, 1) := by decide +kernel
theorem dX7_level_13 : decode cX7_level 13 = .ok (.invokevirtual 295, 3) := by decide +kernel
theorem dX7_level_16 : decode cX7_level 16 = .ok (.ifCond .ne 6, 3) := by decide +kernel
theorem dX7_level_19 : decode cX7_level 19 = .ok (.bipush (-4), 2) := by decide +kernel
theorem dX7_level_21 : decode cX7_level 21 = .ok (.ireturn, 1) := by decide +kernel
theorem dX7_level_22 : decode cX7_level 22 = .ok (.aload_n 0, 1) := by decide +kernel
theorem dX7_level_23 : decode cX7_level 23 = .ok (.aload_n 2, 1) := by decide +kernel
theorem dX7_level_24 : decode cX7_level 24 = .ok (.getfield 217, 3) := by decide +kernel
theorem dX7_level_27 : decode cX7_level 27 = .ok (.getfield 298, 3) := by decide +kernel
theorem dX7_level_30 : decode cX7_level 30 = .ok (.aload_n 2, 1) := by decide +kernel
theorem dX7_level_31 : decode cX7_level 31 = .ok (.invokevirtual 274, 3) := by decide +kernel
theorem dX7_level_34 : decode cX7_level 34 = .ok (.aload_n 0, 1) := by decide +kernel
theorem dX7_level_35 : decode cX7_level 35 = .ok (.getfield 41, 3) := by decide +kernel
theorem dX7_level_38 : decode cX7_level 38 = .ok (.getfield 301, 3) := by decide +kernel
theorem dX7_level_41 : decode cX7_level 41 = .ok (.ireturn, 1) := by decide +kernel
theorem dX7_hidden_0 : decode cX7_hidden 0 = .ok (.aload_n 0, 1) := by decide +kernel
theorem dX7_hidden_1 : decode cX7_hidden 1 = .ok (.iload_n 1, 1) := by decide +kernel
theorem dX7_hidden_2 : decode cX7_hidden 2 = .ok (.invokevirtual 96, 3) := by decide +kernel
theorem dX7_hidden_5 : decode cX7_hidden 5 = .ok (.astore_n 2, 1) := by decide +kernel
theorem dX7_hidden_6 : decode cX7_hidden 6 = .ok (.aload_n 2, 1) := by decide +kernel
theorem dX7_hidden_7 : decode cX7_hidden 7 = .ok (.ifnonnull 5, 3) := by decide +kernel
theorem dX7_hidden_10 : decode cX7_hidden 10 = .ok (.iconst (-1), 1) := by decide +kernel
theorem dX7_hidden_11 : decode cX7_hidden 11 = .ok (.ireturn, 1) := by decide +kernel
theorem dX7_hidden_12 : decode cX7_hidden 12 = .ok (.aload_n 2, 1) := by decide +kernel
theorem dX7_hidden_13 : decode cX7_hidden 13 = .ok (.invokevirtual 304, 3) := by decide +kernel
theorem dX7_hidden_16 : decode cX7_hidden 16 = .ok (.invokestatic 136, 3) := by decide +kernel
theorem dX7_hidden_19 : decode cX7_hidden 19 = .ok (.ireturn, 1) := by decide +kernel
theorem dX7_count_0 : decode cX7_count 0 = .ok (.iload_n 1, 1) := by decide +kernel
theorem dX7_count_1 : decode cX7_count 1 = .ok (.tableswitch 78 0 5 #[39, 47, 55, 60, 68, 73], 39) := by decide +kernel
theorem dX7_count_40 : decode cX7_count 40 = .ok (.aload_n 0, 1) := by decide +kernel
theorem dX7_count_41 : decode cX7_count 41 = .ok (.getfield 24, 3) := by decide +kernel
theorem dX7_count_44 : decode cX7_count 44 = .ok (.invokevirtual 83, 3) := by decide +kernel
theorem dX7_count_47 : decode cX7_count 47 = .ok (.ireturn, 1) := by decide +kernel
theorem dX7_count_48 : decode cX7_count 48 = .ok (.aload_n 0, 1) := by decide +kernel
theorem dX7_count_49 : decode cX7_count 49 = .ok (.getfield 28, 3) := by decide +kernel
theorem dX7_count_52 : decode cX7_count 52 = .ok (.invokevirtual 83, 3) := by decide +kernel
theorem dX7_count_55 : decode cX7_count 55 = .ok (.ireturn, 1) := by decide +kernel
theorem dX7_count_56 : decode cX7_count 56 = .ok (.aload_n 0, 1) := by decide +kernel
theorem dX7_count_57 : decode cX7_count 57 = .ok (.invokevirtual 307, 3) := by decide +kernel
theorem dX7_count_60 : decode cX7_count 60 = .ok (.ireturn, 1) := by decide +kernel
theorem dX7_count_61 : decode cX7_count 61 = .ok (.aload_n 0, 1) := by decide +kernel
theorem dX7_count_62 : decode cX7_count 62 = .ok (.getfield 31, 3) := by decide +kernel
theorem dX7_count_65 : decode cX7_count 65 = .ok (.invokevirtual 83, 3) := by decide +kernel
theorem dX7_count_68 : decode cX7_count 68 = .ok (.ireturn, 1) := by decide +kernel
theorem dX7_count_69 : decode cX7_count 69 = .ok (.aload_n 0, 1) := by decide +kernel
theorem dX7_count_70 : decode cX7_count 70 = .ok (.getfield 52, 3) := by decide +kernel
theorem dX7_count_73 : decode cX7_count 73 = .ok (.ireturn, 1) := by decide +kernel
theorem dX7_count_74 : decode cX7_count 74 = .ok (.aload_n 0, 1) := by decide +kernel
theorem dX7_count_75 : decode cX7_count 75 = .ok (.getfield 45, 3) := by decide +kernel
theorem dX7_count_78 : decode cX7_count 78 = .ok (.ireturn, 1) := by decide +kernel
theorem dX7_count_79 : decode cX7_count 79 = .ok (.iconst (-1), 1) := by decide +kernel
theorem dX7_count_80 : decode cX7_count 80 = .ok (.ireturn, 1) := by decide +kernel
theorem dX7_check_0 : decode cX7_check 0 = .ok (.iconst 1, 1) := by decide +kernel
theorem dX7_check_1 : decode cX7_check 1 = .ok (.istore_n 1, 1) := by decide +kernel
theorem dX7_check_2 : decode cX7_check 2 = .ok (.iconst 1, 1) := by decide +kernel
theorem dX7_check_3 : decode cX7_check 3 = .ok (.istore_n 2, 1) := by decide +kernel
theorem dX7_check_4 : decode cX7_check 4 = .ok (.iconst 0, 1) := by decide +kernel
theorem dX7_check_5 : decode cX7_check 5 = .ok (.istore_n 3, 1) := by decide +kernel
theorem dX7_check_6 : decode cX7_check 6 = .ok (.iload_n 3, 1) := by decide +kernel
theorem dX7_check_7 : decode cX7_check 7 = .ok (.aload_n 0, 1) := by decide +kernel
theorem dX7_check_8 : decode cX7_check 8 = .ok (.getfield 28, 3) := by decide +kernel
theorem dX7_check_11 : decode cX7_check 11 = .ok (.invokevirtual 83, 3) := by decide +kernel
theorem dX7_check_14 : decode cX7_check 14 = .ok (.if_icmp .ge 58, 3) := by decide +kernel
theorem dX7_check_17 : decode cX7_check 17 = .ok (.aload_n 0, 1) := by decide +kernel
theorem dX7_check_18 : decode cX7_check 18 = .ok (.getfield 28, 3) := by decide +kernel
theorem dX7_check_21 : decode cX7_check 21 = .ok (.iload_n 3, 1) := by decide +kernel
theorem dX7_check_22 : decode cX7_check 22 = .ok (.invokevirtual 169, 3) := by decide +kernel
theorem dX7_check_25 : decode cX7_check 25 = .ok (.checkcast 105, 3) := by decide +kernel
theorem dX7_check_28 : decode cX7_check 28 = .ok (.astore 4, 2) := by decide +kernel
theorem dX7_check_30 : decode cX7_check 30 = .ok (.iload_n 1, 1) := by decide +kernel
theorem dX7_check_31 : decode cX7_check 31 = .ok (.ifCond .eq 15, 3) := by decide +kernel
theorem dX7_check_34 : decode cX7_check 34 = .ok (.aload 4, 2) := by decide +kernel
theorem dX7_check_36 : decode cX7_check 36 = .ok (.invokevirtual 310, 3) := by decide +kernel
theorem dX7_check_39 : decode cX7_check 39 = .ok (.ifCond .eq 7, 3) := by decide +kernel
theorem dX7_check_42 : decode cX7_check 42 = .ok (.iconst 1, 1) := by decide +kernel
theorem dX7_check_43 : decode cX7_check 43 = .ok (.goto 4, 3) := by decide +kernel
theorem dX7_check_46 : decode cX7_check 46 = .ok (.iconst 0, 1) := by decide +kernel
theorem dX7_check_47 : decode cX7_check 47 = .ok (.istore_n 1, 1) := by decide +kernel
theorem dX7_check_48 : decode cX7_check 48 = .ok (.iload_n 2, 1) := by decide +kernel
theorem dX7_check_49 : decode cX7_check 49 = .ok (.ifCond .eq 15, 3) := by decide +kernel
theorem dX7_check_52 : decode cX7_check 52 = .ok (.aload 4, 2) := by decide +kernel
theorem dX7_check_54 : decode cX7_check 54 = .ok (.invokevirtual 313, 3) := by decide +kernel
theorem dX7_check_57 : decode cX7_check 57 = .ok (.ifCond .eq 7, 3) := by decide +kernel
theorem dX7_check_60 : decode cX7_check 60 = .ok (.iconst 1, 1) := by decide +kernel
theorem dX7_check_61 : decode cX7_check 61 = .ok (.goto 4, 3) := by decide +kernel
theorem dX7_check_64 : decode cX7_check 64 = .ok (.iconst 0, 1) := by decide +kernel
theorem dX7_check_65 : decode cX7_check 65 = .ok (.istore_n 2, 1) := by decide +kernel
theorem dX7_check_66 : decode cX7_check 66 = .ok (.iinc 3 1, 3) := by decide +kernel
theorem dX7_check_69 : decode cX7_check 69 = .ok (.goto (-63), 3) := by decide +kernel
theorem dX7_check_72 : decode cX7_check 72 = .ok (.iconst 1, 1) := by decide +kernel
theorem dX7_check_73 : decode cX7_check 73 = .ok (.istore_n 3, 1) := by decide +kernel
theorem dX7_check_74 : decode cX7_check 74 = .ok (.aload_n 0, 1) := by decide +kernel
theorem dX7_check_75 : decode cX7_check 75 = .ok (.getfield 17, 3) := by decide +kernel
theorem dX7_check_78 : decode cX7_check 78 = .ok (.astore 4, 2) := by decide +kernel
theorem dX7_check_80 : decode cX7_check 80 = .ok (.aload 4, 2) := by decide +kernel
theorem dX7_check_82 : decode cX7_check 82 = .ok (.arraylength, 1) := by decide +kernel
theorem dX7_check_83 : decode cX7_check 83 = .ok (.istore 5, 2) := by decide +kernel
theorem dX7_check_85 : decode cX7_check 85 = .ok (.iconst 0, 1) := by decide +kernel
theorem dX7_check_86 : decode cX7_check 86 = .ok (.istore 6, 2) := by decide +kernel
theorem dX7_check_88 : decode cX7_check 88 = .ok (.iload 6, 2) := by decide +kernel
theorem dX7_check_90 : decode cX7_check 90 = .ok (.iload 5, 2) := by decide +kernel
theorem dX7_check_92 : decode cX7_check 92 = .ok (.if_icmp .ge 36, 3) := by decide +kernel
theorem dX7_check_95 : decode cX7_check 95 = .ok (.aload 4, 2) := by decide +kernel
theorem dX7_check_97 : decode cX7_check 97 = .ok (.iload 6, 2) := by decide +kernel
theorem dX7_check_99 : decode cX7_check 99 = .ok (.aaload, 1) := by decide +kernel
theorem dX7_check_100 : decode cX7_check 100 = .ok (.astore 7, 2) := by decide +kernel
theorem dX7_check_102 : decode cX7_check 102 = .ok (.iload_n 3, 1) := by decide +kernel
theorem dX7_check_103 : decode cX7_check 103 = .ok (.ifCond .eq 17, 3) := by decide +kernel
theorem dX7_check_106 : decode cX7_check 106 = .ok (.aload 7, 2) := by decide +kernel
theorem dX7_check_108 : decode cX7_check 108 = .ok (.getfield 161, 3) := by decide +kernel
theorem dX7_check_111 : decode cX7_check 111 = .ok (.bipush 20, 2) := by decide +kernel
theorem dX7_check_113 : decode cX7_check 113 = .ok (.if_icmp .gt 7, 3) := by decide +kernel
theorem dX7_check_116 : decode cX7_check 116 = .ok (.iconst 1, 1) := by decide +kernel
theorem dX7_check_117 : decode cX7_check 117 = .ok (.goto 4, 3) := by decide +kernel
theorem dX7_check_120 : decode cX7_check 120 = .ok (.iconst 0, 1) := by decide +kernel
theorem dX7_check_121 : decode cX7_check 121 = .ok (.istore_n 3, 1) := by decide +kernel
theorem dX7_check_122 : decode cX7_check 122 = .ok (.iinc 6 1, 3) := by decide +kernel
theorem dX7_check_125 : decode cX7_check 125 = .ok (.goto (-37), 3) := by decide +kernel
theorem dX7_check_128 : decode cX7_check 128 = .ok (.iload_n 1, 1) := by decide +kernel
theorem dX7_check_129 : decode cX7_check 129 = .ok (.ifCond .ne 7, 3) := by decide +kernel
theorem dX7_check_132 : decode cX7_check 132 = .ok (.iconst 1, 1) := by decide +kernel
theorem dX7_check_133 : decode cX7_check 133 = .ok (.goto 4, 3) := by decide +kernel
theorem dX7_check_136 : decode cX7_check 136 = .ok (.iconst 0, 1) := by decide +kernel
theorem dX7_check_137 : decode cX7_check 137 = .ok (.invokestatic 136, 3) := by decide +kernel
theorem dX7_check_140 : decode cX7_check 140 = .ok (.iload_n 3, 1) := by decide +kernel
theorem dX7_check_141 : decode cX7_check 141 = .ok (.ifCond .ne 7, 3) := by decide +kernel
theorem dX7_check_144 : decode cX7_check 144 = .ok (.iconst 1, 1) := by decide +kernel
theorem dX7_check_145 : decode cX7_check 145 = .ok (.goto 4, 3) := by decide +kernel
theorem dX7_check_148 : decode cX7_check 148 = .ok (.iconst 0, 1) := by decide +kernel
theorem dX7_check_149 : decode cX7_check 149 = .ok (.invokestatic 136, 3) := by decide +kernel
theorem dX7_check_152 : decode cX7_check 152 = .ok (.iadd, 1) := by decide +kernel
theorem dX7_check_153 : decode cX7_check 153 = .ok (.iload_n 2, 1) := by decide +kernel
theorem dX7_check_154 : decode cX7_check 154 = .ok (.ifCond .ne 7, 3) := by decide +kernel
theorem dX7_check_157 : decode cX7_check 157 = .ok (.iconst 1, 1) := by decide +kernel
theorem dX7_check_158 : decode cX7_check 158 = .ok (.goto 4, 3) := by decide +kernel
theorem dX7_check_161 : decode cX7_check 161 = .ok (.iconst 0, 1) := by decide +kernel
theorem dX7_check_162 : decode cX7_check 162 = .ok (.invokestatic 136, 3) := by decide +kernel
theorem dX7_check_165 : decode cX7_check 165 = .ok (.iadd, 1) := by decide +kernel
theorem dX7_check_166 : decode cX7_check 166 = .ok (.ireturn, 1) := by decide +kernel
theorem dX7_ruleAt_0 : decode cX7_ruleAt 0 = .ok (.iload_n 1, 1) := by decide +kernel
theorem dX7_ruleAt_1 : decode cX7_ruleAt 1 = .ok (.iconst 0, 1) := by decide +kernel
theorem dX7_ruleAt_2 : decode cX7_ruleAt 2 = .ok (.bipush 7, 2) := by decide +kernel
theorem dX7_ruleAt_4 : decode cX7_ruleAt 4 = .ok (.invokestatic 59, 3) := by decide +kernel
theorem dX7_ruleAt_7 : decode cX7_ruleAt 7 = .ok (.ifCond .eq 12, 3) := by decide +kernel
theorem dX7_ruleAt_10 : decode cX7_ruleAt 10 = .ok (.aload_n 0, 1) := by decide +kernel
theorem dX7_ruleAt_11 : decode cX7_ruleAt 11 = .ok (.getfield 11, 3) := by decide +kernel
theorem dX7_ruleAt_14 : decode cX7_ruleAt 14 = .ok (.iload_n 1, 1) := by decide +kernel
theorem dX7_ruleAt_15 : decode cX7_ruleAt 15 = .ok (.aaload, 1) := by decide +kernel
theorem dX7_ruleAt_16 : decode cX7_ruleAt 16 = .ok (.goto 4, 3) := by decide +kernel
theorem dX7_ruleAt_19 : decode cX7_ruleAt 19 = .ok (.aconst_null, 1) := by decide +kernel
theorem dX7_ruleAt_20 : decode cX7_ruleAt 20 = .ok (.areturn, 1) := by decide +kernel
theorem dX7_judgeAt_0 : decode cX7_judgeAt 0 = .ok (.iload_n 1, 1) := by decide +kernel
theorem dX7_judgeAt_1 : decode cX7_judgeAt 1 = .ok (.iconst 0, 1) := by decide +kernel
theorem dX7_judgeAt_2 : decode cX7_judgeAt 2 = .ok (.bipush 19, 2) := by decide +kernel
theorem dX7_judgeAt_4 : decode cX7_judgeAt 4 = .ok (.invokestatic 59, 3) := by decide +kernel
theorem dX7_judgeAt_7 : decode cX7_judgeAt 7 = .ok (.ifCond .eq 12, 3) := by decide +kernel
theorem dX7_judgeAt_10 : decode cX7_judgeAt 10 = .ok (.aload_n 0, 1) := by decide +kernel
theorem dX7_judgeAt_11 : decode cX7_judgeAt 11 = .ok (.getfield 17, 3) := by decide +kernel
theorem dX7_judgeAt_14 : decode cX7_judgeAt 14 = .ok (.iload_n 1, 1) := by decide +kernel
theorem dX7_judgeAt_15 : decode cX7_judgeAt 15 = .ok (.aaload, 1) := by decide +kernel
theorem dX7_judgeAt_16 : decode cX7_judgeAt 16 = .ok (.goto 4, 3) := by decide +kernel
theorem dX7_judgeAt_19 : decode cX7_judgeAt 19 = .ok (.aconst_null, 1) := by decide +kernel
theorem dX7_judgeAt_20 : decode cX7_judgeAt 20 = .ok (.areturn, 1) := by decide +kernel
theorem dX7_postAt_0 : decode cX7_postAt 0 = .ok (.iload_n 1, 1) := by decide +kernel
theorem dX7_postAt_1 : decode cX7_postAt 1 = .ok (.iconst 0, 1) := by decide +kernel
theorem dX7_postAt_2 : decode cX7_postAt 2 = .ok (.aload_n 0, 1) := by decide +kernel
theorem dX7_postAt_3 : decode cX7_postAt 3 = .ok (.getfield 24, 3) := by decide +kernel
theorem dX7_postAt_6 : decode cX7_postAt 6 = .ok (.invokevirtual 83, 3) := by decide +kernel
theorem dX7_postAt_9 : decode cX7_postAt 9 = .ok (.iconst 1, 1) := by decide +kernel
theorem dX7_postAt_10 : decode cX7_postAt 10 = .ok (.isub, 1) := by decide +kernel
theorem dX7_postAt_11 : decode cX7_postAt 11 = .ok (.invokestatic 59, 3) := by decide +kernel
theorem dX7_postAt_14 : decode cX7_postAt 14 = .ok (.ifCond .eq 17, 3) := by decide +kernel
theorem dX7_postAt_17 : decode cX7_postAt 17 = .ok (.aload_n 0, 1) := by decide +kernel
theorem dX7_postAt_18 : decode cX7_postAt 18 = .ok (.getfield 24, 3) := by decide +kernel
theorem dX7_postAt_21 : decode cX7_postAt 21 = .ok (.iload_n 1, 1) := by decide +kernel
theorem dX7_postAt_22 : decode cX7_postAt 22 = .ok (.invokevirtual 169, 3) := by decide +kernel
theorem dX7_postAt_25 : decode cX7_postAt 25 = .ok (.checkcast 87, 3) := by decide +kernel
theorem dX7_postAt_28 : decode cX7_postAt 28 = .ok (.goto 4, 3) := by decide +kernel
theorem dX7_postAt_31 : decode cX7_postAt 31 = .ok (.aconst_null, 1) := by decide +kernel
theorem dX7_postAt_32 : decode cX7_postAt 32 = .ok (.areturn, 1) := by decide +kernel
theorem dX7_caseAt_0 : decode cX7_caseAt 0 = .ok (.iload_n 1, 1) := by decide +kernel
theorem dX7_caseAt_1 : decode cX7_caseAt 1 = .ok (.iconst 0, 1) := by decide +kernel
theorem dX7_caseAt_2 : decode cX7_caseAt 2 = .ok (.aload_n 0, 1) := by decide +kernel
theorem dX7_caseAt_3 : decode cX7_caseAt 3 = .ok (.getfield 28, 3) := by decide +kernel
theorem dX7_caseAt_6 : decode cX7_caseAt 6 = .ok (.invokevirtual 83, 3) := by decide +kernel
theorem dX7_caseAt_9 : decode cX7_caseAt 9 = .ok (.iconst 1, 1) := by decide +kernel
theorem dX7_caseAt_10 : decode cX7_caseAt 10 = .ok (.isub, 1) := by decide +kernel
theorem dX7_caseAt_11 : decode cX7_caseAt 11 = .ok (.invokestatic 59, 3) := by decide +kernel
theorem dX7_caseAt_14 : decode cX7_caseAt 14 = .ok (.ifCond .eq 17, 3) := by decide +kernel
theorem dX7_caseAt_17 : decode cX7_caseAt 17 = .ok (.aload_n 0, 1) := by decide +kernel
theorem dX7_caseAt_18 : decode cX7_caseAt 18 = .ok (.getfield 28, 3) := by decide +kernel
theorem dX7_caseAt_21 : decode cX7_caseAt 21 = .ok (.iload_n 1, 1) := by decide +kernel
theorem dX7_caseAt_22 : decode cX7_caseAt 22 = .ok (.invokevirtual 169, 3) := by decide +kernel
theorem dX7_caseAt_25 : decode cX7_caseAt 25 = .ok (.checkcast 105, 3) := by decide +kernel
theorem dX7_caseAt_28 : decode cX7_caseAt 28 = .ok (.goto 4, 3) := by decide +kernel
theorem dX7_caseAt_31 : decode cX7_caseAt 31 = .ok (.aconst_null, 1) := by decide +kernel
theorem dX7_caseAt_32 : decode cX7_caseAt 32 = .ok (.areturn, 1) := by decide +kernel
theorem dX7_within_0 : decode cX7_within 0 = .ok (.iload_n 0, 1) := by decide +kernel
theorem dX7_within_1 : decode cX7_within 1 = .ok (.iload_n 1, 1) := by decide +kernel
theorem dX7_within_2 : decode cX7_within 2 = .ok (.if_icmp .lt 12, 3) := by decide +kernel
theorem dX7_within_5 : decode cX7_within 5 = .ok (.iload_n 0, 1) := by decide +kernel
theorem dX7_within_6 : decode cX7_within 6 = .ok (.iload_n 2, 1) := by decide +kernel
theorem dX7_within_7 : decode cX7_within 7 = .ok (.if_icmp .gt 7, 3) := by decide +kernel
theorem dX7_within_10 : decode cX7_within 10 = .ok (.iconst 1, 1) := by decide +kernel
theorem dX7_within_11 : decode cX7_within 11 = .ok (.goto 4, 3) := by decide +kernel
theorem dX7_within_14 : decode cX7_within 14 = .ok (.iconst 0, 1) := by decide +kernel
theorem dX7_within_15 : decode cX7_within 15 = .ok (.ireturn, 1) := by decide +kernel
theorem dX7_asNumber_0 : decode cX7_asNumber 0 = .ok (.iload_n 0, 1) := by decide +kernel
theorem dX7_asNumber_1 : decode cX7_asNumber 1 = .ok (.ifCond .eq 7, 3) := by decide +kernel
theorem dX7_asNumber_4 : decode cX7_asNumber 4 = .ok (.iconst 1, 1) := by decide +kernel
theorem dX7_asNumber_5 : decode cX7_asNumber 5 = .ok (.goto 4, 3) := by decide +kernel
theorem dX7_asNumber_8 : decode cX7_asNumber 8 = .ok (.iconst 0, 1) := by decide +kernel
theorem dX7_asNumber_9 : decode cX7_asNumber 9 = .ok (.ireturn, 1) := by decide +kernel
theorem dX7_mayHave_0 : decode cX7_mayHave 0 = .ok (.aload_n 1, 1) := by decide +kernel
theorem dX7_mayHave_1 : decode cX7_mayHave 1 = .ok (.invokevirtual 227, 3) := by decide +kernel
theorem dX7_mayHave_4 : decode cX7_mayHave 4 = .ok (.ifCond .eq 65, 3) := by decide +kernel
theorem dX7_mayHave_7 : decode cX7_mayHave 7 = .ok (.aload_n 1, 1) := by decide +kernel
theorem dX7_mayHave_8 : decode cX7_mayHave 8 = .ok (.invokevirtual 316, 3) := by decide +kernel
theorem dX7_mayHave_11 : decode cX7_mayHave 11 = .ok (.ifCond .eq 58, 3) := by decide +kernel
theorem dX7_mayHave_14 : decode cX7_mayHave 14 = .ok (.aload_n 0, 1) := by decide +kernel
theorem dX7_mayHave_15 : decode cX7_mayHave 15 = .ok (.invokevirtual 319, 3) := by decide +kernel
theorem dX7_mayHave_18 : decode cX7_mayHave 18 = .ok (.ifCond .eq 51, 3) := by decide +kernel
theorem dX7_mayHave_21 : decode cX7_mayHave 21 = .ok (.aload_n 0, 1) := by decide +kernel
theorem dX7_mayHave_22 : decode cX7_mayHave 22 = .ok (.aload_n 1, 1) := by decide +kernel
theorem dX7_mayHave_23 : decode cX7_mayHave 23 = .ok (.getfield 222, 3) := by decide +kernel
theorem dX7_mayHave_26 : decode cX7_mayHave 26 = .ok (.getfield 226, 3) := by decide +kernel
theorem dX7_mayHave_29 : decode cX7_mayHave 29 = .ok (.invokevirtual 322, 3) := by decide +kernel
theorem dX7_mayHave_32 : decode cX7_mayHave 32 = .ok (.ifCond .eq 37, 3) := by decide +kernel
theorem dX7_mayHave_35 : decode cX7_mayHave 35 = .ok (.aload_n 0, 1) := by decide +kernel
theorem dX7_mayHave_36 : decode cX7_mayHave 36 = .ok (.aload_n 1, 1) := by decide +kernel
theorem dX7_mayHave_37 : decode cX7_mayHave 37 = .ok (.getfield 217, 3) := by decide +kernel
theorem dX7_mayHave_40 : decode cX7_mayHave 40 = .ok (.getfield 298, 3) := by decide +kernel
theorem dX7_mayHave_43 : decode cX7_mayHave 43 = .ok (.invokevirtual 132, 3) := by decide +kernel
theorem dX7_mayHave_46 : decode cX7_mayHave 46 = .ok (.ifCond .ne 23, 3) := by decide +kernel
theorem dX7_mayHave_49 : decode cX7_mayHave 49 = .ok (.aload_n 1, 1) := by decide +kernel
theorem dX7_mayHave_50 : decode cX7_mayHave 50 = .ok (.aload_n 0, 1) := by decide +kernel
theorem dX7_mayHave_51 : decode cX7_mayHave 51 = .ok (.invokevirtual 325, 3) := by decide +kernel
theorem dX7_mayHave_54 : decode cX7_mayHave 54 = .ok (.ifCond .ne 15, 3) := by decide +kernel
theorem dX7_mayHave_57 : decode cX7_mayHave 57 = .ok (.aload_n 1, 1) := by decide +kernel
theorem dX7_mayHave_58 : decode cX7_mayHave 58 = .ok (.aload_n 0, 1) := by decide +kernel
theorem dX7_mayHave_59 : decode cX7_mayHave 59 = .ok (.invokevirtual 329, 3) := by decide +kernel
theorem dX7_mayHave_62 : decode cX7_mayHave 62 = .ok (.ifCond .ne 7, 3) := by decide +kernel
theorem dX7_mayHave_65 : decode cX7_mayHave 65 = .ok (.iconst 1, 1) := by decide +kernel
theorem dX7_mayHave_66 : decode cX7_mayHave 66 = .ok (.goto 4, 3) := by decide +kernel
theorem dX7_mayHave_69 : decode cX7_mayHave 69 = .ok (.iconst 0, 1) := by decide +kernel
theorem dX7_mayHave_70 : decode cX7_mayHave 70 = .ok (.ireturn, 1) := by decide +kernel
theorem dX7_nextFor_0 : decode cX7_nextFor 0 = .ok (.aconst_null, 1) := by decide +kernel
theorem dX7_nextFor_1 : decode cX7_nextFor 1 = .ok (.astore_n 2, 1) := by decide +kernel
theorem dX7_nextFor_2 : decode cX7_nextFor 2 = .ok (.iconst 0, 1) := by decide +kernel
theorem dX7_nextFor_3 : decode cX7_nextFor 3 = .ok (.istore_n 3, 1) := by decide +kernel
theorem dX7_nextFor_4 : decode cX7_nextFor 4 = .ok (.iconst 0, 1) := by decide +kernel
theorem dX7_nextFor_5 : decode cX7_nextFor 5 = .ok (.istore 4, 2) := by decide +kernel
theorem dX7_nextFor_7 : decode cX7_nextFor 7 = .ok (.iload 4, 2) := by decide +kernel
theorem dX7_nextFor_9 : decode cX7_nextFor 9 = .ok (.aload_n 0, 1) := by decide +kernel
theorem dX7_nextFor_10 : decode cX7_nextFor 10 = .ok (.getfield 28, 3) := by decide +kernel
theorem dX7_nextFor_13 : decode cX7_nextFor 13 = .ok (.invokevirtual 83, 3) := by decide +kernel
theorem dX7_nextFor_16 : decode cX7_nextFor 16 = .ok (.if_icmp .ge 63, 3) := by decide +kernel
theorem dX7_nextFor_19 : decode cX7_nextFor 19 = .ok (.aload_n 0, 1) := by decide +kernel
theorem dX7_nextFor_20 : decode cX7_nextFor 20 = .ok (.getfield 28, 3) := by decide +kernel
theorem dX7_nextFor_23 : decode cX7_nextFor 23 = .ok (.iload 4, 2) := by decide +kernel
theorem dX7_nextFor_25 : decode cX7_nextFor 25 = .ok (.invokevirtual 169, 3) := by decide +kernel
theorem dX7_nextFor_28 : decode cX7_nextFor 28 = .ok (.checkcast 105, 3) := by decide +kernel
theorem dX7_nextFor_31 : decode cX7_nextFor 31 = .ok (.astore 5, 2) := by decide +kernel
theorem dX7_nextFor_33 : decode cX7_nextFor 33 = .ok (.aload 5, 2) := by decide +kernel
theorem dX7_nextFor_35 : decode cX7_nextFor 35 = .ok (.getfield 222, 3) := by decide +kernel
theorem dX7_nextFor_38 : decode cX7_nextFor 38 = .ok (.getfield 71, 3) := by decide +kernel
theorem dX7_nextFor_41 : decode cX7_nextFor 41 = .ok (.aload 5, 2) := by decide +kernel
theorem dX7_nextFor_43 : decode cX7_nextFor 43 = .ok (.getfield 217, 3) := by decide +kernel
theorem dX7_nextFor_46 : decode cX7_nextFor 46 = .ok (.getfield 332, 3) := by decide +kernel
theorem dX7_nextFor_49 : decode cX7_nextFor 49 = .ok (.imul, 1) := by decide +kernel
theorem dX7_nextFor_50 : decode cX7_nextFor 50 = .ok (.istore 6, 2) := by decide +kernel
theorem dX7_nextFor_52 : decode cX7_nextFor 52 = .ok (.iload 6, 2) := by decide +kernel
theorem dX7_nextFor_54 : decode cX7_nextFor 54 = .ok (.iload_n 3, 1) := by decide +kernel
theorem dX7_nextFor_55 : decode cX7_nextFor 55 = .ok (.if_icmp .le 18, 3) := by decide +kernel
theorem dX7_nextFor_58 : decode cX7_nextFor 58 = .ok (.aload_n 1, 1) := by decide +kernel
theorem dX7_nextFor_59 : decode cX7_nextFor 59 = .ok (.aload 5, 2) := by decide +kernel
theorem dX7_nextFor_61 : decode cX7_nextFor 61 = .ok (.invokestatic 206, 3) := by decide +kernel
theorem dX7_nextFor_64 : decode cX7_nextFor 64 = .ok (.ifCond .eq 9, 3) := by decide +kernel
theorem dX7_nextFor_67 : decode cX7_nextFor 67 = .ok (.aload 5, 2) := by decide +kernel
theorem dX7_nextFor_69 : decode cX7_nextFor 69 = .ok (.astore_n 2, 1) := by decide +kernel
theorem dX7_nextFor_70 : decode cX7_nextFor 70 = .ok (.iload 6, 2) := by decide +kernel
theorem dX7_nextFor_72 : decode cX7_nextFor 72 = .ok (.istore_n 3, 1) := by decide +kernel
theorem dX7_nextFor_73 : decode cX7_nextFor 73 = .ok (.iinc 4 1, 3) := by decide +kernel
theorem dX7_nextFor_76 : decode cX7_nextFor 76 = .ok (.goto (-69), 3) := by decide +kernel
theorem dX7_nextFor_79 : decode cX7_nextFor 79 = .ok (.aload_n 2, 1) := by decide +kernel
theorem dX7_nextFor_80 : decode cX7_nextFor 80 = .ok (.areturn, 1) := by decide +kernel
theorem dX7_giftOf_0 : decode cX7_giftOf 0 = .ok (.iconst 0, 1) := by decide +kernel
theorem dX7_giftOf_1 : decode cX7_giftOf 1 = .ok (.istore_n 3, 1) := by decide +kernel
theorem dX7_giftOf_2 : decode cX7_giftOf 2 = .ok (.iload_n 3, 1) := by decide +kernel
theorem dX7_giftOf_3 : decode cX7_giftOf 3 = .ok (.aload_n 0, 1) := by decide +kernel
theorem dX7_giftOf_4 : decode cX7_giftOf 4 = .ok (.getfield 31, 3) := by decide +kernel
theorem dX7_giftOf_7 : decode cX7_giftOf 7 = .ok (.invokevirtual 83, 3) := by decide +kernel
theorem dX7_giftOf_10 : decode cX7_giftOf 10 = .ok (.if_icmp .ge 42, 3) := by decide +kernel
theorem dX7_giftOf_13 : decode cX7_giftOf 13 = .ok (.aload_n 0, 1) := by decide +kernel
theorem dX7_giftOf_14 : decode cX7_giftOf 14 = .ok (.getfield 31, 3) := by decide +kernel
theorem dX7_giftOf_17 : decode cX7_giftOf 17 = .ok (.iload_n 3, 1) := by decide +kernel
theorem dX7_giftOf_18 : decode cX7_giftOf 18 = .ok (.invokevirtual 169, 3) := by decide +kernel
theorem dX7_giftOf_21 : decode cX7_giftOf 21 = .ok (.checkcast 156, 3) := by decide +kernel
theorem dX7_giftOf_24 : decode cX7_giftOf 24 = .ok (.astore 4, 2) := by decide +kernel
theorem dX7_giftOf_26 : decode cX7_giftOf 26 = .ok (.aload 4, 2) := by decide +kernel
theorem dX7_giftOf_28 : decode cX7_giftOf 28 = .ok (.getfield 335, 3) := by decide +kernel
theorem dX7_giftOf_31 : decode cX7_giftOf 31 = .ok (.aload_n 1, 1) := by decide +kernel
theorem dX7_giftOf_32 : decode cX7_giftOf 32 = .ok (.if_acmp .ne 14, 3) := by decide +kernel
theorem dX7_giftOf_35 : decode cX7_giftOf 35 = .ok (.aload 4, 2) := by decide +kernel
theorem dX7_giftOf_37 : decode cX7_giftOf 37 = .ok (.getfield 173, 3) := by decide +kernel
theorem dX7_giftOf_40 : decode cX7_giftOf 40 = .ok (.aload_n 2, 1) := by decide +kernel
theorem dX7_giftOf_41 : decode cX7_giftOf 41 = .ok (.if_acmp .ne 5, 3) := by decide +kernel
theorem dX7_giftOf_44 : decode cX7_giftOf 44 = .ok (.iload_n 3, 1) := by decide +kernel
theorem dX7_giftOf_45 : decode cX7_giftOf 45 = .ok (.ireturn, 1) := by decide +kernel
theorem dX7_giftOf_46 : decode cX7_giftOf 46 = .ok (.iinc 3 1, 3) := by decide +kernel
theorem dX7_giftOf_49 : decode cX7_giftOf 49 = .ok (.goto (-47), 3) := by decide +kernel
theorem dX7_giftOf_52 : decode cX7_giftOf 52 = .ok (.iconst (-1), 1) := by decide +kernel
theorem dX7_giftOf_53 : decode cX7_giftOf 53 = .ok (.ireturn, 1) := by decide +kernel
theorem dX7_takeBack_0 : decode cX7_takeBack 0 = .ok (.iload_n 1, 1) := by decide +kernel
theorem dX7_takeBack_1 : decode cX7_takeBack 1 = .ok (.iconst 0, 1) := by decide +kernel
theorem dX7_takeBack_2 : decode cX7_takeBack 2 = .ok (.aload_n 0, 1) := by decide +kernel
theorem dX7_takeBack_3 : decode cX7_takeBack 3 = .ok (.getfield 31, 3) := by decide +kernel
theorem dX7_takeBack_6 : decode cX7_takeBack 6 = .ok (.invokevirtual 83, 3) := by decide +kernel
theorem dX7_takeBack_9 : decode cX7_takeBack 9 = .ok (.iconst 1, 1) := by decide +kernel
theorem dX7_takeBack_10 : decode cX7_takeBack 10 = .ok (.isub, 1) := by decide +kernel
theorem dX7_takeBack_11 : decode cX7_takeBack 11 = .ok (.invokestatic 59, 3) := by decide +kernel
theorem dX7_takeBack_14 : decode cX7_takeBack 14 = .ok (.ifCond .ne 4, 3) := by decide +kernel
theorem dX7_takeBack_17 : decode cX7_takeBack 17 = .ok (.return_, 1) := by decide +kernel
theorem dX7_takeBack_18 : decode cX7_takeBack 18 = .ok (.aload_n 0, 1) := by decide +kernel
theorem dX7_takeBack_19 : decode cX7_takeBack 19 = .ok (.getfield 31, 3) := by decide +kernel
theorem dX7_takeBack_22 : decode cX7_takeBack 22 = .ok (.iload_n 1, 1) := by decide +kernel
theorem dX7_takeBack_23 : decode cX7_takeBack 23 = .ok (.invokevirtual 339, 3) := by decide +kernel
theorem dX7_takeBack_26 : decode cX7_takeBack 26 = .ok (.checkcast 156, 3) := by decide +kernel
theorem dX7_takeBack_29 : decode cX7_takeBack 29 = .ok (.astore_n 2, 1) := by decide +kernel
theorem dX7_takeBack_30 : decode cX7_takeBack 30 = .ok (.aload_n 2, 1) := by decide +kernel
theorem dX7_takeBack_31 : decode cX7_takeBack 31 = .ok (.getfield 335, 3) := by decide +kernel
theorem dX7_takeBack_34 : decode cX7_takeBack 34 = .ok (.dup, 1) := by decide +kernel
