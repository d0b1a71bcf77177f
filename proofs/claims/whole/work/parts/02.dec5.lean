theorem dX8_judged_63 : decode cX8_judged 63 = .ok (.iaload, 1) := by decide +kernel
theorem dX8_judged_64 : decode cX8_judged 64 = .ok (.ireturn, 1) := by decide +kernel
theorem dX8_appeal_0 : decode cX8_appeal 0 = .ok (.aload_n 0, 1) := by decide +kernel
theorem dX8_appeal_1 : decode cX8_appeal 1 = .ok (.iload_n 1, 1) := by decide +kernel
theorem dX8_appeal_2 : decode cX8_appeal 2 = .ok (.invokevirtual 184, 3) := by decide +kernel
theorem dX8_appeal_5 : decode cX8_appeal 5 = .ok (.ifCond .ne 5, 3) := by decide +kernel
theorem dX8_appeal_8 : decode cX8_appeal 8 = .ok (.iconst (-1), 1) := by decide +kernel
theorem dX8_appeal_9 : decode cX8_appeal 9 = .ok (.ireturn, 1) := by decide +kernel
theorem dX8_appeal_10 : decode cX8_appeal 10 = .ok (.aload_n 0, 1) := by decide +kernel
theorem dX8_appeal_11 : decode cX8_appeal 11 = .ok (.getfield 50, 3) := by decide +kernel
theorem dX8_appeal_14 : decode cX8_appeal 14 = .ok (.iload_n 1, 1) := by decide +kernel
theorem dX8_appeal_15 : decode cX8_appeal 15 = .ok (.iaload, 1) := by decide +kernel
theorem dX8_appeal_16 : decode cX8_appeal 16 = .ok (.iconst 2, 1) := by decide +kernel
theorem dX8_appeal_17 : decode cX8_appeal 17 = .ok (.if_icmp .eq 6, 3) := by decide +kernel
theorem dX8_appeal_20 : decode cX8_appeal 20 = .ok (.bipush (-4), 2) := by decide +kernel
theorem dX8_appeal_22 : decode cX8_appeal 22 = .ok (.ireturn, 1) := by decide +kernel
theorem dX8_appeal_23 : decode cX8_appeal 23 = .ok (.aload_n 0, 1) := by decide +kernel
theorem dX8_appeal_24 : decode cX8_appeal 24 = .ok (.getfield 50, 3) := by decide +kernel
theorem dX8_appeal_27 : decode cX8_appeal 27 = .ok (.iload_n 1, 1) := by decide +kernel
theorem dX8_appeal_28 : decode cX8_appeal 28 = .ok (.iconst 3, 1) := by decide +kernel
theorem dX8_appeal_29 : decode cX8_appeal 29 = .ok (.iastore, 1) := by decide +kernel
theorem dX8_appeal_30 : decode cX8_appeal 30 = .ok (.aload_n 0, 1) := by decide +kernel
theorem dX8_appeal_31 : decode cX8_appeal 31 = .ok (.getfield 62, 3) := by decide +kernel
theorem dX8_appeal_34 : decode cX8_appeal 34 = .ok (.iload_n 1, 1) := by decide +kernel
theorem dX8_appeal_35 : decode cX8_appeal 35 = .ok (.aload_n 0, 1) := by decide +kernel
theorem dX8_appeal_36 : decode cX8_appeal 36 = .ok (.getfield 62, 3) := by decide +kernel
theorem dX8_appeal_39 : decode cX8_appeal 39 = .ok (.iload_n 1, 1) := by decide +kernel
theorem dX8_appeal_40 : decode cX8_appeal 40 = .ok (.iaload, 1) := by decide +kernel
theorem dX8_appeal_41 : decode cX8_appeal 41 = .ok (.iconst 2, 1) := by decide +kernel
theorem dX8_appeal_42 : decode cX8_appeal 42 = .ok (.iadd, 1) := by decide +kernel
theorem dX8_appeal_43 : decode cX8_appeal 43 = .ok (.bipush 9, 2) := by decide +kernel
theorem dX8_appeal_45 : decode cX8_appeal 45 = .ok (.if_icmp .ge 14, 3) := by decide +kernel
theorem dX8_appeal_48 : decode cX8_appeal 48 = .ok (.aload_n 0, 1) := by decide +kernel
theorem dX8_appeal_49 : decode cX8_appeal 49 = .ok (.getfield 62, 3) := by decide +kernel
theorem dX8_appeal_52 : decode cX8_appeal 52 = .ok (.iload_n 1, 1) := by decide +kernel
theorem dX8_appeal_53 : decode cX8_appeal 53 = .ok (.iaload, 1) := by decide +kernel
theorem dX8_appeal_54 : decode cX8_appeal 54 = .ok (.iconst 2, 1) := by decide +kernel
theorem dX8_appeal_55 : decode cX8_appeal 55 = .ok (.iadd, 1) := by decide +kernel
theorem dX8_appeal_56 : decode cX8_appeal 56 = .ok (.goto 5, 3) := by decide +kernel
theorem dX8_appeal_59 : decode cX8_appeal 59 = .ok (.bipush 9, 2) := by decide +kernel
theorem dX8_appeal_61 : decode cX8_appeal 61 = .ok (.iastore, 1) := by decide +kernel
theorem dX8_appeal_62 : decode cX8_appeal 62 = .ok (.aload_n 0, 1) := by decide +kernel
theorem dX8_appeal_63 : decode cX8_appeal 63 = .ok (.getfield 65, 3) := by decide +kernel
theorem dX8_appeal_66 : decode cX8_appeal 66 = .ok (.iload_n 1, 1) := by decide +kernel
theorem dX8_appeal_67 : decode cX8_appeal 67 = .ok (.iconst 0, 1) := by decide +kernel
theorem dX8_appeal_68 : decode cX8_appeal 68 = .ok (.iastore, 1) := by decide +kernel
theorem dX8_appeal_69 : decode cX8_appeal 69 = .ok (.aload_n 0, 1) := by decide +kernel
theorem dX8_appeal_70 : decode cX8_appeal 70 = .ok (.getfield 59, 3) := by decide +kernel
theorem dX8_appeal_73 : decode cX8_appeal 73 = .ok (.iload_n 1, 1) := by decide +kernel
theorem dX8_appeal_74 : decode cX8_appeal 74 = .ok (.aload_n 0, 1) := by decide +kernel
theorem dX8_appeal_75 : decode cX8_appeal 75 = .ok (.getfield 140, 3) := by decide +kernel
theorem dX8_appeal_78 : decode cX8_appeal 78 = .ok (.iastore, 1) := by decide +kernel
theorem dX8_appeal_79 : decode cX8_appeal 79 = .ok (.iconst 1, 1) := by decide +kernel
theorem dX8_appeal_80 : decode cX8_appeal 80 = .ok (.ireturn, 1) := by decide +kernel
theorem dX8_known_0 : decode cX8_known 0 = .ok (.aload_n 0, 1) := by decide +kernel
theorem dX8_known_1 : decode cX8_known 1 = .ok (.iload_n 1, 1) := by decide +kernel
theorem dX8_known_2 : decode cX8_known 2 = .ok (.invokevirtual 184, 3) := by decide +kernel
theorem dX8_known_5 : decode cX8_known 5 = .ok (.ifCond .eq 12, 3) := by decide +kernel
theorem dX8_known_8 : decode cX8_known 8 = .ok (.iload_n 2, 1) := by decide +kernel
theorem dX8_known_9 : decode cX8_known 9 = .ok (.iconst (-1), 1) := by decide +kernel
theorem dX8_known_10 : decode cX8_known 10 = .ok (.iconst 1, 1) := by decide +kernel
theorem dX8_known_11 : decode cX8_known 11 = .ok (.invokestatic 136, 3) := by decide +kernel
theorem dX8_known_14 : decode cX8_known 14 = .ok (.ifCond .ne 6, 3) := by decide +kernel
theorem dX8_known_17 : decode cX8_known 17 = .ok (.bipush (-5), 2) := by decide +kernel
theorem dX8_known_19 : decode cX8_known 19 = .ok (.ireturn, 1) := by decide +kernel
theorem dX8_known_20 : decode cX8_known 20 = .ok (.aload_n 0, 1) := by decide +kernel
theorem dX8_known_21 : decode cX8_known 21 = .ok (.getfield 71, 3) := by decide +kernel
theorem dX8_known_24 : decode cX8_known 24 = .ok (.iload_n 1, 1) := by decide +kernel
theorem dX8_known_25 : decode cX8_known 25 = .ok (.iaload, 1) := by decide +kernel
theorem dX8_known_26 : decode cX8_known 26 = .ok (.istore_n 3, 1) := by decide +kernel
theorem dX8_known_27 : decode cX8_known 27 = .ok (.aload_n 0, 1) := by decide +kernel
theorem dX8_known_28 : decode cX8_known 28 = .ok (.getfield 71, 3) := by decide +kernel
theorem dX8_known_31 : decode cX8_known 31 = .ok (.iload_n 1, 1) := by decide +kernel
theorem dX8_known_32 : decode cX8_known 32 = .ok (.iload_n 2, 1) := by decide +kernel
theorem dX8_known_33 : decode cX8_known 33 = .ok (.iastore, 1) := by decide +kernel
theorem dX8_known_34 : decode cX8_known 34 = .ok (.aload_n 0, 1) := by decide +kernel
theorem dX8_known_35 : decode cX8_known 35 = .ok (.invokevirtual 200, 3) := by decide +kernel
theorem dX8_known_38 : decode cX8_known 38 = .ok (.iload_n 3, 1) := by decide +kernel
theorem dX8_known_39 : decode cX8_known 39 = .ok (.ireturn, 1) := by decide +kernel
theorem dX8_late_0 : decode cX8_late 0 = .ok (.bipush (-4), 2) := by decide +kernel
theorem dX8_late_2 : decode cX8_late 2 = .ok (.istore_n 1, 1) := by decide +kernel
theorem dX8_late_3 : decode cX8_late 3 = .ok (.iconst 0, 1) := by decide +kernel
theorem dX8_late_4 : decode cX8_late 4 = .ok (.istore_n 2, 1) := by decide +kernel
theorem dX8_late_5 : decode cX8_late 5 = .ok (.iload_n 2, 1) := by decide +kernel
theorem dX8_late_6 : decode cX8_late 6 = .ok (.aload_n 0, 1) := by decide +kernel
theorem dX8_late_7 : decode cX8_late 7 = .ok (.getfield 133, 3) := by decide +kernel
theorem dX8_late_10 : decode cX8_late 10 = .ok (.if_icmp .ge 36, 3) := by decide +kernel
theorem dX8_late_13 : decode cX8_late 13 = .ok (.aload_n 0, 1) := by decide +kernel
theorem dX8_late_14 : decode cX8_late 14 = .ok (.iload_n 2, 1) := by decide +kernel
theorem dX8_late_15 : decode cX8_late 15 = .ok (.invokevirtual 203, 3) := by decide +kernel
theorem dX8_late_18 : decode cX8_late 18 = .ok (.ifCond .le 22, 3) := by decide +kernel
theorem dX8_late_21 : decode cX8_late 21 = .ok (.iload_n 1, 1) := by decide +kernel
theorem dX8_late_22 : decode cX8_late 22 = .ok (.ifCond .lt 16, 3) := by decide +kernel
theorem dX8_late_25 : decode cX8_late 25 = .ok (.aload_n 0, 1) := by decide +kernel
theorem dX8_late_26 : decode cX8_late 26 = .ok (.iload_n 2, 1) := by decide +kernel
theorem dX8_late_27 : decode cX8_late 27 = .ok (.invokevirtual 203, 3) := by decide +kernel
theorem dX8_late_30 : decode cX8_late 30 = .ok (.aload_n 0, 1) := by decide +kernel
theorem dX8_late_31 : decode cX8_late 31 = .ok (.iload_n 1, 1) := by decide +kernel
theorem dX8_late_32 : decode cX8_late 32 = .ok (.invokevirtual 203, 3) := by decide +kernel
theorem dX8_late_35 : decode cX8_late 35 = .ok (.if_icmp .le 5, 3) := by decide +kernel
theorem dX8_late_38 : decode cX8_late 38 = .ok (.iload_n 2, 1) := by decide +kernel
theorem dX8_late_39 : decode cX8_late 39 = .ok (.istore_n 1, 1) := by decide +kernel
theorem dX8_late_40 : decode cX8_late 40 = .ok (.iinc 2 1, 3) := by decide +kernel
theorem dX8_late_43 : decode cX8_late 43 = .ok (.goto (-38), 3) := by decide +kernel
theorem dX8_late_46 : decode cX8_late 46 = .ok (.iload_n 1, 1) := by decide +kernel
theorem dX8_late_47 : decode cX8_late 47 = .ok (.ireturn, 1) := by decide +kernel
theorem dX8_likeOnes_0 : decode cX8_likeOnes 0 = .ok (.iconst 0, 1) := by decide +kernel
theorem dX8_likeOnes_1 : decode cX8_likeOnes 1 = .ok (.istore 4, 2) := by decide +kernel
theorem dX8_likeOnes_3 : decode cX8_likeOnes 3 = .ok (.iconst 0, 1) := by decide +kernel
theorem dX8_likeOnes_4 : decode cX8_likeOnes 4 = .ok (.istore 5, 2) := by decide +kernel
theorem dX8_likeOnes_6 : decode cX8_likeOnes 6 = .ok (.iload 5, 2) := by decide +kernel
theorem dX8_likeOnes_8 : decode cX8_likeOnes 8 = .ok (.aload_n 0, 1) := by decide +kernel
theorem dX8_likeOnes_9 : decode cX8_likeOnes 9 = .ok (.getfield 133, 3) := by decide +kernel
theorem dX8_likeOnes_12 : decode cX8_likeOnes 12 = .ok (.if_icmp .ge 203, 3) := by decide +kernel
theorem dX8_likeOnes_15 : decode cX8_likeOnes 15 = .ok (.aload_n 0, 1) := by decide +kernel
theorem dX8_likeOnes_16 : decode cX8_likeOnes 16 = .ok (.getfield 50, 3) := by decide +kernel
theorem dX8_likeOnes_19 : decode cX8_likeOnes 19 = .ok (.iload 5, 2) := by decide +kernel
theorem dX8_likeOnes_21 : decode cX8_likeOnes 21 = .ok (.iaload, 1) := by decide +kernel
theorem dX8_likeOnes_22 : decode cX8_likeOnes 22 = .ok (.iconst 2, 1) := by decide +kernel
theorem dX8_likeOnes_23 : decode cX8_likeOnes 23 = .ok (.if_icmp .eq 14, 3) := by decide +kernel
theorem dX8_likeOnes_26 : decode cX8_likeOnes 26 = .ok (.aload_n 0, 1) := by decide +kernel
theorem dX8_likeOnes_27 : decode cX8_likeOnes 27 = .ok (.getfield 50, 3) := by decide +kernel
theorem dX8_likeOnes_30 : decode cX8_likeOnes 30 = .ok (.iload 5, 2) := by decide +kernel
theorem dX8_likeOnes_32 : decode cX8_likeOnes 32 = .ok (.iaload, 1) := by decide +kernel
theorem dX8_likeOnes_33 : decode cX8_likeOnes 33 = .ok (.iconst 5, 1) := by decide +kernel
theorem dX8_likeOnes_34 : decode cX8_likeOnes 34 = .ok (.if_icmp .ne 7, 3) := by decide +kernel
theorem dX8_likeOnes_37 : decode cX8_likeOnes 37 = .ok (.iconst 1, 1) := by decide +kernel
theorem dX8_likeOnes_38 : decode cX8_likeOnes 38 = .ok (.goto 4, 3) := by decide +kernel
theorem dX8_likeOnes_41 : decode cX8_likeOnes 41 = .ok (.iconst 0, 1) := by decide +kernel
theorem dX8_likeOnes_42 : decode cX8_likeOnes 42 = .ok (.istore 6, 2) := by decide +kernel
theorem dX8_likeOnes_44 : decode cX8_likeOnes 44 = .ok (.aload_n 0, 1) := by decide +kernel
theorem dX8_likeOnes_45 : decode cX8_likeOnes 45 = .ok (.getfield 50, 3) := by decide +kernel
theorem dX8_likeOnes_48 : decode cX8_likeOnes 48 = .ok (.iload 5, 2) := by decide +kernel
theorem dX8_likeOnes_50 : decode cX8_likeOnes 50 = .ok (.iaload, 1) := by decide +kernel
theorem dX8_likeOnes_51 : decode cX8_likeOnes 51 = .ok (.iconst 1, 1) := by decide +kernel
theorem dX8_likeOnes_52 : decode cX8_likeOnes 52 = .ok (.if_icmp .eq 14, 3) := by decide +kernel
theorem dX8_likeOnes_55 : decode cX8_likeOnes 55 = .ok (.aload_n 0, 1) := by decide +kernel
theorem dX8_likeOnes_56 : decode cX8_likeOnes 56 = .ok (.getfield 50, 3) := by decide +kernel
theorem dX8_likeOnes_59 : decode cX8_likeOnes 59 = .ok (.iload 5, 2) := by decide +kernel
theorem dX8_likeOnes_61 : decode cX8_likeOnes 61 = .ok (.iaload, 1) := by decide +kernel
theorem dX8_likeOnes_62 : decode cX8_likeOnes 62 = .ok (.iconst 4, 1) := by decide +kernel
theorem dX8_likeOnes_63 : decode cX8_likeOnes 63 = .ok (.if_icmp .ne 7, 3) := by decide +kernel
theorem dX8_likeOnes_66 : decode cX8_likeOnes 66 = .ok (.iconst 1, 1) := by decide +kernel
theorem dX8_likeOnes_67 : decode cX8_likeOnes 67 = .ok (.goto 4, 3) := by decide +kernel
theorem dX8_likeOnes_70 : decode cX8_likeOnes 70 = .ok (.iconst 0, 1) := by decide +kernel
theorem dX8_likeOnes_71 : decode cX8_likeOnes 71 = .ok (.istore 7, 2) := by decide +kernel
theorem dX8_likeOnes_73 : decode cX8_likeOnes 73 = .ok (.aload_n 0, 1) := by decide +kernel
theorem dX8_likeOnes_74 : decode cX8_likeOnes 74 = .ok (.getfield 41, 3) := by decide +kernel
theorem dX8_likeOnes_77 : decode cX8_likeOnes 77 = .ok (.aload_n 0, 1) := by decide +kernel
theorem dX8_likeOnes_78 : decode cX8_likeOnes 78 = .ok (.getfield 44, 3) := by decide +kernel
theorem dX8_likeOnes_81 : decode cX8_likeOnes 81 = .ok (.iload_n 1, 1) := by decide +kernel
theorem dX8_likeOnes_82 : decode cX8_likeOnes 82 = .ok (.iaload, 1) := by decide +kernel
theorem dX8_likeOnes_83 : decode cX8_likeOnes 83 = .ok (.iaload, 1) := by decide +kernel
theorem dX8_likeOnes_84 : decode cX8_likeOnes 84 = .ok (.aload_n 0, 1) := by decide +kernel
theorem dX8_likeOnes_85 : decode cX8_likeOnes 85 = .ok (.getfield 41, 3) := by decide +kernel
theorem dX8_likeOnes_88 : decode cX8_likeOnes 88 = .ok (.aload_n 0, 1) := by decide +kernel
theorem dX8_likeOnes_89 : decode cX8_likeOnes 89 = .ok (.getfield 44, 3) := by decide +kernel
theorem dX8_likeOnes_92 : decode cX8_likeOnes 92 = .ok (.iload 5, 2) := by decide +kernel
theorem dX8_likeOnes_94 : decode cX8_likeOnes 94 = .ok (.iaload, 1) := by decide +kernel
theorem dX8_likeOnes_95 : decode cX8_likeOnes 95 = .ok (.iaload, 1) := by decide +kernel
theorem dX8_likeOnes_96 : decode cX8_likeOnes 96 = .ok (.ixor, 1) := by decide +kernel
theorem dX8_likeOnes_97 : decode cX8_likeOnes 97 = .ok (.istore 8, 2) := by decide +kernel
theorem dX8_likeOnes_99 : decode cX8_likeOnes 99 = .ok (.iconst 0, 1) := by decide +kernel
theorem dX8_likeOnes_100 : decode cX8_likeOnes 100 = .ok (.istore 9, 2) := by decide +kernel
theorem dX8_likeOnes_102 : decode cX8_likeOnes 102 = .ok (.iconst 0, 1) := by decide +kernel
theorem dX8_likeOnes_103 : decode cX8_likeOnes 103 = .ok (.istore 10, 2) := by decide +kernel
theorem dX8_likeOnes_105 : decode cX8_likeOnes 105 = .ok (.iload 10, 2) := by decide +kernel
theorem dX8_likeOnes_107 : decode cX8_likeOnes 107 = .ok (.bipush 8, 2) := by decide +kernel
theorem dX8_likeOnes_109 : decode cX8_likeOnes 109 = .ok (.if_icmp .ge 21, 3) := by decide +kernel
theorem dX8_likeOnes_112 : decode cX8_likeOnes 112 = .ok (.iload 9, 2) := by decide +kernel
theorem dX8_likeOnes_114 : decode cX8_likeOnes 114 = .ok (.iload 8, 2) := by decide +kernel
theorem dX8_likeOnes_116 : decode cX8_likeOnes 116 = .ok (.iload 10, 2) := by decide +kernel
theorem dX8_likeOnes_118 : decode cX8_likeOnes 118 = .ok (.ishr, 1) := by decide +kernel
theorem dX8_likeOnes_119 : decode cX8_likeOnes 119 = .ok (.iconst 1, 1) := by decide +kernel
theorem dX8_likeOnes_120 : decode cX8_likeOnes 120 = .ok (.iand, 1) := by decide +kernel
theorem dX8_likeOnes_121 : decode cX8_likeOnes 121 = .ok (.iadd, 1) := by decide +kernel
theorem dX8_likeOnes_122 : decode cX8_likeOnes 122 = .ok (.istore 9, 2) := by decide +kernel
theorem dX8_likeOnes_124 : decode cX8_likeOnes 124 = .ok (.iinc 10 1, 3) := by decide +kernel
theorem dX8_likeOnes_127 : decode cX8_likeOnes 127 = .ok (.goto (-22), 3) := by decide +kernel
theorem dX8_likeOnes_130 : decode cX8_likeOnes 130 = .ok (.iload_n 3, 1) := by decide +kernel
theorem dX8_likeOnes_131 : decode cX8_likeOnes 131 = .ok (.ifCond .ge 21, 3) := by decide +kernel
theorem dX8_likeOnes_134 : decode cX8_likeOnes 134 = .ok (.iload 6, 2) := by decide +kernel
theorem dX8_likeOnes_136 : decode cX8_likeOnes 136 = .ok (.ifCond .ne 8, 3) := by decide +kernel
theorem dX8_likeOnes_139 : decode cX8_likeOnes 139 = .ok (.iload 7, 2) := by decide +kernel
theorem dX8_likeOnes_141 : decode cX8_likeOnes 141 = .ok (.ifCond .eq 7, 3) := by decide +kernel
theorem dX8_likeOnes_144 : decode cX8_likeOnes 144 = .ok (.iconst 1, 1) := by decide +kernel
theorem dX8_likeOnes_145 : decode cX8_likeOnes 145 = .ok (.goto 19, 3) := by decide +kernel
theorem dX8_likeOnes_148 : decode cX8_likeOnes 148 = .ok (.iconst 0, 1) := by decide +kernel
theorem dX8_likeOnes_149 : decode cX8_likeOnes 149 = .ok (.goto 15, 3) := by decide +kernel
theorem dX8_likeOnes_152 : decode cX8_likeOnes 152 = .ok (.iload_n 3, 1) := by decide +kernel
theorem dX8_likeOnes_153 : decode cX8_likeOnes 153 = .ok (.iconst 1, 1) := by decide +kernel
theorem dX8_likeOnes_154 : decode cX8_likeOnes 154 = .ok (.if_icmp .ne 8, 3) := by decide +kernel
theorem dX8_likeOnes_157 : decode cX8_likeOnes 157 = .ok (.iload 6, 2) := by decide +kernel
theorem dX8_likeOnes_159 : decode cX8_likeOnes 159 = .ok (.goto 5, 3) := by decide +kernel
theorem dX8_likeOnes_162 : decode cX8_likeOnes 162 = .ok (.iload 7, 2) := by decide +kernel
theorem dX8_likeOnes_164 : decode cX8_likeOnes 164 = .ok (.istore 10, 2) := by decide +kernel
theorem dX8_likeOnes_166 : decode cX8_likeOnes 166 = .ok (.iload 4, 2) := by decide +kernel
theorem dX8_likeOnes_168 : decode cX8_likeOnes 168 = .ok (.iload 5, 2) := by decide +kernel
theorem dX8_likeOnes_170 : decode cX8_likeOnes 170 = .ok (.iload_n 1, 1) := by decide +kernel
theorem dX8_likeOnes_171 : decode cX8_likeOnes 171 = .ok (.if_icmp .eq 34, 3) := by decide +kernel
theorem dX8_likeOnes_174 : decode cX8_likeOnes 174 = .ok (.aload_n 0, 1) := by decide +kernel
theorem dX8_likeOnes_175 : decode cX8_likeOnes 175 = .ok (.getfield 47, 3) := by decide +kernel
theorem dX8_likeOnes_178 : decode cX8_likeOnes 178 = .ok (.iload 5, 2) := by decide +kernel
theorem dX8_likeOnes_180 : decode cX8_likeOnes 180 = .ok (.iaload, 1) := by decide +kernel
theorem dX8_likeOnes_181 : decode cX8_likeOnes 181 = .ok (.aload_n 0, 1) := by decide +kernel
theorem dX8_likeOnes_182 : decode cX8_likeOnes 182 = .ok (.getfield 47, 3) := by decide +kernel
theorem dX8_likeOnes_185 : decode cX8_likeOnes 185 = .ok (.iload_n 1, 1) := by decide +kernel
theorem dX8_likeOnes_186 : decode cX8_likeOnes 186 = .ok (.iaload, 1) := by decide +kernel
theorem dX8_likeOnes_187 : decode cX8_likeOnes 187 = .ok (.if_icmp .ne 18, 3) := by decide +kernel
theorem dX8_likeOnes_190 : decode cX8_likeOnes 190 = .ok (.iload 10, 2) := by decide +kernel
theorem dX8_likeOnes_192 : decode cX8_likeOnes 192 = .ok (.ifCond .eq 13, 3) := by decide +kernel
theorem dX8_likeOnes_195 : decode cX8_likeOnes 195 = .ok (.iload 9, 2) := by decide +kernel
theorem dX8_likeOnes_197 : decode cX8_likeOnes 197 = .ok (.iload_n 2, 1) := by decide +kernel
theorem dX8_likeOnes_198 : decode cX8_likeOnes 198 = .ok (.if_icmp .gt 7, 3) := by decide +kernel
theorem dX8_likeOnes_201 : decode cX8_likeOnes 201 = .ok (.iconst 1, 1) := by decide +kernel
theorem dX8_likeOnes_202 : decode cX8_likeOnes 202 = .ok (.goto 4, 3) := by decide +kernel
theorem dX8_likeOnes_205 : decode cX8_likeOnes 205 = .ok (.iconst 0, 1) := by decide +kernel
theorem dX8_likeOnes_206 : decode cX8_likeOnes 206 = .ok (.iadd, 1) := by decide +kernel
theorem dX8_likeOnes_207 : decode cX8_likeOnes 207 = .ok (.istore 4, 2) := by decide +kernel
theorem dX8_likeOnes_209 : decode cX8_likeOnes 209 = .ok (.iinc 5 1, 3) := by decide +kernel
theorem dX8_likeOnes_212 : decode cX8_likeOnes 212 = .ok (.goto (-206), 3) := by decide +kernel
theorem dX8_likeOnes_215 : decode cX8_likeOnes 215 = .ok (.iload 4, 2) := by decide +kernel
theorem dX8_likeOnes_217 : decode cX8_likeOnes 217 = .ok (.ireturn, 1) := by decide +kernel
theorem dX8_like_0 : decode cX8_like 0 = .ok (.aload_n 0, 1) := by decide +kernel
theorem dX8_like_1 : decode cX8_like 1 = .ok (.iload_n 1, 1) := by decide +kernel
theorem dX8_like_2 : decode cX8_like 2 = .ok (.invokevirtual 184, 3) := by decide +kernel
theorem dX8_like_5 : decode cX8_like 5 = .ok (.ifCond .eq 23, 3) := by decide +kernel
theorem dX8_like_8 : decode cX8_like 8 = .ok (.iload_n 2, 1) := by decide +kernel
theorem dX8_like_9 : decode cX8_like 9 = .ok (.iconst 0, 1) := by decide +kernel
theorem dX8_like_10 : decode cX8_like 10 = .ok (.bipush 8, 2) := by decide +kernel
theorem dX8_like_12 : decode cX8_like 12 = .ok (.invokestatic 136, 3) := by decide +kernel
theorem dX8_like_15 : decode cX8_like 15 = .ok (.ifCond .eq 13, 3) := by decide +kernel
theorem dX8_like_18 : decode cX8_like 18 = .ok (.aload_n 0, 1) := by decide +kernel
theorem dX8_like_19 : decode cX8_like 19 = .ok (.iload_n 1, 1) := by decide +kernel
theorem dX8_like_20 : decode cX8_like 20 = .ok (.iload_n 2, 1) := by decide +kernel
theorem dX8_like_21 : decode cX8_like 21 = .ok (.iconst (-1), 1) := by decide +kernel
theorem dX8_like_22 : decode cX8_like 22 = .ok (.invokevirtual 206, 3) := by decide +kernel
theorem dX8_like_25 : decode cX8_like 25 = .ok (.goto 4, 3) := by decide +kernel
theorem dX8_like_28 : decode cX8_like 28 = .ok (.iconst (-1), 1) := by decide +kernel
theorem dX8_like_29 : decode cX8_like 29 = .ok (.ireturn, 1) := by decide +kernel
theorem dX8_unlike_0 : decode cX8_unlike 0 = .ok (.aload_n 0, 1) := by decide +kernel
theorem dX8_unlike_1 : decode cX8_unlike 1 = .ok (.iload_n 1, 1) := by decide +kernel
theorem dX8_unlike_2 : decode cX8_unlike 2 = .ok (.invokevirtual 184, 3) := by decide +kernel
theorem dX8_unlike_5 : decode cX8_unlike 5 = .ok (.ifCond .eq 13, 3) := by decide +kernel
theorem dX8_unlike_8 : decode cX8_unlike 8 = .ok (.iload_n 2, 1) := by decide +kernel
theorem dX8_unlike_9 : decode cX8_unlike 9 = .ok (.iconst 0, 1) := by decide +kernel
theorem dX8_unlike_10 : decode cX8_unlike 10 = .ok (.bipush 8, 2) := by decide +kernel
theorem dX8_unlike_12 : decode cX8_unlike 12 = .ok (.invokestatic 136, 3) := by decide +kernel
theorem dX8_unlike_15 : decode cX8_unlike 15 = .ok (.ifCond .ne 5, 3) := by decide +kernel
theorem dX8_unlike_18 : decode cX8_unlike 18 = .ok (.iconst (-1), 1) := by decide +kernel
theorem dX8_unlike_19 : decode cX8_unlike 19 = .ok (.ireturn, 1) := by decide +kernel
theorem dX8_unlike_20 : decode cX8_unlike 20 = .ok (.aload_n 0, 1) := by decide +kernel
theorem dX8_unlike_21 : decode cX8_unlike 21 = .ok (.iload_n 1, 1) := by decide +kernel
theorem dX8_unlike_22 : decode cX8_unlike 22 = .ok (.iload_n 2, 1) := by decide +kernel
theorem dX8_unlike_23 : decode cX8_unlike 23 = .ok (.iconst 1, 1) := by decide +kernel
theorem dX8_unlike_24 : decode cX8_unlike 24 = .ok (.invokevirtual 206, 3) := by decide +kernel
theorem dX8_unlike_27 : decode cX8_unlike 27 = .ok (.istore_n 3, 1) := by decide +kernel
theorem dX8_unlike_28 : decode cX8_unlike 28 = .ok (.aload_n 0, 1) := by decide +kernel
theorem dX8_unlike_29 : decode cX8_unlike 29 = .ok (.iload_n 1, 1) := by decide +kernel
theorem dX8_unlike_30 : decode cX8_unlike 30 = .ok (.iload_n 2, 1) := by decide +kernel
theorem dX8_unlike_31 : decode cX8_unlike 31 = .ok (.iconst 0, 1) := by decide +kernel
theorem dX8_unlike_32 : decode cX8_unlike 32 = .ok (.invokevirtual 206, 3) := by decide +kernel
theorem dX8_unlike_35 : decode cX8_unlike 35 = .ok (.istore 4, 2) := by decide +kernel
theorem dX8_unlike_37 : decode cX8_unlike 37 = .ok (.iload_n 3, 1) := by decide +kernel
theorem dX8_unlike_38 : decode cX8_unlike 38 = .ok (.iload 4, 2) := by decide +kernel
theorem dX8_unlike_40 : decode cX8_unlike 40 = .ok (.if_icmp .ne 7, 3) := by decide +kernel
theorem dX8_unlike_43 : decode cX8_unlike 43 = .ok (.iconst 0, 1) := by decide +kernel
theorem dX8_unlike_44 : decode cX8_unlike 44 = .ok (.goto 15, 3) := by decide +kernel
theorem dX8_unlike_47 : decode cX8_unlike 47 = .ok (.iload_n 3, 1) := by decide +kernel
theorem dX8_unlike_48 : decode cX8_unlike 48 = .ok (.iload 4, 2) := by decide +kernel
theorem dX8_unlike_50 : decode cX8_unlike 50 = .ok (.if_icmp .ge 7, 3) := by decide +kernel
theorem dX8_unlike_53 : decode cX8_unlike 53 = .ok (.iload_n 3, 1) := by decide +kernel
theorem dX8_unlike_54 : decode cX8_unlike 54 = .ok (.goto 5, 3) := by decide +kernel
theorem dX8_unlike_57 : decode cX8_unlike 57 = .ok (.iload 4, 2) := by decide +kernel
theorem dX8_unlike_59 : decode cX8_unlike 59 = .ok (.ireturn, 1) := by decide +kernel
theorem dX8_stands_0 : decode cX8_stands 0 = .ok (.aload_n 0, 1) := by decide +kernel
theorem dX8_stands_1 : decode cX8_stands 1 = .ok (.getfield 50, 3) := by decide +kernel
theorem dX8_stands_4 : decode cX8_stands 4 = .ok (.iload_n 1, 1) := by decide +kernel
theorem dX8_stands_5 : decode cX8_stands 5 = .ok (.iaload, 1) := by decide +kernel
theorem dX8_stands_6 : decode cX8_stands 6 = .ok (.iconst 2, 1) := by decide +kernel
theorem dX8_stands_7 : decode cX8_stands 7 = .ok (.if_icmp .eq 23, 3) := by decide +kernel
theorem dX8_stands_10 : decode cX8_stands 10 = .ok (.aload_n 0, 1) := by decide +kernel
theorem dX8_stands_11 : decode cX8_stands 11 = .ok (.getfield 50, 3) := by decide +kernel
theorem dX8_stands_14 : decode cX8_stands 14 = .ok (.iload_n 1, 1) := by decide +kernel
theorem dX8_stands_15 : decode cX8_stands 15 = .ok (.iaload, 1) := by decide +kernel
theorem dX8_stands_16 : decode cX8_stands 16 = .ok (.iconst 5, 1) := by decide +kernel
theorem dX8_stands_17 : decode cX8_stands 17 = .ok (.if_icmp .eq 13, 3) := by decide +kernel
theorem dX8_stands_20 : decode cX8_stands 20 = .ok (.aload_n 0, 1) := by decide +kernel
theorem dX8_stands_21 : decode cX8_stands 21 = .ok (.getfield 50, 3) := by decide +kernel
theorem dX8_stands_24 : decode cX8_stands 24 = .ok (.iload_n 1, 1) := by decide +kernel
theorem dX8_stands_25 : decode cX8_stands 25 = .ok (.iaload, 1) := by decide +kernel
theorem dX8_stands_26 : decode cX8_stands 26 = .ok (.iconst 3, 1) := by decide +kernel
theorem dX8_stands_27 : decode cX8_stands 27 = .ok (.if_icmp .ne 7, 3) := by decide +kernel
theorem dX8_stands_30 : decode cX8_stands 30 = .ok (.iconst 1, 1) := by decide +kernel
theorem dX8_stands_31 : decode cX8_stands 31 = .ok (.goto 4, 3) := by decide +kernel
theorem dX8_stands_34 : decode cX8_stands 34 = .ok (.iconst 0, 1) := by decide +kernel
theorem dX8_stands_35 : decode cX8_stands 35 = .ok (.ireturn, 1) := by decide +kernel
theorem dX8_findStrikes_0 : decode cX8_findStrikes 0 = .ok (.aload_n 0, 1) := by decide +kernel
theorem dX8_findStrikes_1 : decode cX8_findStrikes 1 = .ok (.iconst 0, 1) := by decide +kernel
theorem dX8_findStrikes_2 : decode cX8_findStrikes 2 = .ok (.putfield 210, 3) := by decide +kernel
theorem dX8_findStrikes_5 : decode cX8_findStrikes 5 = .ok (.iconst 0, 1) := by decide +kernel
theorem dX8_findStrikes_6 : decode cX8_findStrikes 6 = .ok (.istore_n 2, 1) := by decide +kernel
theorem dX8_findStrikes_7 : decode cX8_findStrikes 7 = .ok (.iload_n 2, 1) := by decide +kernel
theorem dX8_findStrikes_8 : decode cX8_findStrikes 8 = .ok (.aload_n 0, 1) := by decide +kernel
theorem dX8_findStrikes_9 : decode cX8_findStrikes 9 = .ok (.getfield 144, 3) := by decide +kernel
theorem dX8_findStrikes_12 : decode cX8_findStrikes 12 = .ok (.if_icmp .ge 176, 3) := by decide +kernel
theorem dX8_findStrikes_15 : decode cX8_findStrikes 15 = .ok (.iconst 0, 1) := by decide +kernel
theorem dX8_findStrikes_16 : decode cX8_findStrikes 16 = .ok (.istore_n 3, 1) := by decide +kernel
theorem dX8_findStrikes_17 : decode cX8_findStrikes 17 = .ok (.iload_n 3, 1) := by decide +kernel
theorem dX8_findStrikes_18 : decode cX8_findStrikes 18 = .ok (.aload_n 0, 1) := by decide +kernel
theorem dX8_findStrikes_19 : decode cX8_findStrikes 19 = .ok (.getfield 133, 3) := by decide +kernel
theorem dX8_findStrikes_22 : decode cX8_findStrikes 22 = .ok (.if_icmp .ge 160, 3) := by decide +kernel
theorem dX8_findStrikes_25 : decode cX8_findStrikes 25 = .ok (.aload_n 0, 1) := by decide +kernel
theorem dX8_findStrikes_26 : decode cX8_findStrikes 26 = .ok (.getfield 32, 3) := by decide +kernel
theorem dX8_findStrikes_29 : decode cX8_findStrikes 29 = .ok (.iload_n 2, 1) := by decide +kernel
theorem dX8_findStrikes_30 : decode cX8_findStrikes 30 = .ok (.iaload, 1) := by decide +kernel
theorem dX8_findStrikes_31 : decode cX8_findStrikes 31 = .ok (.iload_n 1, 1) := by decide +kernel
theorem dX8_findStrikes_32 : decode cX8_findStrikes 32 = .ok (.if_icmp .ne 150, 3) := by decide +kernel
theorem dX8_findStrikes_35 : decode cX8_findStrikes 35 = .ok (.aload_n 0, 1) := by decide +kernel
theorem dX8_findStrikes_36 : decode cX8_findStrikes 36 = .ok (.getfield 44, 3) := by decide +kernel
theorem dX8_findStrikes_39 : decode cX8_findStrikes 39 = .ok (.iload_n 3, 1) := by decide +kernel
theorem dX8_findStrikes_40 : decode cX8_findStrikes 40 = .ok (.iaload, 1) := by decide +kernel
theorem dX8_findStrikes_41 : decode cX8_findStrikes 41 = .ok (.iload_n 2, 1) := by decide +kernel
theorem dX8_findStrikes_42 : decode cX8_findStrikes 42 = .ok (.if_icmp .ne 134, 3) := by decide +kernel
theorem dX8_findStrikes_45 : decode cX8_findStrikes 45 = .ok (.aload_n 0, 1) := by decide +kernel
theorem dX8_findStrikes_46 : decode cX8_findStrikes 46 = .ok (.iload_n 3, 1) := by decide +kernel
theorem dX8_findStrikes_47 : decode cX8_findStrikes 47 = .ok (.invokevirtual 213, 3) := by decide +kernel
theorem dX8_findStrikes_50 : decode cX8_findStrikes 50 = .ok (.ifCond .eq 126, 3) := by decide +kernel
theorem dX8_findStrikes_53 : decode cX8_findStrikes 53 = .ok (.aload_n 0, 1) := by decide +kernel
theorem dX8_findStrikes_54 : decode cX8_findStrikes 54 = .ok (.getfield 16, 3) := by decide +kernel
theorem dX8_findStrikes_57 : decode cX8_findStrikes 57 = .ok (.aload_n 0, 1) := by decide +kernel
theorem dX8_findStrikes_58 : decode cX8_findStrikes 58 = .ok (.getfield 47, 3) := by decide +kernel
theorem dX8_findStrikes_61 : decode cX8_findStrikes 61 = .ok (.iload_n 3, 1) := by decide +kernel
theorem dX8_findStrikes_62 : decode cX8_findStrikes 62 = .ok (.iaload, 1) := by decide +kernel
theorem dX8_findStrikes_63 : decode cX8_findStrikes 63 = .ok (.iaload, 1) := by decide +kernel
theorem dX8_findStrikes_64 : decode cX8_findStrikes 64 = .ok (.iconst 2, 1) := by decide +kernel
theorem dX8_findStrikes_65 : decode cX8_findStrikes 65 = .ok (.if_icmp .ne 111, 3) := by decide +kernel
theorem dX8_findStrikes_68 : decode cX8_findStrikes 68 = .ok (.iconst 0, 1) := by decide +kernel
theorem dX8_findStrikes_69 : decode cX8_findStrikes 69 = .ok (.istore 4, 2) := by decide +kernel
theorem dX8_findStrikes_71 : decode cX8_findStrikes 71 = .ok (.iconst 0, 1) := by decide +kernel
theorem dX8_findStrikes_72 : decode cX8_findStrikes 72 = .ok (.istore 5, 2) := by decide +kernel
theorem dX8_findStrikes_74 : decode cX8_findStrikes 74 = .ok (.iload 5, 2) := by decide +kernel
theorem dX8_findStrikes_76 : decode cX8_findStrikes 76 = .ok (.aload_n 0, 1) := by decide +kernel
theorem dX8_findStrikes_77 : decode cX8_findStrikes 77 = .ok (.getfield 210, 3) := by decide +kernel
theorem dX8_findStrikes_80 : decode cX8_findStrikes 80 = .ok (.if_icmp .ge 40, 3) := by decide +kernel
theorem dX8_findStrikes_83 : decode cX8_findStrikes 83 = .ok (.iload 4, 2) := by decide +kernel
theorem dX8_findStrikes_85 : decode cX8_findStrikes 85 = .ok (.aload_n 0, 1) := by decide +kernel
theorem dX8_findStrikes_86 : decode cX8_findStrikes 86 = .ok (.getfield 35, 3) := by decide +kernel
theorem dX8_findStrikes_89 : decode cX8_findStrikes 89 = .ok (.iload_n 2, 1) := by decide +kernel
theorem dX8_findStrikes_90 : decode cX8_findStrikes 90 = .ok (.iaload, 1) := by decide +kernel
theorem dX8_findStrikes_91 : decode cX8_findStrikes 91 = .ok (.aload_n 0, 1) := by decide +kernel
theorem dX8_findStrikes_92 : decode cX8_findStrikes 92 = .ok (.getfield 127, 3) := by decide +kernel
theorem dX8_findStrikes_95 : decode cX8_findStrikes 95 = .ok (.iload 5, 2) := by decide +kernel
theorem dX8_findStrikes_97 : decode cX8_findStrikes 97 = .ok (.iaload, 1) := by decide +kernel
theorem dX8_findStrikes_98 : decode cX8_findStrikes 98 = .ok (.aload_n 0, 1) := by decide +kernel
theorem dX8_findStrikes_99 : decode cX8_findStrikes 99 = .ok (.getfield 22, 3) := by decide +kernel
theorem dX8_findStrikes_102 : decode cX8_findStrikes 102 = .ok (.iadd, 1) := by decide +kernel
theorem dX8_findStrikes_103 : decode cX8_findStrikes 103 = .ok (.if_icmp .ge 7, 3) := by decide +kernel
theorem dX8_findStrikes_106 : decode cX8_findStrikes 106 = .ok (.iconst 1, 1) := by decide +kernel
theorem dX8_findStrikes_107 : decode cX8_findStrikes 107 = .ok (.goto 4, 3) := by decide +kernel
theorem dX8_findStrikes_110 : decode cX8_findStrikes 110 = .ok (.iconst 0, 1) := by decide +kernel
theorem dX8_findStrikes_111 : decode cX8_findStrikes 111 = .ok (.iadd, 1) := by decide +kernel
theorem dX8_findStrikes_112 : decode cX8_findStrikes 112 = .ok (.istore 4, 2) := by decide +kernel
theorem dX8_findStrikes_114 : decode cX8_findStrikes 114 = .ok (.iinc 5 1, 3) := by decide +kernel
theorem dX8_findStrikes_117 : decode cX8_findStrikes 117 = .ok (.goto (-43), 3) := by decide +kernel
theorem dX8_findStrikes_120 : decode cX8_findStrikes 120 = .ok (.aload_n 0, 1) := by decide +kernel
theorem dX8_findStrikes_121 : decode cX8_findStrikes 121 = .ok (.getfield 124, 3) := by decide +kernel
theorem dX8_findStrikes_124 : decode cX8_findStrikes 124 = .ok (.aload_n 0, 1) := by decide +kernel
theorem dX8_findStrikes_125 : decode cX8_findStrikes 125 = .ok (.getfield 210, 3) := by decide +kernel
theorem dX8_findStrikes_128 : decode cX8_findStrikes 128 = .ok (.iload_n 3, 1) := by decide +kernel
theorem dX8_findStrikes_129 : decode cX8_findStrikes 129 = .ok (.iastore, 1) := by decide +kernel
theorem dX8_findStrikes_130 : decode cX8_findStrikes 130 = .ok (.aload_n 0, 1) := by decide +kernel
theorem dX8_findStrikes_131 : decode cX8_findStrikes 131 = .ok (.getfield 127, 3) := by decide +kernel
theorem dX8_findStrikes_134 : decode cX8_findStrikes 134 = .ok (.aload_n 0, 1) := by decide +kernel
theorem dX8_findStrikes_135 : decode cX8_findStrikes 135 = .ok (.getfield 210, 3) := by decide +kernel
theorem dX8_findStrikes_138 : decode cX8_findStrikes 138 = .ok (.aload_n 0, 1) := by decide +kernel
theorem dX8_findStrikes_139 : decode cX8_findStrikes 139 = .ok (.getfield 35, 3) := by decide +kernel
theorem dX8_findStrikes_142 : decode cX8_findStrikes 142 = .ok (.iload_n 2, 1) := by decide +kernel
theorem dX8_findStrikes_143 : decode cX8_findStrikes 143 = .ok (.iaload, 1) := by decide +kernel
theorem dX8_findStrikes_144 : decode cX8_findStrikes 144 = .ok (.iastore, 1) := by decide +kernel
theorem dX8_findStrikes_145 : decode cX8_findStrikes 145 = .ok (.aload_n 0, 1) := by decide +kernel
theorem dX8_findStrikes_146 : decode cX8_findStrikes 146 = .ok (.getfield 130, 3) := by decide +kernel
theorem dX8_findStrikes_149 : decode cX8_findStrikes 149 = .ok (.aload_n 0, 1) := by decide +kernel
theorem dX8_findStrikes_150 : decode cX8_findStrikes 150 = .ok (.getfield 210, 3) := by decide +kernel
theorem dX8_findStrikes_153 : decode cX8_findStrikes 153 = .ok (.iload 4, 2) := by decide +kernel
theorem dX8_findStrikes_155 : decode cX8_findStrikes 155 = .ok (.iconst 3, 1) := by decide +kernel
theorem dX8_findStrikes_156 : decode cX8_findStrikes 156 = .ok (.if_icmp .ge 8, 3) := by decide +kernel
theorem dX8_findStrikes_159 : decode cX8_findStrikes 159 = .ok (.iload 4, 2) := by decide +kernel
theorem dX8_findStrikes_161 : decode cX8_findStrikes 161 = .ok (.goto 4, 3) := by decide +kernel
theorem dX8_findStrikes_164 : decode cX8_findStrikes 164 = .ok (.iconst 3, 1) := by decide +kernel
theorem dX8_findStrikes_165 : decode cX8_findStrikes 165 = .ok (.iastore, 1) := by decide +kernel
theorem dX8_findStrikes_166 : decode cX8_findStrikes 166 = .ok (.aload_n 0, 1) := by decide +kernel
theorem dX8_findStrikes_167 : decode cX8_findStrikes 167 = .ok (.dup, 1) := by decide +kernel
theorem dX8_findStrikes_168 : decode cX8_findStrikes 168 = .ok (.getfield 210, 3) := by decide +kernel
theorem dX8_findStrikes_171 : decode cX8_findStrikes 171 = .ok (.iconst 1, 1) := by decide +kernel
theorem dX8_findStrikes_172 : decode cX8_findStrikes 172 = .ok (.iadd, 1) := by decide +kernel
theorem dX8_findStrikes_173 : decode cX8_findStrikes 173 = .ok (.putfield 210, 3) := by decide +kernel
theorem dX8_findStrikes_176 : decode cX8_findStrikes 176 = .ok (.iinc 3 1, 3) := by decide +kernel
theorem dX8_findStrikes_179 : decode cX8_findStrikes 179 = .ok (.goto (-162), 3) := by decide +kernel
theorem dX8_findStrikes_182 : decode cX8_findStrikes 182 = .ok (.iinc 2 1, 3) := by decide +kernel
theorem dX8_findStrikes_185 : decode cX8_findStrikes 185 = .ok (.goto (-178), 3) := by decide +kernel
theorem dX8_findStrikes_188 : decode cX8_findStrikes 188 = .ok (.return_, 1) := by decide +kernel
theorem dX8_isHidden_0 : decode cX8_isHidden 0 = .ok (.iconst 0, 1) := by decide +kernel
theorem dX8_isHidden_1 : decode cX8_isHidden 1 = .ok (.istore_n 2, 1) := by decide +kernel
theorem dX8_isHidden_2 : decode cX8_isHidden 2 = .ok (.iconst 0, 1) := by decide +kernel
theorem dX8_isHidden_3 : decode cX8_isHidden 3 = .ok (.istore_n 3, 1) := by decide +kernel
theorem dX8_isHidden_4 : decode cX8_isHidden 4 = .ok (.iload_n 3, 1) := by decide +kernel
theorem dX8_isHidden_5 : decode cX8_isHidden 5 = .ok (.aload_n 0, 1) := by decide +kernel
theorem dX8_isHidden_6 : decode cX8_isHidden 6 = .ok (.getfield 133, 3) := by decide +kernel
theorem dX8_isHidden_9 : decode cX8_isHidden 9 = .ok (.if_icmp .ge 37, 3) := by decide +kernel
theorem dX8_isHidden_12 : decode cX8_isHidden 12 = .ok (.iload_n 2, 1) := by decide +kernel
theorem dX8_isHidden_13 : decode cX8_isHidden 13 = .ok (.ifCond .ne 21, 3) := by decide +kernel
theorem dX8_isHidden_16 : decode cX8_isHidden 16 = .ok (.aload_n 0, 1) := by decide +kernel
theorem dX8_isHidden_17 : decode cX8_isHidden 17 = .ok (.getfield 44, 3) := by decide +kernel
theorem dX8_isHidden_20 : decode cX8_isHidden 20 = .ok (.iload_n 3, 1) := by decide +kernel
theorem dX8_isHidden_21 : decode cX8_isHidden 21 = .ok (.iaload, 1) := by decide +kernel
theorem dX8_isHidden_22 : decode cX8_isHidden 22 = .ok (.iload_n 1, 1) := by decide +kernel
theorem dX8_isHidden_23 : decode cX8_isHidden 23 = .ok (.if_icmp .ne 15, 3) := by decide +kernel
theorem dX8_isHidden_26 : decode cX8_isHidden 26 = .ok (.aload_n 0, 1) := by decide +kernel
theorem dX8_isHidden_27 : decode cX8_isHidden 27 = .ok (.iload_n 3, 1) := by decide +kernel
theorem dX8_isHidden_28 : decode cX8_isHidden 28 = .ok (.invokevirtual 213, 3) := by decide +kernel
theorem dX8_isHidden_31 : decode cX8_isHidden 31 = .ok (.ifCond .eq 7, 3) := by decide +kernel
theorem dX8_isHidden_34 : decode cX8_isHidden 34 = .ok (.iconst 1, 1) := by decide +kernel
theorem dX8_isHidden_35 : decode cX8_isHidden 35 = .ok (.goto 4, 3) := by decide +kernel
theorem dX8_isHidden_38 : decode cX8_isHidden 38 = .ok (.iconst 0, 1) := by decide +kernel
theorem dX8_isHidden_39 : decode cX8_isHidden 39 = .ok (.istore_n 2, 1) := by decide +kernel
theorem dX8_isHidden_40 : decode cX8_isHidden 40 = .ok (.iinc 3 1, 3) := by decide +kernel
theorem dX8_isHidden_43 : decode cX8_isHidden 43 = .ok (.goto (-39), 3) := by decide +kernel
theorem dX8_isHidden_46 : decode cX8_isHidden 46 = .ok (.iload_n 2, 1) := by decide +kernel
theorem dX8_isHidden_47 : decode cX8_isHidden 47 = .ok (.ireturn, 1) := by decide +kernel
theorem dX8_writer_0 : decode cX8_writer 0 = .ok (.iload_n 1, 1) := by decide +kernel
theorem dX8_writer_1 : decode cX8_writer 1 = .ok (.iconst 0, 1) := by decide +kernel
theorem dX8_writer_2 : decode cX8_writer 2 = .ok (.bipush 39, 2) := by decide +kernel
theorem dX8_writer_4 : decode cX8_writer 4 = .ok (.invokestatic 136, 3) := by decide +kernel
theorem dX8_writer_7 : decode cX8_writer 7 = .ok (.ifCond .eq 13, 3) := by decide +kernel
theorem dX8_writer_10 : decode cX8_writer 10 = .ok (.iload_n 2, 1) := by decide +kernel
theorem dX8_writer_11 : decode cX8_writer 11 = .ok (.iconst 0, 1) := by decide +kernel
theorem dX8_writer_12 : decode cX8_writer 12 = .ok (.bipush 6, 2) := by decide +kernel
theorem dX8_writer_14 : decode cX8_writer 14 = .ok (.invokestatic 136, 3) := by decide +kernel
theorem dX8_writer_17 : decode cX8_writer 17 = .ok (.ifCond .ne 5, 3) := by decide +kernel
theorem dX8_writer_20 : decode cX8_writer 20 = .ok (.iconst (-1), 1) := by decide +kernel
theorem dX8_writer_21 : decode cX8_writer 21 = .ok (.ireturn, 1) := by decide +kernel
theorem dX8_writer_22 : decode cX8_writer 22 = .ok (.aload_n 0, 1) := by decide +kernel
theorem dX8_writer_23 : decode cX8_writer 23 = .ok (.iload_n 1, 1) := by decide +kernel
theorem dX8_writer_24 : decode cX8_writer 24 = .ok (.invokevirtual 216, 3) := by decide +kernel
theorem dX8_writer_27 : decode cX8_writer 27 = .ok (.iconst 0, 1) := by decide +kernel
theorem dX8_writer_28 : decode cX8_writer 28 = .ok (.istore_n 3, 1) := by decide +kernel
theorem dX8_writer_29 : decode cX8_writer 29 = .ok (.iconst 0, 1) := by decide +kernel
theorem dX8_writer_30 : decode cX8_writer 30 = .ok (.istore 4, 2) := by decide +kernel
theorem dX8_writer_32 : decode cX8_writer 32 = .ok (.iconst (-1), 1) := by decide +kernel
theorem dX8_writer_33 : decode cX8_writer 33 = .ok (.istore 5, 2) := by decide +kernel
theorem dX8_writer_35 : decode cX8_writer 35 = .ok (.aload_n 0, 1) := by decide +kernel
theorem dX8_writer_36 : decode cX8_writer 36 = .ok (.getfield 210, 3) := by decide +kernel
theorem dX8_writer_39 : decode cX8_writer 39 = .ok (.iconst 1, 1) := by decide +kernel
theorem dX8_writer_40 : decode cX8_writer 40 = .ok (.isub, 1) := by decide +kernel
theorem dX8_writer_41 : decode cX8_writer 41 = .ok (.istore 6, 2) := by decide +kernel
theorem dX8_writer_43 : decode cX8_writer 43 = .ok (.iload 6, 2) := by decide +kernel
theorem dX8_writer_45 : decode cX8_writer 45 = .ok (.ifCond .lt 129, 3) := by decide +kernel
theorem dX8_writer_48 : decode cX8_writer 48 = .ok (.iload_n 3, 1) := by decide +kernel
theorem dX8_writer_49 : decode cX8_writer 49 = .ok (.aload_n 0, 1) := by decide +kernel
theorem dX8_writer_50 : decode cX8_writer 50 = .ok (.getfield 140, 3) := by decide +kernel
theorem dX8_writer_53 : decode cX8_writer 53 = .ok (.aload_n 0, 1) := by decide +kernel
theorem dX8_writer_54 : decode cX8_writer 54 = .ok (.getfield 127, 3) := by decide +kernel
theorem dX8_writer_57 : decode cX8_writer 57 = .ok (.iload 6, 2) := by decide +kernel
theorem dX8_writer_59 : decode cX8_writer 59 = .ok (.iaload, 1) := by decide +kernel
theorem dX8_writer_60 : decode cX8_writer 60 = .ok (.aload_n 0, 1) := by decide +kernel
theorem dX8_writer_61 : decode cX8_writer 61 = .ok (.getfield 22, 3) := by decide +kernel
theorem dX8_writer_64 : decode cX8_writer 64 = .ok (.iadd, 1) := by decide +kernel
theorem dX8_writer_65 : decode cX8_writer 65 = .ok (.if_icmp .ge 7, 3) := by decide +kernel
theorem dX8_writer_68 : decode cX8_writer 68 = .ok (.iconst 1, 1) := by decide +kernel
theorem dX8_writer_69 : decode cX8_writer 69 = .ok (.goto 4, 3) := by decide +kernel
theorem dX8_writer_72 : decode cX8_writer 72 = .ok (.iconst 0, 1) := by decide +kernel
theorem dX8_writer_73 : decode cX8_writer 73 = .ok (.iadd, 1) := by decide +kernel
theorem dX8_writer_74 : decode cX8_writer 74 = .ok (.istore_n 3, 1) := by decide +kernel
theorem dX8_writer_75 : decode cX8_writer 75 = .ok (.aload_n 0, 1) := by decide +kernel
theorem dX8_writer_76 : decode cX8_writer 76 = .ok (.getfield 130, 3) := by decide +kernel
theorem dX8_writer_79 : decode cX8_writer 79 = .ok (.iload 6, 2) := by decide +kernel
theorem dX8_writer_81 : decode cX8_writer 81 = .ok (.iaload, 1) := by decide +kernel
theorem dX8_writer_82 : decode cX8_writer 82 = .ok (.ifCond .le 45, 3) := by decide +kernel
theorem dX8_writer_85 : decode cX8_writer 85 = .ok (.aload_n 0, 1) := by decide +kernel
theorem dX8_writer_86 : decode cX8_writer 86 = .ok (.getfield 130, 3) := by decide +kernel
theorem dX8_writer_89 : decode cX8_writer 89 = .ok (.iload 6, 2) := by decide +kernel
theorem dX8_writer_91 : decode cX8_writer 91 = .ok (.iaload, 1) := by decide +kernel
theorem dX8_writer_92 : decode cX8_writer 92 = .ok (.iconst 3, 1) := by decide +kernel
theorem dX8_writer_93 : decode cX8_writer 93 = .ok (.if_icmp .ge 34, 3) := by decide +kernel
theorem dX8_writer_96 : decode cX8_writer 96 = .ok (.aload_n 0, 1) := by decide +kernel
theorem dX8_writer_97 : decode cX8_writer 97 = .ok (.getfield 140, 3) := by decide +kernel
theorem dX8_writer_100 : decode cX8_writer 100 = .ok (.aload_n 0, 1) := by decide +kernel
theorem dX8_writer_101 : decode cX8_writer 101 = .ok (.getfield 127, 3) := by decide +kernel
theorem dX8_writer_104 : decode cX8_writer 104 = .ok (.iload 6, 2) := by decide +kernel
theorem dX8_writer_106 : decode cX8_writer 106 = .ok (.iaload, 1) := by decide +kernel
theorem dX8_writer_107 : decode cX8_writer 107 = .ok (.aload_n 0, 1) := by decide +kernel
theorem dX8_writer_108 : decode cX8_writer 108 = .ok (.getfield 130, 3) := by decide +kernel
theorem dX8_writer_111 : decode cX8_writer 111 = .ok (.iload 6, 2) := by decide +kernel
theorem dX8_writer_113 : decode cX8_writer 113 = .ok (.iaload, 1) := by decide +kernel
theorem dX8_writer_114 : decode cX8_writer 114 = .ok (.aload_n 0, 1) := by decide +kernel
theorem dX8_writer_115 : decode cX8_writer 115 = .ok (.getfield 26, 3) := by decide +kernel
theorem dX8_writer_118 : decode cX8_writer 118 = .ok (.imul, 1) := by decide +kernel
theorem dX8_writer_119 : decode cX8_writer 119 = .ok (.iadd, 1) := by decide +kernel
theorem dX8_writer_120 : decode cX8_writer 120 = .ok (.if_icmp .ge 7, 3) := by decide +kernel
theorem dX8_writer_123 : decode cX8_writer 123 = .ok (.iconst 1, 1) := by decide +kernel
theorem dX8_writer_124 : decode cX8_writer 124 = .ok (.goto 4, 3) := by decide +kernel
theorem dX8_writer_127 : decode cX8_writer 127 = .ok (.iconst 0, 1) := by decide +kernel
theorem dX8_writer_128 : decode cX8_writer 128 = .ok (.istore 7, 2) := by decide +kernel
theorem dX8_writer_130 : decode cX8_writer 130 = .ok (.iload 7, 2) := by decide +kernel
theorem dX8_writer_132 : decode cX8_writer 132 = .ok (.ifCond .eq 7, 3) := by decide +kernel
theorem dX8_writer_135 : decode cX8_writer 135 = .ok (.iconst 1, 1) := by decide +kernel
theorem dX8_writer_136 : decode cX8_writer 136 = .ok (.goto 5, 3) := by decide +kernel
theorem dX8_writer_139 : decode cX8_writer 139 = .ok (.iload 4, 2) := by decide +kernel
theorem dX8_writer_141 : decode cX8_writer 141 = .ok (.istore 4, 2) := by decide +kernel
theorem dX8_writer_143 : decode cX8_writer 143 = .ok (.aload_n 0, 1) := by decide +kernel
theorem dX8_writer_144 : decode cX8_writer 144 = .ok (.getfield 130, 3) := by decide +kernel
theorem dX8_writer_147 : decode cX8_writer 147 = .ok (.iload 6, 2) := by decide +kernel
theorem dX8_writer_149 : decode cX8_writer 149 = .ok (.iaload, 1) := by decide +kernel
theorem dX8_writer_150 : decode cX8_writer 150 = .ok (.iconst 3, 1) := by decide +kernel
theorem dX8_writer_151 : decode cX8_writer 151 = .ok (.if_icmp .ne 13, 3) := by decide +kernel
theorem dX8_writer_154 : decode cX8_writer 154 = .ok (.aload_n 0, 1) := by decide +kernel
theorem dX8_writer_155 : decode cX8_writer 155 = .ok (.getfield 127, 3) := by decide +kernel
theorem dX8_writer_158 : decode cX8_writer 158 = .ok (.iload 6, 2) := by decide +kernel
theorem dX8_writer_160 : decode cX8_writer 160 = .ok (.iaload, 1) := by decide +kernel
theorem dX8_writer_161 : decode cX8_writer 161 = .ok (.goto 5, 3) := by decide +kernel
theorem dX8_writer_164 : decode cX8_writer 164 = .ok (.iload 5, 2) := by decide +kernel
theorem dX8_writer_166 : decode cX8_writer 166 = .ok (.istore 5, 2) := by decide +kernel
theorem dX8_writer_168 : decode cX8_writer 168 = .ok (.iinc 6 (-1), 3) := by decide +kernel
theorem dX8_writer_171 : decode cX8_writer 171 = .ok (.goto (-128), 3) := by decide +kernel
theorem dX8_writer_174 : decode cX8_writer 174 = .ok (.iconst 0, 1) := by decide +kernel
theorem dX8_writer_175 : decode cX8_writer 175 = .ok (.istore 6, 2) := by decide +kernel
theorem dX8_writer_177 : decode cX8_writer 177 = .ok (.iconst 0, 1) := by decide +kernel
theorem dX8_writer_178 : decode cX8_writer 178 = .ok (.istore 7, 2) := by decide +kernel
theorem dX8_writer_180 : decode cX8_writer 180 = .ok (.iload 7, 2) := by decide +kernel
theorem dX8_writer_182 : decode cX8_writer 182 = .ok (.aload_n 0, 1) := by decide +kernel
theorem dX8_writer_183 : decode cX8_writer 183 = .ok (.getfield 133, 3) := by decide +kernel
theorem dX8_writer_186 : decode cX8_writer 186 = .ok (.if_icmp .ge 59, 3) := by decide +kernel
theorem dX8_writer_189 : decode cX8_writer 189 = .ok (.iload 6, 2) := by decide +kernel
theorem dX8_writer_191 : decode cX8_writer 191 = .ok (.aload_n 0, 1) := by decide +kernel
theorem dX8_writer_192 : decode cX8_writer 192 = .ok (.getfield 32, 3) := by decide +kernel
theorem dX8_writer_195 : decode cX8_writer 195 = .ok (.aload_n 0, 1) := by decide +kernel
theorem dX8_writer_196 : decode cX8_writer 196 = .ok (.getfield 44, 3) := by decide +kernel
theorem dX8_writer_199 : decode cX8_writer 199 = .ok (.iload 7, 2) := by decide +kernel
theorem dX8_writer_201 : decode cX8_writer 201 = .ok (.iaload, 1) := by decide +kernel
theorem dX8_writer_202 : decode cX8_writer 202 = .ok (.iaload, 1) := by decide +kernel
theorem dX8_writer_203 : decode cX8_writer 203 = .ok (.iload_n 1, 1) := by decide +kernel
theorem dX8_writer_204 : decode cX8_writer 204 = .ok (.if_icmp .ne 31, 3) := by decide +kernel
theorem dX8_writer_207 : decode cX8_writer 207 = .ok (.aload_n 0, 1) := by decide +kernel
theorem dX8_writer_208 : decode cX8_writer 208 = .ok (.iload 7, 2) := by decide +kernel
theorem dX8_writer_210 : decode cX8_writer 210 = .ok (.invokevirtual 213, 3) := by decide +kernel
theorem dX8_writer_213 : decode cX8_writer 213 = .ok (.ifCond .eq 22, 3) := by decide +kernel
theorem dX8_writer_216 : decode cX8_writer 216 = .ok (.aload_n 0, 1) := by decide +kernel
theorem dX8_writer_217 : decode cX8_writer 217 = .ok (.getfield 16, 3) := by decide +kernel
theorem dX8_writer_220 : decode cX8_writer 220 = .ok (.aload_n 0, 1) := by decide +kernel
theorem dX8_writer_221 : decode cX8_writer 221 = .ok (.getfield 47, 3) := by decide +kernel
theorem dX8_writer_224 : decode cX8_writer 224 = .ok (.iload 7, 2) := by decide +kernel
theorem dX8_writer_226 : decode cX8_writer 226 = .ok (.iaload, 1) := by decide +kernel
theorem dX8_writer_227 : decode cX8_writer 227 = .ok (.iaload, 1) := by decide +kernel
theorem dX8_writer_228 : decode cX8_writer 228 = .ok (.ifCond .le 7, 3) := by decide +kernel
theorem dX8_writer_231 : decode cX8_writer 231 = .ok (.iconst 1, 1) := by decide +kernel
theorem dX8_writer_232 : decode cX8_writer 232 = .ok (.goto 4, 3) := by decide +kernel
theorem dX8_writer_235 : decode cX8_writer 235 = .ok (.iconst 0, 1) := by decide +kernel
theorem dX8_writer_236 : decode cX8_writer 236 = .ok (.iadd, 1) := by decide +kernel
theorem dX8_writer_237 : decode cX8_writer 237 = .ok (.istore 6, 2) := by decide +kernel
theorem dX8_writer_239 : decode cX8_writer 239 = .ok (.iinc 7 1, 3) := by decide +kernel
theorem dX8_writer_242 : decode cX8_writer 242 = .ok (.goto (-62), 3) := by decide +kernel
theorem dX8_writer_245 : decode cX8_writer 245 = .ok (.iconst 0, 1) := by decide +kernel
theorem dX8_writer_246 : decode cX8_writer 246 = .ok (.istore 7, 2) := by decide +kernel
theorem dX8_writer_248 : decode cX8_writer 248 = .ok (.iconst 0, 1) := by decide +kernel
theorem dX8_writer_249 : decode cX8_writer 249 = .ok (.istore 8, 2) := by decide +kernel
theorem dX8_writer_251 : decode cX8_writer 251 = .ok (.iconst 0, 1) := by decide +kernel
theorem dX8_writer_252 : decode cX8_writer 252 = .ok (.istore 9, 2) := by decide +kernel
theorem dX8_writer_254 : decode cX8_writer 254 = .ok (.iload 9, 2) := by decide +kernel
theorem dX8_writer_256 : decode cX8_writer 256 = .ok (.aload_n 0, 1) := by decide +kernel
theorem dX8_writer_257 : decode cX8_writer 257 = .ok (.getfield 144, 3) := by decide +kernel
theorem dX8_writer_260 : decode cX8_writer 260 = .ok (.if_icmp .ge 60, 3) := by decide +kernel
theorem dX8_writer_263 : decode cX8_writer 263 = .ok (.iload 7, 2) := by decide +kernel
theorem dX8_writer_265 : decode cX8_writer 265 = .ok (.aload_n 0, 1) := by decide +kernel
theorem dX8_writer_266 : decode cX8_writer 266 = .ok (.getfield 32, 3) := by decide +kernel
theorem dX8_writer_269 : decode cX8_writer 269 = .ok (.iload 9, 2) := by decide +kernel
theorem dX8_writer_271 : decode cX8_writer 271 = .ok (.iaload, 1) := by decide +kernel
theorem dX8_writer_272 : decode cX8_writer 272 = .ok (.iload_n 1, 1) := by decide +kernel
theorem dX8_writer_273 : decode cX8_writer 273 = .ok (.if_icmp .ne 7, 3) := by decide +kernel
theorem dX8_writer_276 : decode cX8_writer 276 = .ok (.iconst 1, 1) := by decide +kernel
theorem dX8_writer_277 : decode cX8_writer 277 = .ok (.goto 4, 3) := by decide +kernel
theorem dX8_writer_280 : decode cX8_writer 280 = .ok (.iconst 0, 1) := by decide +kernel
theorem dX8_writer_281 : decode cX8_writer 281 = .ok (.iadd, 1) := by decide +kernel
theorem dX8_writer_282 : decode cX8_writer 282 = .ok (.istore 7, 2) := by decide +kernel
theorem dX8_writer_284 : decode cX8_writer 284 = .ok (.iload 8, 2) := by decide +kernel
theorem dX8_writer_286 : decode cX8_writer 286 = .ok (.aload_n 0, 1) := by decide +kernel
theorem dX8_writer_287 : decode cX8_writer 287 = .ok (.getfield 32, 3) := by decide +kernel
theorem dX8_writer_290 : decode cX8_writer 290 = .ok (.iload 9, 2) := by decide +kernel
theorem dX8_writer_292 : decode cX8_writer 292 = .ok (.iaload, 1) := by decide +kernel
theorem dX8_writer_293 : decode cX8_writer 293 = .ok (.iload_n 1, 1) := by decide +kernel
theorem dX8_writer_294 : decode cX8_writer 294 = .ok (.if_icmp .ne 16, 3) := by decide +kernel
theorem dX8_writer_297 : decode cX8_writer 297 = .ok (.aload_n 0, 1) := by decide +kernel
theorem dX8_writer_298 : decode cX8_writer 298 = .ok (.iload 9, 2) := by decide +kernel
theorem dX8_writer_300 : decode cX8_writer 300 = .ok (.invokevirtual 219, 3) := by decide +kernel
theorem dX8_writer_303 : decode cX8_writer 303 = .ok (.ifCond .eq 7, 3) := by decide +kernel
theorem dX8_writer_306 : decode cX8_writer 306 = .ok (.iconst 1, 1) := by decide +kernel
theorem dX8_writer_307 : decode cX8_writer 307 = .ok (.goto 4, 3) := by decide +kernel
theorem dX8_writer_310 : decode cX8_writer 310 = .ok (.iconst 0, 1) := by decide +kernel
theorem dX8_writer_311 : decode cX8_writer 311 = .ok (.iadd, 1) := by decide +kernel
theorem dX8_writer_312 : decode cX8_writer 312 = .ok (.istore 8, 2) := by decide +kernel
theorem dX8_writer_314 : decode cX8_writer 314 = .ok (.iinc 9 1, 3) := by decide +kernel
theorem dX8_writer_317 : decode cX8_writer 317 = .ok (.goto (-63), 3) := by decide +kernel
theorem dX8_writer_320 : decode cX8_writer 320 = .ok (.iload_n 2, 1) := by decide +kernel
theorem dX8_writer_321 : decode cX8_writer 321 = .ok (.tableswitch 64 0 5 #[39, 41, 44, 55, 58, 61], 39) := by decide +kernel
theorem dX8_writer_360 : decode cX8_writer 360 = .ok (.iload_n 3, 1) := by decide +kernel
theorem dX8_writer_361 : decode cX8_writer 361 = .ok (.ireturn, 1) := by decide +kernel
theorem dX8_writer_362 : decode cX8_writer 362 = .ok (.iload 4, 2) := by decide +kernel
theorem dX8_writer_364 : decode cX8_writer 364 = .ok (.ireturn, 1) := by decide +kernel
theorem dX8_writer_365 : decode cX8_writer 365 = .ok (.iload 5, 2) := by decide +kernel
theorem dX8_writer_367 : decode cX8_writer 367 = .ok (.ifCond .lt 7, 3) := by decide +kernel
theorem dX8_writer_370 : decode cX8_writer 370 = .ok (.iconst 1, 1) := by decide +kernel
theorem dX8_writer_371 : decode cX8_writer 371 = .ok (.goto 4, 3) := by decide +kernel
theorem dX8_writer_374 : decode cX8_writer 374 = .ok (.iconst 0, 1) := by decide +kernel
theorem dX8_writer_375 : decode cX8_writer 375 = .ok (.ireturn, 1) := by decide +kernel
theorem dX8_writer_376 : decode cX8_writer 376 = .ok (.iload 6, 2) := by decide +kernel
theorem dX8_writer_378 : decode cX8_writer 378 = .ok (.ireturn, 1) := by decide +kernel
theorem dX8_writer_379 : decode cX8_writer 379 = .ok (.iload 7, 2) := by decide +kernel
theorem dX8_writer_381 : decode cX8_writer 381 = .ok (.ireturn, 1) := by decide +kernel
theorem dX8_writer_382 : decode cX8_writer 382 = .ok (.iload 8, 2) := by decide +kernel
theorem dX8_writer_384 : decode cX8_writer 384 = .ok (.ireturn, 1) := by decide +kernel
theorem dX8_writer_385 : decode cX8_writer 385 = .ok (.iload 5, 2) := by decide +kernel
theorem dX8_writer_387 : decode cX8_writer 387 = .ok (.ireturn, 1) := by decide +kernel
theorem dX8_level_0 : decode cX8_level 0 = .ok (.aload_n 0, 1) := by decide +kernel
theorem dX8_level_1 : decode cX8_level 1 = .ok (.iload_n 1, 1) := by decide +kernel
theorem dX8_level_2 : decode cX8_level 2 = .ok (.invokevirtual 184, 3) := by decide +kernel
theorem dX8_level_5 : decode cX8_level 5 = .ok (.ifCond .ne 5, 3) := by decide +kernel
theorem dX8_level_8 : decode cX8_level 8 = .ok (.iconst (-1), 1) := by decide +kernel
theorem dX8_level_9 : decode cX8_level 9 = .ok (.ireturn, 1) := by decide +kernel
theorem dX8_level_10 : decode cX8_level 10 = .ok (.aload_n 0, 1) := by decide +kernel
theorem dX8_level_11 : decode cX8_level 11 = .ok (.aload_n 0, 1) := by decide +kernel
theorem dX8_level_12 : decode cX8_level 12 = .ok (.getfield 32, 3) := by decide +kernel
theorem dX8_level_15 : decode cX8_level 15 = .ok (.aload_n 0, 1) := by decide +kernel
theorem dX8_level_16 : decode cX8_level 16 = .ok (.getfield 44, 3) := by decide +kernel
theorem dX8_level_19 : decode cX8_level 19 = .ok (.iload_n 1, 1) := by decide +kernel
theorem dX8_level_20 : decode cX8_level 20 = .ok (.iaload, 1) := by decide +kernel
theorem dX8_level_21 : decode cX8_level 21 = .ok (.iaload, 1) := by decide +kernel
theorem dX8_level_22 : decode cX8_level 22 = .ok (.invokevirtual 216, 3) := by decide +kernel
theorem dX8_level_25 : decode cX8_level 25 = .ok (.iconst 0, 1) := by decide +kernel
theorem dX8_level_26 : decode cX8_level 26 = .ok (.istore_n 2, 1) := by decide +kernel
theorem dX8_level_27 : decode cX8_level 27 = .ok (.iload_n 2, 1) := by decide +kernel
theorem dX8_level_28 : decode cX8_level 28 = .ok (.aload_n 0, 1) := by decide +kernel
theorem dX8_level_29 : decode cX8_level 29 = .ok (.getfield 210, 3) := by decide +kernel
theorem dX8_level_32 : decode cX8_level 32 = .ok (.if_icmp .ge 26, 3) := by decide +kernel
theorem dX8_level_35 : decode cX8_level 35 = .ok (.aload_n 0, 1) := by decide +kernel
theorem dX8_level_36 : decode cX8_level 36 = .ok (.getfield 124, 3) := by decide +kernel
theorem dX8_level_39 : decode cX8_level 39 = .ok (.iload_n 2, 1) := by decide +kernel
theorem dX8_level_40 : decode cX8_level 40 = .ok (.iaload, 1) := by decide +kernel
theorem dX8_level_41 : decode cX8_level 41 = .ok (.iload_n 1, 1) := by decide +kernel
theorem dX8_level_42 : decode cX8_level 42 = .ok (.if_icmp .ne 10, 3) := by decide +kernel
theorem dX8_level_45 : decode cX8_level 45 = .ok (.aload_n 0, 1) := by decide +kernel
theorem dX8_level_46 : decode cX8_level 46 = .ok (.getfield 130, 3) := by decide +kernel
theorem dX8_level_49 : decode cX8_level 49 = .ok (.iload_n 2, 1) := by decide +kernel
theorem dX8_level_50 : decode cX8_level 50 = .ok (.iaload, 1) := by decide +kernel
theorem dX8_level_51 : decode cX8_level 51 = .ok (.ireturn, 1) := by decide +kernel
theorem dX8_level_52 : decode cX8_level 52 = .ok (.iinc 2 1, 3) := by decide +kernel
theorem dX8_level_55 : decode cX8_level 55 = .ok (.goto (-28), 3) := by decide +kernel
theorem dX8_level_58 : decode cX8_level 58 = .ok (.bipush (-4), 2) := by decide +kernel
theorem dX8_level_60 : decode cX8_level 60 = .ok (.ireturn, 1) := by decide +kernel
theorem dX8_hidden_0 : decode cX8_hidden 0 = .ok (.iload_n 1, 1) := by decide +kernel
theorem dX8_hidden_1 : decode cX8_hidden 1 = .ok (.ifCond .lt 27, 3) := by decide +kernel
theorem dX8_hidden_4 : decode cX8_hidden 4 = .ok (.iload_n 1, 1) := by decide +kernel
theorem dX8_hidden_5 : decode cX8_hidden 5 = .ok (.aload_n 0, 1) := by decide +kernel
theorem dX8_hidden_6 : decode cX8_hidden 6 = .ok (.getfield 144, 3) := by decide +kernel
theorem dX8_hidden_9 : decode cX8_hidden 9 = .ok (.if_icmp .ge 19, 3) := by decide +kernel
theorem dX8_hidden_12 : decode cX8_hidden 12 = .ok (.aload_n 0, 1) := by decide +kernel
theorem dX8_hidden_13 : decode cX8_hidden 13 = .ok (.iload_n 1, 1) := by decide +kernel
theorem dX8_hidden_14 : decode cX8_hidden 14 = .ok (.invokevirtual 219, 3) := by decide +kernel
theorem dX8_hidden_17 : decode cX8_hidden 17 = .ok (.ifCond .eq 7, 3) := by decide +kernel
theorem dX8_hidden_20 : decode cX8_hidden 20 = .ok (.iconst 1, 1) := by decide +kernel
theorem dX8_hidden_21 : decode cX8_hidden 21 = .ok (.goto 8, 3) := by decide +kernel
theorem dX8_hidden_24 : decode cX8_hidden 24 = .ok (.iconst 0, 1) := by decide +kernel
theorem dX8_hidden_25 : decode cX8_hidden 25 = .ok (.goto 4, 3) := by decide +kernel
theorem dX8_hidden_28 : decode cX8_hidden 28 = .ok (.iconst (-1), 1) := by decide +kernel
theorem dX8_hidden_29 : decode cX8_hidden 29 = .ok (.ireturn, 1) := by decide +kernel
theorem dX8_count_0 : decode cX8_count 0 = .ok (.iconst 0, 1) := by decide +kernel
theorem dX8_count_1 : decode cX8_count 1 = .ok (.istore_n 2, 1) := by decide +kernel
theorem dX8_count_2 : decode cX8_count 2 = .ok (.iload_n 1, 1) := by decide +kernel
theorem dX8_count_3 : decode cX8_count 3 = .ok (.tableswitch 96 0 5 #[37, 42, 47, 81, 86, 91], 37) := by decide +kernel
theorem dX8_count_40 : decode cX8_count 40 = .ok (.aload_n 0, 1) := by decide +kernel
theorem dX8_count_41 : decode cX8_count 41 = .ok (.getfield 144, 3) := by decide +kernel
theorem dX8_count_44 : decode cX8_count 44 = .ok (.ireturn, 1) := by decide +kernel
theorem dX8_count_45 : decode cX8_count 45 = .ok (.aload_n 0, 1) := by decide +kernel
theorem dX8_count_46 : decode cX8_count 46 = .ok (.getfield 133, 3) := by decide +kernel
theorem dX8_count_49 : decode cX8_count 49 = .ok (.ireturn, 1) := by decide +kernel
theorem dX8_count_50 : decode cX8_count 50 = .ok (.iconst 0, 1) := by decide +kernel
theorem dX8_count_51 : decode cX8_count 51 = .ok (.istore_n 3, 1) := by decide +kernel
theorem dX8_count_52 : decode cX8_count 52 = .ok (.iload_n 3, 1) := by decide +kernel
theorem dX8_count_53 : decode cX8_count 53 = .ok (.aload_n 0, 1) := by decide +kernel
theorem dX8_count_54 : decode cX8_count 54 = .ok (.getfield 133, 3) := by decide +kernel
theorem dX8_count_57 : decode cX8_count 57 = .ok (.if_icmp .ge 25, 3) := by decide +kernel
theorem dX8_count_60 : decode cX8_count 60 = .ok (.iload_n 2, 1) := by decide +kernel
theorem dX8_count_61 : decode cX8_count 61 = .ok (.aload_n 0, 1) := by decide +kernel
theorem dX8_count_62 : decode cX8_count 62 = .ok (.iload_n 3, 1) := by decide +kernel
theorem dX8_count_63 : decode cX8_count 63 = .ok (.invokevirtual 167, 3) := by decide +kernel
theorem dX8_count_66 : decode cX8_count 66 = .ok (.ifCond .eq 7, 3) := by decide +kernel
theorem dX8_count_69 : decode cX8_count 69 = .ok (.iconst 1, 1) := by decide +kernel
theorem dX8_count_70 : decode cX8_count 70 = .ok (.goto 4, 3) := by decide +kernel
theorem dX8_count_73 : decode cX8_count 73 = .ok (.iconst 0, 1) := by decide +kernel
theorem dX8_count_74 : decode cX8_count 74 = .ok (.iadd, 1) := by decide +kernel
theorem dX8_count_75 : decode cX8_count 75 = .ok (.istore_n 2, 1) := by decide +kernel
theorem dX8_count_76 : decode cX8_count 76 = .ok (.iinc 3 1, 3) := by decide +kernel
theorem dX8_count_79 : decode cX8_count 79 = .ok (.goto (-27), 3) := by decide +kernel
theorem dX8_count_82 : decode cX8_count 82 = .ok (.iload_n 2, 1) := by decide +kernel
theorem dX8_count_83 : decode cX8_count 83 = .ok (.ireturn, 1) := by decide +kernel
theorem dX8_count_84 : decode cX8_count 84 = .ok (.aload_n 0, 1) := by decide +kernel
theorem dX8_count_85 : decode cX8_count 85 = .ok (.getfield 153, 3) := by decide +kernel
theorem dX8_count_88 : decode cX8_count 88 = .ok (.ireturn, 1) := by decide +kernel
theorem dX8_count_89 : decode cX8_count 89 = .ok (.aload_n 0, 1) := by decide +kernel
theorem dX8_count_90 : decode cX8_count 90 = .ok (.getfield 197, 3) := by decide +kernel
theorem dX8_count_93 : decode cX8_count 93 = .ok (.ireturn, 1) := by decide +kernel
theorem dX8_count_94 : decode cX8_count 94 = .ok (.aload_n 0, 1) := by decide +kernel
theorem dX8_count_95 : decode cX8_count 95 = .ok (.getfield 140, 3) := by decide +kernel
theorem dX8_count_98 : decode cX8_count 98 = .ok (.ireturn, 1) := by decide +kernel
theorem dX8_count_99 : decode cX8_count 99 = .ok (.iconst (-1), 1) := by decide +kernel
theorem dX8_count_100 : decode cX8_count 100 = .ok (.ireturn, 1) := by decide +kernel
theorem dX8_check_0 : decode cX8_check 0 = .ok (.iconst 0, 1) := by decide +kernel
theorem dX8_check_1 : decode cX8_check 1 = .ok (.istore_n 1, 1) := by decide +kernel
theorem dX8_check_2 : decode cX8_check 2 = .ok (.iconst 0, 1) := by decide +kernel
theorem dX8_check_3 : decode cX8_check 3 = .ok (.istore_n 2, 1) := by decide +kernel
theorem dX8_check_4 : decode cX8_check 4 = .ok (.iload_n 2, 1) := by decide +kernel
theorem dX8_check_5 : decode cX8_check 5 = .ok (.aload_n 0, 1) := by decide +kernel
theorem dX8_check_6 : decode cX8_check 6 = .ok (.getfield 133, 3) := by decide +kernel
theorem dX8_check_9 : decode cX8_check 9 = .ok (.if_icmp .ge 48, 3) := by decide +kernel
theorem dX8_check_12 : decode cX8_check 12 = .ok (.iload_n 1, 1) := by decide +kernel
theorem dX8_check_13 : decode cX8_check 13 = .ok (.ifCond .ne 32, 3) := by decide +kernel
theorem dX8_check_16 : decode cX8_check 16 = .ok (.aload_n 0, 1) := by decide +kernel
theorem dX8_check_17 : decode cX8_check 17 = .ok (.iload_n 2, 1) := by decide +kernel
theorem dX8_check_18 : decode cX8_check 18 = .ok (.invokevirtual 167, 3) := by decide +kernel
theorem dX8_check_21 : decode cX8_check 21 = .ok (.ifCond .eq 28, 3) := by decide +kernel
theorem dX8_check_24 : decode cX8_check 24 = .ok (.aload_n 0, 1) := by decide +kernel
theorem dX8_check_25 : decode cX8_check 25 = .ok (.iload_n 2, 1) := by decide +kernel
theorem dX8_check_26 : decode cX8_check 26 = .ok (.invokevirtual 174, 3) := by decide +kernel
theorem dX8_check_29 : decode cX8_check 29 = .ok (.aload_n 0, 1) := by decide +kernel
theorem dX8_check_30 : decode cX8_check 30 = .ok (.iconst (-1), 1) := by decide +kernel
theorem dX8_check_31 : decode cX8_check 31 = .ok (.iload_n 2, 1) := by decide +kernel
theorem dX8_check_32 : decode cX8_check 32 = .ok (.invokevirtual 170, 3) := by decide +kernel
theorem dX8_check_35 : decode cX8_check 35 = .ok (.iadd, 1) := by decide +kernel
theorem dX8_check_36 : decode cX8_check 36 = .ok (.aload_n 0, 1) := by decide +kernel
theorem dX8_check_37 : decode cX8_check 37 = .ok (.getfield 62, 3) := by decide +kernel
theorem dX8_check_40 : decode cX8_check 40 = .ok (.iload_n 2, 1) := by decide +kernel
theorem dX8_check_41 : decode cX8_check 41 = .ok (.iaload, 1) := by decide +kernel
theorem dX8_check_42 : decode cX8_check 42 = .ok (.if_icmp .le 7, 3) := by decide +kernel
theorem dX8_check_45 : decode cX8_check 45 = .ok (.iconst 1, 1) := by decide +kernel
theorem dX8_check_46 : decode cX8_check 46 = .ok (.goto 4, 3) := by decide +kernel
theorem dX8_check_49 : decode cX8_check 49 = .ok (.iconst 0, 1) := by decide +kernel
theorem dX8_check_50 : decode cX8_check 50 = .ok (.istore_n 1, 1) := by decide +kernel
theorem dX8_check_51 : decode cX8_check 51 = .ok (.iinc 2 1, 3) := by decide +kernel
theorem dX8_check_54 : decode cX8_check 54 = .ok (.goto (-50), 3) := by decide +kernel
theorem dX8_check_57 : decode cX8_check 57 = .ok (.iconst 0, 1) := by decide +kernel
theorem dX8_check_58 : decode cX8_check 58 = .ok (.istore_n 2, 1) := by decide +kernel
theorem dX8_check_59 : decode cX8_check 59 = .ok (.iconst 0, 1) := by decide +kernel
theorem dX8_check_60 : decode cX8_check 60 = .ok (.istore_n 3, 1) := by decide +kernel
theorem dX8_check_61 : decode cX8_check 61 = .ok (.iload_n 3, 1) := by decide +kernel
theorem dX8_check_62 : decode cX8_check 62 = .ok (.bipush 20, 2) := by decide +kernel
theorem dX8_check_64 : decode cX8_check 64 = .ok (.if_icmp .ge 30, 3) := by decide +kernel
theorem dX8_check_67 : decode cX8_check 67 = .ok (.iload_n 2, 1) := by decide +kernel
theorem dX8_check_68 : decode cX8_check 68 = .ok (.ifCond .ne 14, 3) := by decide +kernel
theorem dX8_check_71 : decode cX8_check 71 = .ok (.aload_n 0, 1) := by decide +kernel
theorem dX8_check_72 : decode cX8_check 72 = .ok (.iload_n 3, 1) := by decide +kernel
theorem dX8_check_73 : decode cX8_check 73 = .ok (.iconst (-1), 1) := by decide +kernel
theorem dX8_check_74 : decode cX8_check 74 = .ok (.invokevirtual 170, 3) := by decide +kernel
theorem dX8_check_77 : decode cX8_check 77 = .ok (.bipush 20, 2) := by decide +kernel
theorem dX8_check_79 : decode cX8_check 79 = .ok (.if_icmp .le 7, 3) := by decide +kernel
theorem dX8_check_82 : decode cX8_check 82 = .ok (.iconst 1, 1) := by decide +kernel
theorem dX8_check_83 : decode cX8_check 83 = .ok (.goto 4, 3) := by decide +kernel
theorem dX8_check_86 : decode cX8_check 86 = .ok (.iconst 0, 1) := by decide +kernel
theorem dX8_check_87 : decode cX8_check 87 = .ok (.istore_n 2, 1) := by decide +kernel
theorem dX8_check_88 : decode cX8_check 88 = .ok (.iinc 3 1, 3) := by decide +kernel
theorem dX8_check_91 : decode cX8_check 91 = .ok (.goto (-30), 3) := by decide +kernel
theorem dX8_check_94 : decode cX8_check 94 = .ok (.iconst 0, 1) := by decide +kernel
theorem dX8_check_95 : decode cX8_check 95 = .ok (.istore_n 3, 1) := by decide +kernel
theorem dX8_check_96 : decode cX8_check 96 = .ok (.iconst 0, 1) := by decide +kernel
theorem dX8_check_97 : decode cX8_check 97 = .ok (.istore 4, 2) := by decide +kernel
theorem dX8_check_99 : decode cX8_check 99 = .ok (.iload 4, 2) := by decide +kernel
theorem dX8_check_101 : decode cX8_check 101 = .ok (.aload_n 0, 1) := by decide +kernel
theorem dX8_check_102 : decode cX8_check 102 = .ok (.getfield 160, 3) := by decide +kernel
theorem dX8_check_105 : decode cX8_check 105 = .ok (.if_icmp .ge 100, 3) := by decide +kernel
theorem dX8_check_108 : decode cX8_check 108 = .ok (.iload_n 3, 1) := by decide +kernel
theorem dX8_check_109 : decode cX8_check 109 = .ok (.ifCond .ne 24, 3) := by decide +kernel
theorem dX8_check_112 : decode cX8_check 112 = .ok (.aload_n 0, 1) := by decide +kernel
theorem dX8_check_113 : decode cX8_check 113 = .ok (.aload_n 0, 1) := by decide +kernel
theorem dX8_check_114 : decode cX8_check 114 = .ok (.getfield 109, 3) := by decide +kernel
theorem dX8_check_117 : decode cX8_check 117 = .ok (.iload 4, 2) := by decide +kernel
theorem dX8_check_119 : decode cX8_check 119 = .ok (.iaload, 1) := by decide +kernel
theorem dX8_check_120 : decode cX8_check 120 = .ok (.aload_n 0, 1) := by decide +kernel
theorem dX8_check_121 : decode cX8_check 121 = .ok (.getfield 112, 3) := by decide +kernel
theorem dX8_check_124 : decode cX8_check 124 = .ok (.iload 4, 2) := by decide +kernel
theorem dX8_check_126 : decode cX8_check 126 = .ok (.iaload, 1) := by decide +kernel
theorem dX8_check_127 : decode cX8_check 127 = .ok (.invokevirtual 170, 3) := by decide +kernel
theorem dX8_check_130 : decode cX8_check 130 = .ok (.ifCond .le 7, 3) := by decide +kernel
theorem dX8_check_133 : decode cX8_check 133 = .ok (.iconst 1, 1) := by decide +kernel
theorem dX8_check_134 : decode cX8_check 134 = .ok (.goto 4, 3) := by decide +kernel
theorem dX8_check_137 : decode cX8_check 137 = .ok (.iconst 0, 1) := by decide +kernel
theorem dX8_check_138 : decode cX8_check 138 = .ok (.istore_n 3, 1) := by decide +kernel
theorem dX8_check_139 : decode cX8_check 139 = .ok (.iconst 0, 1) := by decide +kernel
theorem dX8_check_140 : decode cX8_check 140 = .ok (.istore 5, 2) := by decide +kernel
theorem dX8_check_142 : decode cX8_check 142 = .ok (.iload 5, 2) := by decide +kernel
theorem dX8_check_144 : decode cX8_check 144 = .ok (.iload 4, 2) := by decide +kernel
theorem dX8_check_146 : decode cX8_check 146 = .ok (.if_icmp .ge 53, 3) := by decide +kernel
theorem dX8_check_149 : decode cX8_check 149 = .ok (.iload_n 3, 1) := by decide +kernel
theorem dX8_check_150 : decode cX8_check 150 = .ok (.ifCond .ne 37, 3) := by decide +kernel
theorem dX8_check_153 : decode cX8_check 153 = .ok (.aload_n 0, 1) := by decide +kernel
theorem dX8_check_154 : decode cX8_check 154 = .ok (.getfield 109, 3) := by decide +kernel
theorem dX8_check_157 : decode cX8_check 157 = .ok (.iload 5, 2) := by decide +kernel
theorem dX8_check_159 : decode cX8_check 159 = .ok (.iaload, 1) := by decide +kernel
theorem dX8_check_160 : decode cX8_check 160 = .ok (.aload_n 0, 1) := by decide +kernel
theorem dX8_check_161 : decode cX8_check 161 = .ok (.getfield 109, 3) := by decide +kernel
theorem dX8_check_164 : decode cX8_check 164 = .ok (.iload 4, 2) := by decide +kernel
theorem dX8_check_166 : decode cX8_check 166 = .ok (.iaload, 1) := by decide +kernel
theorem dX8_check_167 : decode cX8_check 167 = .ok (.if_icmp .ne 24, 3) := by decide +kernel
theorem dX8_check_170 : decode cX8_check 170 = .ok (.aload_n 0, 1) := by decide +kernel
theorem dX8_check_171 : decode cX8_check 171 = .ok (.getfield 112, 3) := by decide +kernel
theorem dX8_check_174 : decode cX8_check 174 = .ok (.iload 5, 2) := by decide +kernel
theorem dX8_check_176 : decode cX8_check 176 = .ok (.iaload, 1) := by decide +kernel
theorem dX8_check_177 : decode cX8_check 177 = .ok (.aload_n 0, 1) := by decide +kernel
theorem dX8_check_178 : decode cX8_check 178 = .ok (.getfield 112, 3) := by decide +kernel
theorem dX8_check_181 : decode cX8_check 181 = .ok (.iload 4, 2) := by decide +kernel
theorem dX8_check_183 : decode cX8_check 183 = .ok (.iaload, 1) := by decide +kernel
theorem dX8_check_184 : decode cX8_check 184 = .ok (.if_icmp .ne 7, 3) := by decide +kernel
theorem dX8_check_187 : decode cX8_check 187 = .ok (.iconst 1, 1) := by decide +kernel
theorem dX8_check_188 : decode cX8_check 188 = .ok (.goto 4, 3) := by decide +kernel
theorem dX8_check_191 : decode cX8_check 191 = .ok (.iconst 0, 1) := by decide +kernel
theorem dX8_check_192 : decode cX8_check 192 = .ok (.istore_n 3, 1) := by decide +kernel
theorem dX8_check_193 : decode cX8_check 193 = .ok (.iinc 5 1, 3) := by decide +kernel
theorem dX8_check_196 : decode cX8_check 196 = .ok (.goto (-54), 3) := by decide +kernel
theorem dX8_check_199 : decode cX8_check 199 = .ok (.iinc 4 1, 3) := by decide +kernel
theorem dX8_check_202 : decode cX8_check 202 = .ok (.goto (-103), 3) := by decide +kernel
theorem dX8_check_205 : decode cX8_check 205 = .ok (.iload_n 1, 1) := by decide +kernel
theorem dX8_check_206 : decode cX8_check 206 = .ok (.ifCond .eq 7, 3) := by decide +kernel
theorem dX8_check_209 : decode cX8_check 209 = .ok (.iconst 1, 1) := by decide +kernel
theorem dX8_check_210 : decode cX8_check 210 = .ok (.goto 4, 3) := by decide +kernel
theorem dX8_check_213 : decode cX8_check 213 = .ok (.iconst 0, 1) := by decide +kernel
theorem dX8_check_214 : decode cX8_check 214 = .ok (.iload_n 2, 1) := by decide +kernel
theorem dX8_check_215 : decode cX8_check 215 = .ok (.ifCond .eq 7, 3) := by decide +kernel
theorem dX8_check_218 : decode cX8_check 218 = .ok (.iconst 1, 1) := by decide +kernel
theorem dX8_check_219 : decode cX8_check 219 = .ok (.goto 4, 3) := by decide +kernel
theorem dX8_check_222 : decode cX8_check 222 = .ok (.iconst 0, 1) := by decide +kernel
theorem dX8_check_223 : decode cX8_check 223 = .ok (.iadd, 1) := by decide +kernel
theorem dX8_check_224 : decode cX8_check 224 = .ok (.iload_n 3, 1) := by decide +kernel
theorem dX8_check_225 : decode cX8_check 225 = .ok (.ifCond .eq 7, 3) := by decide +kernel
theorem dX8_check_228 : decode cX8_check 228 = .ok (.iconst 1, 1) := by decide +kernel
theorem dX8_check_229 : decode cX8_check 229 = .ok (.goto 4, 3) := by decide +kernel
theorem dX8_check_232 : decode cX8_check 232 = .ok (.iconst 0, 1) := by decide +kernel
theorem dX8_check_233 : decode cX8_check 233 = .ok (.iadd, 1) := by decide +kernel
theorem dX8_check_234 : decode cX8_check 234 = .ok (.ireturn, 1) := by decide +kernel
theorem dJ6_bitCount_0f7a4_0 : decode cJ6_bitCount_0f7a4 0 = .ok (.iload_n 0, 1) := by decide +kernel
theorem dJ6_bitCount_0f7a4_1 : decode cJ6_bitCount_0f7a4 1 = .ok (.iload_n 0, 1) := by decide +kernel
theorem dJ6_bitCount_0f7a4_2 : decode cJ6_bitCount_0f7a4 2 = .ok (.iconst 1, 1) := by decide +kernel
theorem dJ6_bitCount_0f7a4_3 : decode cJ6_bitCount_0f7a4 3 = .ok (.iushr, 1) := by decide +kernel
theorem dJ6_bitCount_0f7a4_4 : decode cJ6_bitCount_0f7a4 4 = .ok (.ldc_w 265, 3) := by decide +kernel
theorem dJ6_bitCount_0f7a4_7 : decode cJ6_bitCount_0f7a4 7 = .ok (.iand, 1) := by decide +kernel
theorem dJ6_bitCount_0f7a4_8 : decode cJ6_bitCount_0f7a4 8 = .ok (.isub, 1) := by decide +kernel
theorem dJ6_bitCount_0f7a4_9 : decode cJ6_bitCount_0f7a4 9 = .ok (.istore_n 0, 1) := by decide +kernel
theorem dJ6_bitCount_0f7a4_10 : decode cJ6_bitCount_0f7a4 10 = .ok (.iload_n 0, 1) := by decide +kernel
theorem dJ6_bitCount_0f7a4_11 : decode cJ6_bitCount_0f7a4 11 = .ok (.ldc_w 266, 3) := by decide +kernel
theorem dJ6_bitCount_0f7a4_14 : decode cJ6_bitCount_0f7a4 14 = .ok (.iand, 1) := by decide +kernel
theorem dJ6_bitCount_0f7a4_15 : decode cJ6_bitCount_0f7a4 15 = .ok (.iload_n 0, 1) := by decide +kernel
theorem dJ6_bitCount_0f7a4_16 : decode cJ6_bitCount_0f7a4 16 = .ok (.iconst 2, 1) := by decide +kernel
theorem dJ6_bitCount_0f7a4_17 : decode cJ6_bitCount_0f7a4 17 = .ok (.iushr, 1) := by decide +kernel
theorem dJ6_bitCount_0f7a4_18 : decode cJ6_bitCount_0f7a4 18 = .ok (.ldc_w 266, 3) := by decide +kernel
theorem dJ6_bitCount_0f7a4_21 : decode cJ6_bitCount_0f7a4 21 = .ok (.iand, 1) := by decide +kernel
theorem dJ6_bitCount_0f7a4_22 : decode cJ6_bitCount_0f7a4 22 = .ok (.iadd, 1) := by decide +kernel
theorem dJ6_bitCount_0f7a4_23 : decode cJ6_bitCount_0f7a4 23 = .ok (.istore_n 0, 1) := by decide +kernel
theorem dJ6_bitCount_0f7a4_24 : decode cJ6_bitCount_0f7a4 24 = .ok (.iload_n 0, 1) := by decide +kernel
theorem dJ6_bitCount_0f7a4_25 : decode cJ6_bitCount_0f7a4 25 = .ok (.iload_n 0, 1) := by decide +kernel
theorem dJ6_bitCount_0f7a4_26 : decode cJ6_bitCount_0f7a4 26 = .ok (.iconst 4, 1) := by decide +kernel
theorem dJ6_bitCount_0f7a4_27 : decode cJ6_bitCount_0f7a4 27 = .ok (.iushr, 1) := by decide +kernel
theorem dJ6_bitCount_0f7a4_28 : decode cJ6_bitCount_0f7a4 28 = .ok (.iadd, 1) := by decide +kernel
theorem dJ6_bitCount_0f7a4_29 : decode cJ6_bitCount_0f7a4 29 = .ok (.ldc_w 267, 3) := by decide +kernel
theorem dJ6_bitCount_0f7a4_32 : decode cJ6_bitCount_0f7a4 32 = .ok (.iand, 1) := by decide +kernel
theorem dJ6_bitCount_0f7a4_33 : decode cJ6_bitCount_0f7a4 33 = .ok (.istore_n 0, 1) := by decide +kernel
theorem dJ6_bitCount_0f7a4_34 : decode cJ6_bitCount_0f7a4 34 = .ok (.iload_n 0, 1) := by decide +kernel
theorem dJ6_bitCount_0f7a4_35 : decode cJ6_bitCount_0f7a4 35 = .ok (.iload_n 0, 1) := by decide +kernel
theorem dJ6_bitCount_0f7a4_36 : decode cJ6_bitCount_0f7a4 36 = .ok (.bipush 8, 2) := by decide +kernel
theorem dJ6_bitCount_0f7a4_38 : decode cJ6_bitCount_0f7a4 38 = .ok (.iushr, 1) := by decide +kernel
theorem dJ6_bitCount_0f7a4_39 : decode cJ6_bitCount_0f7a4 39 = .ok (.iadd, 1) := by decide +kernel
theorem dJ6_bitCount_0f7a4_40 : decode cJ6_bitCount_0f7a4 40 = .ok (.istore_n 0, 1) := by decide +kernel
theorem dJ6_bitCount_0f7a4_41 : decode cJ6_bitCount_0f7a4 41 = .ok (.iload_n 0, 1) := by decide +kernel
theorem dJ6_bitCount_0f7a4_42 : decode cJ6_bitCount_0f7a4 42 = .ok (.iload_n 0, 1) := by decide +kernel
theorem dJ6_bitCount_0f7a4_43 : decode cJ6_bitCount_0f7a4 43 = .ok (.bipush 16, 2) := by decide +kernel
theorem dJ6_bitCount_0f7a4_45 : decode cJ6_bitCount_0f7a4 45 = .ok (.iushr, 1) := by decide +kernel
theorem dJ6_bitCount_0f7a4_46 : decode cJ6_bitCount_0f7a4 46 = .ok (.iadd, 1) := by decide +kernel
theorem dJ6_bitCount_0f7a4_47 : decode cJ6_bitCount_0f7a4 47 = .ok (.istore_n 0, 1) := by decide +kernel
theorem dJ6_bitCount_0f7a4_48 : decode cJ6_bitCount_0f7a4 48 = .ok (.iload_n 0, 1) := by decide +kernel
theorem dJ6_bitCount_0f7a4_49 : decode cJ6_bitCount_0f7a4 49 = .ok (.bipush 63, 2) := by decide +kernel
theorem dJ6_bitCount_0f7a4_51 : decode cJ6_bitCount_0f7a4 51 = .ok (.iand, 1) := by decide +kernel
theorem dJ6_bitCount_0f7a4_52 : decode cJ6_bitCount_0f7a4 52 = .ok (.ireturn, 1) := by decide +kernel
theorem dJ9_max_7cf53_0 : decode cJ9_max_7cf53 0 = .ok (.iload_n 0, 1) := by decide +kernel
theorem dJ9_max_7cf53_1 : decode cJ9_max_7cf53 1 = .ok (.iload_n 1, 1) := by decide +kernel
theorem dJ9_max_7cf53_2 : decode cJ9_max_7cf53 2 = .ok (.if_icmp .lt 7, 3) := by decide +kernel
theorem dJ9_max_7cf53_5 : decode cJ9_max_7cf53 5 = .ok (.iload_n 0, 1) := by decide +kernel
theorem dJ9_max_7cf53_6 : decode cJ9_max_7cf53 6 = .ok (.goto 4, 3) := by decide +kernel
theorem dJ9_max_7cf53_9 : decode cJ9_max_7cf53 9 = .ok (.iload_n 1, 1) := by decide +kernel
theorem dJ9_max_7cf53_10 : decode cJ9_max_7cf53 10 = .ok (.ireturn, 1) := by decide +kernel
theorem dJ9_min_7cf53_0 : decode cJ9_min_7cf53 0 = .ok (.iload_n 0, 1) := by decide +kernel
theorem dJ9_min_7cf53_1 : decode cJ9_min_7cf53 1 = .ok (.iload_n 1, 1) := by decide +kernel
theorem dJ9_min_7cf53_2 : decode cJ9_min_7cf53 2 = .ok (.if_icmp .gt 7, 3) := by decide +kernel
theorem dJ9_min_7cf53_5 : decode cJ9_min_7cf53 5 = .ok (.iload_n 0, 1) := by decide +kernel
theorem dJ9_min_7cf53_6 : decode cJ9_min_7cf53 6 = .ok (.goto 4, 3) := by decide +kernel
theorem dJ9_min_7cf53_9 : decode cJ9_min_7cf53 9 = .ok (.iload_n 1, 1) := by decide +kernel
theorem dJ9_min_7cf53_10 : decode cJ9_min_7cf53 10 = .ok (.ireturn, 1) := by decide +kernel
theorem dJxa1e45_init_da8c8_0 : decode cJxa1e45_init_da8c8 0 = .ok (.aload_n 0, 1) := by decide +kernel
theorem dJxa1e45_init_da8c8_1 : decode cJxa1e45_init_da8c8 1 = .ok (.invokespecial 1, 3) := by decide +kernel
theorem dJxa1e45_init_da8c8_4 : decode cJxa1e45_init_da8c8 4 = .ok (.return_, 1) := by decide +kernel
theorem dJxc12de_init_da8c8_0 : decode cJxc12de_init_da8c8 0 = .ok (.aload_n 0, 1) := by decide +kernel
theorem dJxc12de_init_da8c8_1 : decode cJxc12de_init_da8c8 1 = .ok (.invokespecial 1, 3) := by decide +kernel
theorem dJxc12de_init_da8c8_4 : decode cJxc12de_init_da8c8 4 = .ok (.aload_n 0, 1) := by decide +kernel
theorem dJxc12de_init_da8c8_5 : decode cJxc12de_init_da8c8 5 = .ok (.iconst 0, 1) := by decide +kernel
theorem dJxc12de_init_da8c8_6 : decode cJxc12de_init_da8c8 6 = .ok (.putfield 7, 3) := by decide +kernel
theorem dJxc12de_init_da8c8_9 : decode cJxc12de_init_da8c8 9 = .ok (.return_, 1) := by decide +kernel
theorem dJx4a65c_init_da8c8_0 : decode cJx4a65c_init_da8c8 0 = .ok (.aload_n 0, 1) := by decide +kernel
theorem dJx4a65c_init_da8c8_1 : decode cJx4a65c_init_da8c8 1 = .ok (.invokespecial 1, 3) := by decide +kernel
theorem dJx4a65c_init_da8c8_4 : decode cJx4a65c_init_da8c8 4 = .ok (.aload_n 0, 1) := by decide +kernel
theorem dJx4a65c_init_da8c8_5 : decode cJx4a65c_init_da8c8 5 = .ok (.getstatic 39, 3) := by decide +kernel
theorem dJx4a65c_init_da8c8_8 : decode cJx4a65c_init_da8c8 8 = .ok (.putfield 9, 3) := by decide +kernel
theorem dJx4a65c_init_da8c8_11 : decode cJx4a65c_init_da8c8 11 = .ok (.return_, 1) := by decide +kernel
theorem dJx4a65c_grow_92f84_0 : decode cJx4a65c_grow_92f84 0 = .ok (.aload_n 0, 1) := by decide +kernel
theorem dJx4a65c_grow_92f84_1 : decode cJx4a65c_grow_92f84 1 = .ok (.getfield 9, 3) := by decide +kernel
theorem dJx4a65c_grow_92f84_4 : decode cJx4a65c_grow_92f84 4 = .ok (.arraylength, 1) := by decide +kernel
theorem dJx4a65c_grow_92f84_5 : decode cJx4a65c_grow_92f84 5 = .ok (.istore_n 2, 1) := by decide +kernel
theorem dJx4a65c_grow_92f84_6 : decode cJx4a65c_grow_92f84 6 = .ok (.iload_n 2, 1) := by decide +kernel
theorem dJx4a65c_grow_92f84_7 : decode cJx4a65c_grow_92f84 7 = .ok (.ifCond .gt 13, 3) := by decide +kernel
theorem dJx4a65c_grow_92f84_10 : decode cJx4a65c_grow_92f84 10 = .ok (.aload_n 0, 1) := by decide +kernel
theorem dJx4a65c_grow_92f84_11 : decode cJx4a65c_grow_92f84 11 = .ok (.getfield 9, 3) := by decide +kernel
theorem dJx4a65c_grow_92f84_14 : decode cJx4a65c_grow_92f84 14 = .ok (.getstatic 39, 3) := by decide +kernel
theorem dJx4a65c_grow_92f84_17 : decode cJx4a65c_grow_92f84 17 = .ok (.if_acmp .eq 28, 3) := by decide +kernel
theorem dJx4a65c_grow_92f84_20 : decode cJx4a65c_grow_92f84 20 = .ok (.iload_n 2, 1) := by decide +kernel
theorem dJx4a65c_grow_92f84_21 : decode cJx4a65c_grow_92f84 21 = .ok (.iload_n 1, 1) := by decide +kernel
theorem dJx4a65c_grow_92f84_22 : decode cJx4a65c_grow_92f84 22 = .ok (.iload_n 2, 1) := by decide +kernel
theorem dJx4a65c_grow_92f84_23 : decode cJx4a65c_grow_92f84 23 = .ok (.isub, 1) := by decide +kernel
theorem dJx4a65c_grow_92f84_24 : decode cJx4a65c_grow_92f84 24 = .ok (.iload_n 2, 1) := by decide +kernel
theorem dJx4a65c_grow_92f84_25 : decode cJx4a65c_grow_92f84 25 = .ok (.iconst 1, 1) := by decide +kernel
theorem dJx4a65c_grow_92f84_26 : decode cJx4a65c_grow_92f84 26 = .ok (.ishr, 1) := by decide +kernel
theorem dJx4a65c_grow_92f84_27 : decode cJx4a65c_grow_92f84 27 = .ok (.invokestatic 73, 3) := by decide +kernel
theorem dJx4a65c_grow_92f84_30 : decode cJx4a65c_grow_92f84 30 = .ok (.istore_n 3, 1) := by decide +kernel
theorem dJx4a65c_grow_92f84_31 : decode cJx4a65c_grow_92f84 31 = .ok (.aload_n 0, 1) := by decide +kernel
theorem dJx4a65c_grow_92f84_32 : decode cJx4a65c_grow_92f84 32 = .ok (.aload_n 0, 1) := by decide +kernel
theorem dJx4a65c_grow_92f84_33 : decode cJx4a65c_grow_92f84 33 = .ok (.getfield 9, 3) := by decide +kernel
theorem dJx4a65c_grow_92f84_36 : decode cJx4a65c_grow_92f84 36 = .ok (.iload_n 3, 1) := by decide +kernel
theorem dJx4a65c_grow_92f84_37 : decode cJx4a65c_grow_92f84 37 = .ok (.invokestatic 66, 3) := by decide +kernel
theorem dJx4a65c_grow_92f84_40 : decode cJx4a65c_grow_92f84 40 = .ok (.dup_x1, 1) := by decide +kernel
theorem dJx4a65c_grow_92f84_41 : decode cJx4a65c_grow_92f84 41 = .ok (.putfield 9, 3) := by decide +kernel
theorem dJx4a65c_grow_92f84_44 : decode cJx4a65c_grow_92f84 44 = .ok (.areturn, 1) := by decide +kernel
theorem dJx4a65c_grow_92f84_45 : decode cJx4a65c_grow_92f84 45 = .ok (.aload_n 0, 1) := by decide +kernel
theorem dJx4a65c_grow_92f84_46 : decode cJx4a65c_grow_92f84 46 = .ok (.bipush 10, 2) := by decide +kernel
theorem dJx4a65c_grow_92f84_48 : decode cJx4a65c_grow_92f84 48 = .ok (.iload_n 1, 1) := by decide +kernel
theorem dJx4a65c_grow_92f84_49 : decode cJx4a65c_grow_92f84 49 = .ok (.invokestatic 79, 3) := by decide +kernel
theorem dJx4a65c_grow_92f84_52 : decode cJx4a65c_grow_92f84 52 = .ok (.anewarray 7, 3) := by decide +kernel
theorem dJx4a65c_grow_92f84_55 : decode cJx4a65c_grow_92f84 55 = .ok (.dup_x1, 1) := by decide +kernel
theorem dJx4a65c_grow_92f84_56 : decode cJx4a65c_grow_92f84 56 = .ok (.putfield 9, 3) := by decide +kernel
theorem dJx4a65c_grow_92f84_59 : decode cJx4a65c_grow_92f84 59 = .ok (.areturn, 1) := by decide +kernel
theorem dJx4a65c_grow_d5877_0 : decode cJx4a65c_grow_d5877 0 = .ok (.aload_n 0, 1) := by decide +kernel
theorem dJx4a65c_grow_d5877_1 : decode cJx4a65c_grow_d5877 1 = .ok (.aload_n 0, 1) := by decide +kernel
theorem dJx4a65c_grow_d5877_2 : decode cJx4a65c_grow_d5877 2 = .ok (.getfield 48, 3) := by decide +kernel
theorem dJx4a65c_grow_d5877_5 : decode cJx4a65c_grow_d5877 5 = .ok (.iconst 1, 1) := by decide +kernel
theorem dJx4a65c_grow_d5877_6 : decode cJx4a65c_grow_d5877 6 = .ok (.iadd, 1) := by decide +kernel
theorem dJx4a65c_grow_d5877_7 : decode cJx4a65c_grow_d5877 7 = .ok (.invokevirtual 69, 3) := by decide +kernel
theorem dJx4a65c_grow_d5877_10 : decode cJx4a65c_grow_d5877 10 = .ok (.areturn, 1) := by decide +kernel
theorem dJx4a65c_size_8abf5_0 : decode cJx4a65c_size_8abf5 0 = .ok (.aload_n 0, 1) := by decide +kernel
theorem dJx4a65c_size_8abf5_1 : decode cJx4a65c_size_8abf5 1 = .ok (.getfield 48, 3) := by decide +kernel
theorem dJx4a65c_size_8abf5_4 : decode cJx4a65c_size_8abf5 4 = .ok (.ireturn, 1) := by decide +kernel
theorem dJx4a65c_elementData_915e3_0 : decode cJx4a65c_elementData_915e3 0 = .ok (.aload_n 0, 1) := by decide +kernel
theorem dJx4a65c_elementData_915e3_1 : decode cJx4a65c_elementData_915e3 1 = .ok (.getfield 9, 3) := by decide +kernel
theorem dJx4a65c_elementData_915e3_4 : decode cJx4a65c_elementData_915e3 4 = .ok (.iload_n 1, 1) := by decide +kernel
theorem dJx4a65c_elementData_915e3_5 : decode cJx4a65c_elementData_915e3 5 = .ok (.aaload, 1) := by decide +kernel
theorem dJx4a65c_elementData_915e3_6 : decode cJx4a65c_elementData_915e3 6 = .ok (.areturn, 1) := by decide +kernel
theorem dJx4a65c_get_915e3_0 : decode cJx4a65c_get_915e3 0 = .ok (.iload_n 1, 1) := by decide +kernel
theorem dJx4a65c_get_915e3_1 : decode cJx4a65c_get_915e3 1 = .ok (.aload_n 0, 1) := by decide +kernel
theorem dJx4a65c_get_915e3_2 : decode cJx4a65c_get_915e3 2 = .ok (.getfield 48, 3) := by decide +kernel
theorem dJx4a65c_get_915e3_5 : decode cJx4a65c_get_915e3 5 = .ok (.invokestatic 118, 3) := by decide +kernel
theorem dJx4a65c_get_915e3_8 : decode cJx4a65c_get_915e3 8 = .ok (.pop, 1) := by decide +kernel
theorem dJx4a65c_get_915e3_9 : decode cJx4a65c_get_915e3 9 = .ok (.aload_n 0, 1) := by decide +kernel
theorem dJx4a65c_get_915e3_10 : decode cJx4a65c_get_915e3 10 = .ok (.iload_n 1, 1) := by decide +kernel
theorem dJx4a65c_get_915e3_11 : decode cJx4a65c_get_915e3 11 = .ok (.invokevirtual 123, 3) := by decide +kernel
theorem dJx4a65c_get_915e3_14 : decode cJx4a65c_get_915e3 14 = .ok (.areturn, 1) := by decide +kernel
theorem dJx4a65c_add_72be8_0 : decode cJx4a65c_add_72be8 0 = .ok (.iload_n 3, 1) := by decide +kernel
theorem dJx4a65c_add_72be8_1 : decode cJx4a65c_add_72be8 1 = .ok (.aload_n 2, 1) := by decide +kernel
theorem dJx4a65c_add_72be8_2 : decode cJx4a65c_add_72be8 2 = .ok (.arraylength, 1) := by decide +kernel
theorem dJx4a65c_add_72be8_3 : decode cJx4a65c_add_72be8 3 = .ok (.if_icmp .ne 8, 3) := by decide +kernel
theorem dJx4a65c_add_72be8_6 : decode cJx4a65c_add_72be8 6 = .ok (.aload_n 0, 1) := by decide +kernel
theorem dJx4a65c_add_72be8_7 : decode cJx4a65c_add_72be8 7 = .ok (.invokevirtual 129, 3) := by decide +kernel
theorem dJx4a65c_add_72be8_10 : decode cJx4a65c_add_72be8 10 = .ok (.astore_n 2, 1) := by decide +kernel
theorem dJx4a65c_add_72be8_11 : decode cJx4a65c_add_72be8 11 = .ok (.aload_n 2, 1) := by decide +kernel
theorem dJx4a65c_add_72be8_12 : decode cJx4a65c_add_72be8 12 = .ok (.iload_n 3, 1) := by decide +kernel
theorem dJx4a65c_add_72be8_13 : decode cJx4a65c_add_72be8 13 = .ok (.aload_n 1, 1) := by decide +kernel
theorem dJx4a65c_add_72be8_14 : decode cJx4a65c_add_72be8 14 = .ok (.aastore, 1) := by decide +kernel
theorem dJx4a65c_add_72be8_15 : decode cJx4a65c_add_72be8 15 = .ok (.aload_n 0, 1) := by decide +kernel
theorem dJx4a65c_add_72be8_16 : decode cJx4a65c_add_72be8 16 = .ok (.iload_n 3, 1) := by decide +kernel
theorem dJx4a65c_add_72be8_17 : decode cJx4a65c_add_72be8 17 = .ok (.iconst 1, 1) := by decide +kernel
theorem dJx4a65c_add_72be8_18 : decode cJx4a65c_add_72be8 18 = .ok (.iadd, 1) := by decide +kernel
theorem dJx4a65c_add_72be8_19 : decode cJx4a65c_add_72be8 19 = .ok (.putfield 48, 3) := by decide +kernel
theorem dJx4a65c_add_72be8_22 : decode cJx4a65c_add_72be8 22 = .ok (.return_, 1) := by decide +kernel
theorem dJx4a65c_add_9ea2d_0 : decode cJx4a65c_add_9ea2d 0 = .ok (.aload_n 0, 1) := by decide +kernel
theorem dJx4a65c_add_9ea2d_1 : decode cJx4a65c_add_9ea2d 1 = .ok (.dup, 1) := by decide +kernel
theorem dJx4a65c_add_9ea2d_2 : decode cJx4a65c_add_9ea2d 2 = .ok (.getfield 63, 3) := by decide +kernel
theorem dJx4a65c_add_9ea2d_5 : decode cJx4a65c_add_9ea2d 5 = .ok (.iconst 1, 1) := by decide +kernel
theorem dJx4a65c_add_9ea2d_6 : decode cJx4a65c_add_9ea2d 6 = .ok (.iadd, 1) := by decide +kernel
theorem dJx4a65c_add_9ea2d_7 : decode cJx4a65c_add_9ea2d 7 = .ok (.putfield 63, 3) := by decide +kernel
theorem dJx4a65c_add_9ea2d_10 : decode cJx4a65c_add_9ea2d 10 = .ok (.aload_n 0, 1) := by decide +kernel
theorem dJx4a65c_add_9ea2d_11 : decode cJx4a65c_add_9ea2d 11 = .ok (.aload_n 1, 1) := by decide +kernel
