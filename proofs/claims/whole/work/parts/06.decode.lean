theorem dX10_readsAll_0 : decode cX10_readsAll 0 = .ok (.iconst 0, 1) := by decide +kernel
theorem dX10_readsAll_1 : decode cX10_readsAll 1 = .ok (.istore_n 1, 1) := by decide +kernel
theorem dX10_readsAll_2 : decode cX10_readsAll 2 = .ok (.iconst 1, 1) := by decide +kernel
theorem dX10_readsAll_3 : decode cX10_readsAll 3 = .ok (.istore_n 2, 1) := by decide +kernel
theorem dX10_readsAll_4 : decode cX10_readsAll 4 = .ok (.iload_n 1, 1) := by decide +kernel
theorem dX10_readsAll_5 : decode cX10_readsAll 5 = .ok (.aload_n 0, 1) := by decide +kernel
theorem dX10_readsAll_6 : decode cX10_readsAll 6 = .ok (.getfield 230, 3) := by decide +kernel
theorem dX10_readsAll_9 : decode cX10_readsAll 9 = .ok (.if_icmp .lt 7, 3) := by decide +kernel
theorem dX10_readsAll_12 : decode cX10_readsAll 12 = .ok (.iload_n 2, 1) := by decide +kernel
theorem dX10_readsAll_13 : decode cX10_readsAll 13 = .ok (.ifCond .eq 133, 3) := by decide +kernel
theorem dX10_readsAll_16 : decode cX10_readsAll 16 = .ok (.aload_n 0, 1) := by decide +kernel
theorem dX10_readsAll_17 : decode cX10_readsAll 17 = .ok (.iload_n 1, 1) := by decide +kernel
theorem dX10_readsAll_18 : decode cX10_readsAll 18 = .ok (.invokevirtual 302, 3) := by decide +kernel
theorem dX10_readsAll_21 : decode cX10_readsAll 21 = .ok (.ifCond .ne 5, 3) := by decide +kernel
theorem dX10_readsAll_24 : decode cX10_readsAll 24 = .ok (.iconst 0, 1) := by decide +kernel
theorem dX10_readsAll_25 : decode cX10_readsAll 25 = .ok (.ireturn, 1) := by decide +kernel
theorem dX10_readsAll_26 : decode cX10_readsAll 26 = .ok (.aload_n 0, 1) := by decide +kernel
theorem dX10_readsAll_27 : decode cX10_readsAll 27 = .ok (.invokevirtual 305, 3) := by decide +kernel
theorem dX10_readsAll_30 : decode cX10_readsAll 30 = .ok (.istore_n 3, 1) := by decide +kernel
theorem dX10_readsAll_31 : decode cX10_readsAll 31 = .ok (.iload_n 2, 1) := by decide +kernel
theorem dX10_readsAll_32 : decode cX10_readsAll 32 = .ok (.ifCond .eq 13, 3) := by decide +kernel
theorem dX10_readsAll_35 : decode cX10_readsAll 35 = .ok (.aload_n 0, 1) := by decide +kernel
theorem dX10_readsAll_36 : decode cX10_readsAll 36 = .ok (.iload_n 3, 1) := by decide +kernel
theorem dX10_readsAll_37 : decode cX10_readsAll 37 = .ok (.invokevirtual 308, 3) := by decide +kernel
theorem dX10_readsAll_40 : decode cX10_readsAll 40 = .ok (.ifCond .ne 71, 3) := by decide +kernel
theorem dX10_readsAll_43 : decode cX10_readsAll 43 = .ok (.iconst 0, 1) := by decide +kernel
theorem dX10_readsAll_44 : decode cX10_readsAll 44 = .ok (.ireturn, 1) := by decide +kernel
theorem dX10_readsAll_45 : decode cX10_readsAll 45 = .ok (.iload_n 3, 1) := by decide +kernel
theorem dX10_readsAll_46 : decode cX10_readsAll 46 = .ok (.bipush 60, 2) := by decide +kernel
theorem dX10_readsAll_48 : decode cX10_readsAll 48 = .ok (.if_icmp .ne 13, 3) := by decide +kernel
theorem dX10_readsAll_51 : decode cX10_readsAll 51 = .ok (.aload_n 0, 1) := by decide +kernel
theorem dX10_readsAll_52 : decode cX10_readsAll 52 = .ok (.iconst 2, 1) := by decide +kernel
theorem dX10_readsAll_53 : decode cX10_readsAll 53 = .ok (.aload_n 0, 1) := by decide +kernel
theorem dX10_readsAll_54 : decode cX10_readsAll 54 = .ok (.getfield 233, 3) := by decide +kernel
theorem dX10_readsAll_57 : decode cX10_readsAll 57 = .ok (.invokevirtual 249, 3) := by decide +kernel
theorem dX10_readsAll_60 : decode cX10_readsAll 60 = .ok (.ireturn, 1) := by decide +kernel
theorem dX10_readsAll_61 : decode cX10_readsAll 61 = .ok (.iload_n 3, 1) := by decide +kernel
theorem dX10_readsAll_62 : decode cX10_readsAll 62 = .ok (.bipush 14, 2) := by decide +kernel
theorem dX10_readsAll_64 : decode cX10_readsAll 64 = .ok (.bipush 16, 2) := by decide +kernel
theorem dX10_readsAll_66 : decode cX10_readsAll 66 = .ok (.invokestatic 187, 3) := by decide +kernel
theorem dX10_readsAll_69 : decode cX10_readsAll 69 = .ok (.ifCond .eq 24, 3) := by decide +kernel
theorem dX10_readsAll_72 : decode cX10_readsAll 72 = .ok (.aload_n 0, 1) := by decide +kernel
theorem dX10_readsAll_73 : decode cX10_readsAll 73 = .ok (.getfield 54, 3) := by decide +kernel
theorem dX10_readsAll_76 : decode cX10_readsAll 76 = .ok (.iconst 0, 1) := by decide +kernel
theorem dX10_readsAll_77 : decode cX10_readsAll 77 = .ok (.iaload, 1) := by decide +kernel
theorem dX10_readsAll_78 : decode cX10_readsAll 78 = .ok (.bipush 6, 2) := by decide +kernel
theorem dX10_readsAll_80 : decode cX10_readsAll 80 = .ok (.if_icmp .ne 13, 3) := by decide +kernel
theorem dX10_readsAll_83 : decode cX10_readsAll 83 = .ok (.aload_n 0, 1) := by decide +kernel
theorem dX10_readsAll_84 : decode cX10_readsAll 84 = .ok (.iconst 4, 1) := by decide +kernel
theorem dX10_readsAll_85 : decode cX10_readsAll 85 = .ok (.aload_n 0, 1) := by decide +kernel
theorem dX10_readsAll_86 : decode cX10_readsAll 86 = .ok (.getfield 233, 3) := by decide +kernel
theorem dX10_readsAll_89 : decode cX10_readsAll 89 = .ok (.invokevirtual 249, 3) := by decide +kernel
theorem dX10_readsAll_92 : decode cX10_readsAll 92 = .ok (.ireturn, 1) := by decide +kernel
theorem dX10_readsAll_93 : decode cX10_readsAll 93 = .ok (.aload_n 0, 1) := by decide +kernel
theorem dX10_readsAll_94 : decode cX10_readsAll 94 = .ok (.iload_n 3, 1) := by decide +kernel
theorem dX10_readsAll_95 : decode cX10_readsAll 95 = .ok (.invokevirtual 311, 3) := by decide +kernel
theorem dX10_readsAll_98 : decode cX10_readsAll 98 = .ok (.ifCond .ne 13, 3) := by decide +kernel
theorem dX10_readsAll_101 : decode cX10_readsAll 101 = .ok (.aload_n 0, 1) := by decide +kernel
theorem dX10_readsAll_102 : decode cX10_readsAll 102 = .ok (.iconst 1, 1) := by decide +kernel
theorem dX10_readsAll_103 : decode cX10_readsAll 103 = .ok (.aload_n 0, 1) := by decide +kernel
theorem dX10_readsAll_104 : decode cX10_readsAll 104 = .ok (.getfield 233, 3) := by decide +kernel
theorem dX10_readsAll_107 : decode cX10_readsAll 107 = .ok (.invokevirtual 249, 3) := by decide +kernel
theorem dX10_readsAll_110 : decode cX10_readsAll 110 = .ok (.ireturn, 1) := by decide +kernel
theorem dX10_readsAll_111 : decode cX10_readsAll 111 = .ok (.iconst 0, 1) := by decide +kernel
theorem dX10_readsAll_112 : decode cX10_readsAll 112 = .ok (.istore_n 2, 1) := by decide +kernel
theorem dX10_readsAll_113 : decode cX10_readsAll 113 = .ok (.aload_n 0, 1) := by decide +kernel
theorem dX10_readsAll_114 : decode cX10_readsAll 114 = .ok (.getfield 236, 3) := by decide +kernel
theorem dX10_readsAll_117 : decode cX10_readsAll 117 = .ok (.iconst 1, 1) := by decide +kernel
theorem dX10_readsAll_118 : decode cX10_readsAll 118 = .ok (.iadd, 1) := by decide +kernel
theorem dX10_readsAll_119 : decode cX10_readsAll 119 = .ok (.aload_n 0, 1) := by decide +kernel
theorem dX10_readsAll_120 : decode cX10_readsAll 120 = .ok (.getfield 230, 3) := by decide +kernel
theorem dX10_readsAll_123 : decode cX10_readsAll 123 = .ok (.if_icmp .ne 13, 3) := by decide +kernel
theorem dX10_readsAll_126 : decode cX10_readsAll 126 = .ok (.aload_n 0, 1) := by decide +kernel
theorem dX10_readsAll_127 : decode cX10_readsAll 127 = .ok (.iconst 5, 1) := by decide +kernel
theorem dX10_readsAll_128 : decode cX10_readsAll 128 = .ok (.aload_n 0, 1) := by decide +kernel
theorem dX10_readsAll_129 : decode cX10_readsAll 129 = .ok (.getfield 236, 3) := by decide +kernel
theorem dX10_readsAll_132 : decode cX10_readsAll 132 = .ok (.invokevirtual 249, 3) := by decide +kernel
theorem dX10_readsAll_135 : decode cX10_readsAll 135 = .ok (.ireturn, 1) := by decide +kernel
theorem dX10_readsAll_136 : decode cX10_readsAll 136 = .ok (.aload_n 0, 1) := by decide +kernel
theorem dX10_readsAll_137 : decode cX10_readsAll 137 = .ok (.getfield 236, 3) := by decide +kernel
theorem dX10_readsAll_140 : decode cX10_readsAll 140 = .ok (.iconst 1, 1) := by decide +kernel
theorem dX10_readsAll_141 : decode cX10_readsAll 141 = .ok (.iadd, 1) := by decide +kernel
theorem dX10_readsAll_142 : decode cX10_readsAll 142 = .ok (.istore_n 1, 1) := by decide +kernel
theorem dX10_readsAll_143 : decode cX10_readsAll 143 = .ok (.goto (-139), 3) := by decide +kernel
theorem dX10_readsAll_146 : decode cX10_readsAll 146 = .ok (.aload_n 0, 1) := by decide +kernel
theorem dX10_readsAll_147 : decode cX10_readsAll 147 = .ok (.invokevirtual 314, 3) := by decide +kernel
theorem dX10_readsAll_150 : decode cX10_readsAll 150 = .ok (.ifCond .ne 15, 3) := by decide +kernel
theorem dX10_readsAll_153 : decode cX10_readsAll 153 = .ok (.aload_n 0, 1) := by decide +kernel
theorem dX10_readsAll_154 : decode cX10_readsAll 154 = .ok (.iconst 1, 1) := by decide +kernel
theorem dX10_readsAll_155 : decode cX10_readsAll 155 = .ok (.aload_n 0, 1) := by decide +kernel
theorem dX10_readsAll_156 : decode cX10_readsAll 156 = .ok (.getfield 230, 3) := by decide +kernel
theorem dX10_readsAll_159 : decode cX10_readsAll 159 = .ok (.invokevirtual 249, 3) := by decide +kernel
theorem dX10_readsAll_162 : decode cX10_readsAll 162 = .ok (.ifCond .eq 7, 3) := by decide +kernel
theorem dX10_readsAll_165 : decode cX10_readsAll 165 = .ok (.iconst 1, 1) := by decide +kernel
theorem dX10_readsAll_166 : decode cX10_readsAll 166 = .ok (.goto 4, 3) := by decide +kernel
theorem dX10_readsAll_169 : decode cX10_readsAll 169 = .ok (.iconst 0, 1) := by decide +kernel
theorem dX10_readsAll_170 : decode cX10_readsAll 170 = .ok (.ireturn, 1) := by decide +kernel
theorem dX10_say_0 : decode cX10_say 0 = .ok (.iload_n 1, 1) := by decide +kernel
theorem dX10_say_1 : decode cX10_say 1 = .ok (.iconst 1, 1) := by decide +kernel
theorem dX10_say_2 : decode cX10_say 2 = .ok (.bipush 100, 2) := by decide +kernel
theorem dX10_say_4 : decode cX10_say 4 = .ok (.invokestatic 187, 3) := by decide +kernel
theorem dX10_say_7 : decode cX10_say 7 = .ok (.ifCond .eq 11, 3) := by decide +kernel
theorem dX10_say_10 : decode cX10_say 10 = .ok (.iload_n 1, 1) := by decide +kernel
theorem dX10_say_11 : decode cX10_say 11 = .ok (.aload_n 0, 1) := by decide +kernel
theorem dX10_say_12 : decode cX10_say 12 = .ok (.getfield 220, 3) := by decide +kernel
theorem dX10_say_15 : decode cX10_say 15 = .ok (.if_icmp .le 5, 3) := by decide +kernel
theorem dX10_say_18 : decode cX10_say 18 = .ok (.iconst (-1), 1) := by decide +kernel
theorem dX10_say_19 : decode cX10_say 19 = .ok (.ireturn, 1) := by decide +kernel
theorem dX10_say_20 : decode cX10_say 20 = .ok (.aload_n 0, 1) := by decide +kernel
theorem dX10_say_21 : decode cX10_say 21 = .ok (.iload_n 1, 1) := by decide +kernel
theorem dX10_say_22 : decode cX10_say 22 = .ok (.putfield 230, 3) := by decide +kernel
theorem dX10_say_25 : decode cX10_say 25 = .ok (.aload_n 0, 1) := by decide +kernel
theorem dX10_say_26 : decode cX10_say 26 = .ok (.aload_n 0, 1) := by decide +kernel
theorem dX10_say_27 : decode cX10_say 27 = .ok (.invokevirtual 317, 3) := by decide +kernel
theorem dX10_say_30 : decode cX10_say 30 = .ok (.putfield 320, 3) := by decide +kernel
theorem dX10_say_33 : decode cX10_say 33 = .ok (.aload_n 0, 1) := by decide +kernel
theorem dX10_say_34 : decode cX10_say 34 = .ok (.iconst 0, 1) := by decide +kernel
theorem dX10_say_35 : decode cX10_say 35 = .ok (.putfield 220, 3) := by decide +kernel
theorem dX10_say_38 : decode cX10_say 38 = .ok (.aload_n 0, 1) := by decide +kernel
theorem dX10_say_39 : decode cX10_say 39 = .ok (.getfield 320, 3) := by decide +kernel
theorem dX10_say_42 : decode cX10_say 42 = .ok (.ifCond .ne 8, 3) := by decide +kernel
theorem dX10_say_45 : decode cX10_say 45 = .ok (.aload_n 0, 1) := by decide +kernel
theorem dX10_say_46 : decode cX10_say 46 = .ok (.getfield 227, 3) := by decide +kernel
theorem dX10_say_49 : decode cX10_say 49 = .ok (.ireturn, 1) := by decide +kernel
theorem dX10_say_50 : decode cX10_say 50 = .ok (.aload_n 0, 1) := by decide +kernel
theorem dX10_say_51 : decode cX10_say 51 = .ok (.aload_n 0, 1) := by decide +kernel
theorem dX10_say_52 : decode cX10_say 52 = .ok (.getfield 265, 3) := by decide +kernel
theorem dX10_say_55 : decode cX10_say 55 = .ok (.putfield 323, 3) := by decide +kernel
theorem dX10_say_58 : decode cX10_say 58 = .ok (.iconst 0, 1) := by decide +kernel
theorem dX10_say_59 : decode cX10_say 59 = .ok (.istore_n 2, 1) := by decide +kernel
theorem dX10_say_60 : decode cX10_say 60 = .ok (.iload_n 2, 1) := by decide +kernel
theorem dX10_say_61 : decode cX10_say 61 = .ok (.aload_n 0, 1) := by decide +kernel
theorem dX10_say_62 : decode cX10_say 62 = .ok (.getfield 323, 3) := by decide +kernel
theorem dX10_say_65 : decode cX10_say 65 = .ok (.if_icmp .ge 21, 3) := by decide +kernel
theorem dX10_say_68 : decode cX10_say 68 = .ok (.aload_n 0, 1) := by decide +kernel
theorem dX10_say_69 : decode cX10_say 69 = .ok (.getfield 75, 3) := by decide +kernel
theorem dX10_say_72 : decode cX10_say 72 = .ok (.iload_n 2, 1) := by decide +kernel
theorem dX10_say_73 : decode cX10_say 73 = .ok (.aload_n 0, 1) := by decide +kernel
theorem dX10_say_74 : decode cX10_say 74 = .ok (.getfield 78, 3) := by decide +kernel
theorem dX10_say_77 : decode cX10_say 77 = .ok (.iload_n 2, 1) := by decide +kernel
theorem dX10_say_78 : decode cX10_say 78 = .ok (.iaload, 1) := by decide +kernel
theorem dX10_say_79 : decode cX10_say 79 = .ok (.iastore, 1) := by decide +kernel
theorem dX10_say_80 : decode cX10_say 80 = .ok (.iinc 2 1, 3) := by decide +kernel
theorem dX10_say_83 : decode cX10_say 83 = .ok (.goto (-23), 3) := by decide +kernel
theorem dX10_say_86 : decode cX10_say 86 = .ok (.aload_n 0, 1) := by decide +kernel
theorem dX10_say_87 : decode cX10_say 87 = .ok (.getfield 323, 3) := by decide +kernel
theorem dX10_say_90 : decode cX10_say 90 = .ok (.ireturn, 1) := by decide +kernel
theorem dX10_everything_0 : decode cX10_everything 0 = .ok (.iconst 1, 1) := by decide +kernel
theorem dX10_everything_1 : decode cX10_everything 1 = .ok (.aload_n 0, 1) := by decide +kernel
theorem dX10_everything_2 : decode cX10_everything 2 = .ok (.getfield 184, 3) := by decide +kernel
theorem dX10_everything_5 : decode cX10_everything 5 = .ok (.ishl, 1) := by decide +kernel
theorem dX10_everything_6 : decode cX10_everything 6 = .ok (.iconst 1, 1) := by decide +kernel
theorem dX10_everything_7 : decode cX10_everything 7 = .ok (.isub, 1) := by decide +kernel
theorem dX10_everything_8 : decode cX10_everything 8 = .ok (.ireturn, 1) := by decide +kernel
theorem dX10_bySort_0 : decode cX10_bySort 0 = .ok (.iconst 0, 1) := by decide +kernel
theorem dX10_bySort_1 : decode cX10_bySort 1 = .ok (.istore_n 2, 1) := by decide +kernel
theorem dX10_bySort_2 : decode cX10_bySort 2 = .ok (.iconst 0, 1) := by decide +kernel
theorem dX10_bySort_3 : decode cX10_bySort 3 = .ok (.istore_n 3, 1) := by decide +kernel
theorem dX10_bySort_4 : decode cX10_bySort 4 = .ok (.iload_n 3, 1) := by decide +kernel
theorem dX10_bySort_5 : decode cX10_bySort 5 = .ok (.aload_n 0, 1) := by decide +kernel
theorem dX10_bySort_6 : decode cX10_bySort 6 = .ok (.getfield 184, 3) := by decide +kernel
theorem dX10_bySort_9 : decode cX10_bySort 9 = .ok (.if_icmp .ge 29, 3) := by decide +kernel
theorem dX10_bySort_12 : decode cX10_bySort 12 = .ok (.aload_n 0, 1) := by decide +kernel
theorem dX10_bySort_13 : decode cX10_bySort 13 = .ok (.getfield 7, 3) := by decide +kernel
theorem dX10_bySort_16 : decode cX10_bySort 16 = .ok (.iload_n 3, 1) := by decide +kernel
theorem dX10_bySort_17 : decode cX10_bySort 17 = .ok (.iaload, 1) := by decide +kernel
theorem dX10_bySort_18 : decode cX10_bySort 18 = .ok (.iload_n 1, 1) := by decide +kernel
theorem dX10_bySort_19 : decode cX10_bySort 19 = .ok (.if_icmp .ne 11, 3) := by decide +kernel
theorem dX10_bySort_22 : decode cX10_bySort 22 = .ok (.iload_n 2, 1) := by decide +kernel
theorem dX10_bySort_23 : decode cX10_bySort 23 = .ok (.iconst 1, 1) := by decide +kernel
theorem dX10_bySort_24 : decode cX10_bySort 24 = .ok (.iload_n 3, 1) := by decide +kernel
theorem dX10_bySort_25 : decode cX10_bySort 25 = .ok (.ishl, 1) := by decide +kernel
theorem dX10_bySort_26 : decode cX10_bySort 26 = .ok (.ior, 1) := by decide +kernel
theorem dX10_bySort_27 : decode cX10_bySort 27 = .ok (.goto 4, 3) := by decide +kernel
theorem dX10_bySort_30 : decode cX10_bySort 30 = .ok (.iload_n 2, 1) := by decide +kernel
theorem dX10_bySort_31 : decode cX10_bySort 31 = .ok (.istore_n 2, 1) := by decide +kernel
theorem dX10_bySort_32 : decode cX10_bySort 32 = .ok (.iinc 3 1, 3) := by decide +kernel
theorem dX10_bySort_35 : decode cX10_bySort 35 = .ok (.goto (-31), 3) := by decide +kernel
theorem dX10_bySort_38 : decode cX10_bySort 38 = .ok (.iload_n 2, 1) := by decide +kernel
theorem dX10_bySort_39 : decode cX10_bySort 39 = .ok (.ireturn, 1) := by decide +kernel
theorem dX10_nounSet_0 : decode cX10_nounSet 0 = .ok (.iload_n 1, 1) := by decide +kernel
theorem dX10_nounSet_1 : decode cX10_nounSet 1 = .ok (.bipush 28, 2) := by decide +kernel
theorem dX10_nounSet_3 : decode cX10_nounSet 3 = .ok (.if_icmp .ne 7, 3) := by decide +kernel
theorem dX10_nounSet_6 : decode cX10_nounSet 6 = .ok (.iload_n 2, 1) := by decide +kernel
theorem dX10_nounSet_7 : decode cX10_nounSet 7 = .ok (.goto 4, 3) := by decide +kernel
theorem dX10_nounSet_10 : decode cX10_nounSet 10 = .ok (.iload_n 1, 1) := by decide +kernel
theorem dX10_nounSet_11 : decode cX10_nounSet 11 = .ok (.istore_n 3, 1) := by decide +kernel
theorem dX10_nounSet_12 : decode cX10_nounSet 12 = .ok (.iload_n 3, 1) := by decide +kernel
theorem dX10_nounSet_13 : decode cX10_nounSet 13 = .ok (.iconst (-1), 1) := by decide +kernel
theorem dX10_nounSet_14 : decode cX10_nounSet 14 = .ok (.if_icmp .ne 5, 3) := by decide +kernel
theorem dX10_nounSet_17 : decode cX10_nounSet 17 = .ok (.iconst 0, 1) := by decide +kernel
theorem dX10_nounSet_18 : decode cX10_nounSet 18 = .ok (.ireturn, 1) := by decide +kernel
theorem dX10_nounSet_19 : decode cX10_nounSet 19 = .ok (.iload_n 3, 1) := by decide +kernel
theorem dX10_nounSet_20 : decode cX10_nounSet 20 = .ok (.bipush 24, 2) := by decide +kernel
theorem dX10_nounSet_22 : decode cX10_nounSet 22 = .ok (.if_icmp .ne 10, 3) := by decide +kernel
theorem dX10_nounSet_25 : decode cX10_nounSet 25 = .ok (.aload_n 0, 1) := by decide +kernel
theorem dX10_nounSet_26 : decode cX10_nounSet 26 = .ok (.invokevirtual 326, 3) := by decide +kernel
theorem dX10_nounSet_29 : decode cX10_nounSet 29 = .ok (.goto 31, 3) := by decide +kernel
theorem dX10_nounSet_32 : decode cX10_nounSet 32 = .ok (.iload_n 3, 1) := by decide +kernel
theorem dX10_nounSet_33 : decode cX10_nounSet 33 = .ok (.bipush 28, 2) := by decide +kernel
theorem dX10_nounSet_35 : decode cX10_nounSet 35 = .ok (.if_icmp .ge 16, 3) := by decide +kernel
theorem dX10_nounSet_38 : decode cX10_nounSet 38 = .ok (.aload_n 0, 1) := by decide +kernel
theorem dX10_nounSet_39 : decode cX10_nounSet 39 = .ok (.iload_n 3, 1) := by decide +kernel
theorem dX10_nounSet_40 : decode cX10_nounSet 40 = .ok (.bipush 24, 2) := by decide +kernel
theorem dX10_nounSet_42 : decode cX10_nounSet 42 = .ok (.isub, 1) := by decide +kernel
theorem dX10_nounSet_43 : decode cX10_nounSet 43 = .ok (.iconst 1, 1) := by decide +kernel
theorem dX10_nounSet_44 : decode cX10_nounSet 44 = .ok (.isub, 1) := by decide +kernel
theorem dX10_nounSet_45 : decode cX10_nounSet 45 = .ok (.invokevirtual 329, 3) := by decide +kernel
theorem dX10_nounSet_48 : decode cX10_nounSet 48 = .ok (.goto 12, 3) := by decide +kernel
theorem dX10_nounSet_51 : decode cX10_nounSet 51 = .ok (.aload_n 0, 1) := by decide +kernel
theorem dX10_nounSet_52 : decode cX10_nounSet 52 = .ok (.getfield 103, 3) := by decide +kernel
theorem dX10_nounSet_55 : decode cX10_nounSet 55 = .ok (.iload_n 3, 1) := by decide +kernel
theorem dX10_nounSet_56 : decode cX10_nounSet 56 = .ok (.bipush 40, 2) := by decide +kernel
theorem dX10_nounSet_58 : decode cX10_nounSet 58 = .ok (.isub, 1) := by decide +kernel
theorem dX10_nounSet_59 : decode cX10_nounSet 59 = .ok (.iaload, 1) := by decide +kernel
theorem dX10_nounSet_60 : decode cX10_nounSet 60 = .ok (.ireturn, 1) := by decide +kernel
theorem dX10_isSuch_0 : decode cX10_isSuch 0 = .ok (.iconst 0, 1) := by decide +kernel
theorem dX10_isSuch_1 : decode cX10_isSuch 1 = .ok (.istore_n 3, 1) := by decide +kernel
theorem dX10_isSuch_2 : decode cX10_isSuch 2 = .ok (.iload_n 3, 1) := by decide +kernel
theorem dX10_isSuch_3 : decode cX10_isSuch 3 = .ok (.iconst 4, 1) := by decide +kernel
theorem dX10_isSuch_4 : decode cX10_isSuch 4 = .ok (.if_icmp .ge 30, 3) := by decide +kernel
theorem dX10_isSuch_7 : decode cX10_isSuch 7 = .ok (.iload_n 2, 1) := by decide +kernel
theorem dX10_isSuch_8 : decode cX10_isSuch 8 = .ok (.iload_n 3, 1) := by decide +kernel
theorem dX10_isSuch_9 : decode cX10_isSuch 9 = .ok (.ishr, 1) := by decide +kernel
theorem dX10_isSuch_10 : decode cX10_isSuch 10 = .ok (.iconst 1, 1) := by decide +kernel
theorem dX10_isSuch_11 : decode cX10_isSuch 11 = .ok (.iand, 1) := by decide +kernel
theorem dX10_isSuch_12 : decode cX10_isSuch 12 = .ok (.iconst 1, 1) := by decide +kernel
theorem dX10_isSuch_13 : decode cX10_isSuch 13 = .ok (.if_icmp .ne 15, 3) := by decide +kernel
theorem dX10_isSuch_16 : decode cX10_isSuch 16 = .ok (.aload_n 0, 1) := by decide +kernel
theorem dX10_isSuch_17 : decode cX10_isSuch 17 = .ok (.getfield 13, 3) := by decide +kernel
theorem dX10_isSuch_20 : decode cX10_isSuch 20 = .ok (.iload_n 1, 1) := by decide +kernel
theorem dX10_isSuch_21 : decode cX10_isSuch 21 = .ok (.iaload, 1) := by decide +kernel
theorem dX10_isSuch_22 : decode cX10_isSuch 22 = .ok (.iload_n 3, 1) := by decide +kernel
theorem dX10_isSuch_23 : decode cX10_isSuch 23 = .ok (.if_icmp .eq 5, 3) := by decide +kernel
theorem dX10_isSuch_26 : decode cX10_isSuch 26 = .ok (.iconst 0, 1) := by decide +kernel
theorem dX10_isSuch_27 : decode cX10_isSuch 27 = .ok (.ireturn, 1) := by decide +kernel
theorem dX10_isSuch_28 : decode cX10_isSuch 28 = .ok (.iinc 3 1, 3) := by decide +kernel
theorem dX10_isSuch_31 : decode cX10_isSuch 31 = .ok (.goto (-29), 3) := by decide +kernel
theorem dX10_isSuch_34 : decode cX10_isSuch 34 = .ok (.iload_n 2, 1) := by decide +kernel
theorem dX10_isSuch_35 : decode cX10_isSuch 35 = .ok (.iconst 4, 1) := by decide +kernel
theorem dX10_isSuch_36 : decode cX10_isSuch 36 = .ok (.ishr, 1) := by decide +kernel
theorem dX10_isSuch_37 : decode cX10_isSuch 37 = .ok (.iconst 1, 1) := by decide +kernel
theorem dX10_isSuch_38 : decode cX10_isSuch 38 = .ok (.iand, 1) := by decide +kernel
theorem dX10_isSuch_39 : decode cX10_isSuch 39 = .ok (.iconst 1, 1) := by decide +kernel
theorem dX10_isSuch_40 : decode cX10_isSuch 40 = .ok (.if_icmp .ne 15, 3) := by decide +kernel
theorem dX10_isSuch_43 : decode cX10_isSuch 43 = .ok (.aload_n 0, 1) := by decide +kernel
theorem dX10_isSuch_44 : decode cX10_isSuch 44 = .ok (.getfield 16, 3) := by decide +kernel
theorem dX10_isSuch_47 : decode cX10_isSuch 47 = .ok (.iload_n 1, 1) := by decide +kernel
theorem dX10_isSuch_48 : decode cX10_isSuch 48 = .ok (.iaload, 1) := by decide +kernel
theorem dX10_isSuch_49 : decode cX10_isSuch 49 = .ok (.iconst 5, 1) := by decide +kernel
theorem dX10_isSuch_50 : decode cX10_isSuch 50 = .ok (.if_icmp .ge 5, 3) := by decide +kernel
theorem dX10_isSuch_53 : decode cX10_isSuch 53 = .ok (.iconst 0, 1) := by decide +kernel
theorem dX10_isSuch_54 : decode cX10_isSuch 54 = .ok (.ireturn, 1) := by decide +kernel
theorem dX10_isSuch_55 : decode cX10_isSuch 55 = .ok (.iload_n 2, 1) := by decide +kernel
theorem dX10_isSuch_56 : decode cX10_isSuch 56 = .ok (.iconst 5, 1) := by decide +kernel
theorem dX10_isSuch_57 : decode cX10_isSuch 57 = .ok (.ishr, 1) := by decide +kernel
theorem dX10_isSuch_58 : decode cX10_isSuch 58 = .ok (.iconst 1, 1) := by decide +kernel
theorem dX10_isSuch_59 : decode cX10_isSuch 59 = .ok (.iand, 1) := by decide +kernel
theorem dX10_isSuch_60 : decode cX10_isSuch 60 = .ok (.ifCond .eq 13, 3) := by decide +kernel
theorem dX10_isSuch_63 : decode cX10_isSuch 63 = .ok (.aload_n 0, 1) := by decide +kernel
theorem dX10_isSuch_64 : decode cX10_isSuch 64 = .ok (.getfield 16, 3) := by decide +kernel
theorem dX10_isSuch_67 : decode cX10_isSuch 67 = .ok (.iload_n 1, 1) := by decide +kernel
theorem dX10_isSuch_68 : decode cX10_isSuch 68 = .ok (.iaload, 1) := by decide +kernel
theorem dX10_isSuch_69 : decode cX10_isSuch 69 = .ok (.iconst 5, 1) := by decide +kernel
theorem dX10_isSuch_70 : decode cX10_isSuch 70 = .ok (.if_icmp .ge 7, 3) := by decide +kernel
theorem dX10_isSuch_73 : decode cX10_isSuch 73 = .ok (.iconst 1, 1) := by decide +kernel
theorem dX10_isSuch_74 : decode cX10_isSuch 74 = .ok (.goto 4, 3) := by decide +kernel
theorem dX10_isSuch_77 : decode cX10_isSuch 77 = .ok (.iconst 0, 1) := by decide +kernel
theorem dX10_isSuch_78 : decode cX10_isSuch 78 = .ok (.ireturn, 1) := by decide +kernel
theorem dX10_isLinked_0 : decode cX10_isLinked 0 = .ok (.iload_n 2, 1) := by decide +kernel
theorem dX10_isLinked_1 : decode cX10_isLinked 1 = .ok (.iconst 2, 1) := by decide +kernel
theorem dX10_isLinked_2 : decode cX10_isLinked 2 = .ok (.if_icmp .ne 56, 3) := by decide +kernel
theorem dX10_isLinked_5 : decode cX10_isLinked 5 = .ok (.iconst 0, 1) := by decide +kernel
theorem dX10_isLinked_6 : decode cX10_isLinked 6 = .ok (.istore 4, 2) := by decide +kernel
theorem dX10_isLinked_8 : decode cX10_isLinked 8 = .ok (.iload 4, 2) := by decide +kernel
theorem dX10_isLinked_10 : decode cX10_isLinked 10 = .ok (.aload_n 0, 1) := by decide +kernel
theorem dX10_isLinked_11 : decode cX10_isLinked 11 = .ok (.getfield 184, 3) := by decide +kernel
theorem dX10_isLinked_14 : decode cX10_isLinked 14 = .ok (.if_icmp .ge 42, 3) := by decide +kernel
theorem dX10_isLinked_17 : decode cX10_isLinked 17 = .ok (.iload_n 3, 1) := by decide +kernel
theorem dX10_isLinked_18 : decode cX10_isLinked 18 = .ok (.iload 4, 2) := by decide +kernel
theorem dX10_isLinked_20 : decode cX10_isLinked 20 = .ok (.ishr, 1) := by decide +kernel
theorem dX10_isLinked_21 : decode cX10_isLinked 21 = .ok (.iconst 1, 1) := by decide +kernel
theorem dX10_isLinked_22 : decode cX10_isLinked 22 = .ok (.iand, 1) := by decide +kernel
theorem dX10_isLinked_23 : decode cX10_isLinked 23 = .ok (.iconst 1, 1) := by decide +kernel
theorem dX10_isLinked_24 : decode cX10_isLinked 24 = .ok (.if_icmp .ne 26, 3) := by decide +kernel
theorem dX10_isLinked_27 : decode cX10_isLinked 27 = .ok (.aload_n 0, 1) := by decide +kernel
theorem dX10_isLinked_28 : decode cX10_isLinked 28 = .ok (.getfield 19, 3) := by decide +kernel
theorem dX10_isLinked_31 : decode cX10_isLinked 31 = .ok (.iload 4, 2) := by decide +kernel
theorem dX10_isLinked_33 : decode cX10_isLinked 33 = .ok (.iaload, 1) := by decide +kernel
theorem dX10_isLinked_34 : decode cX10_isLinked 34 = .ok (.iload_n 1, 1) := by decide +kernel
theorem dX10_isLinked_35 : decode cX10_isLinked 35 = .ok (.if_icmp .ne 15, 3) := by decide +kernel
theorem dX10_isLinked_38 : decode cX10_isLinked 38 = .ok (.aload_n 0, 1) := by decide +kernel
theorem dX10_isLinked_39 : decode cX10_isLinked 39 = .ok (.getfield 7, 3) := by decide +kernel
theorem dX10_isLinked_42 : decode cX10_isLinked 42 = .ok (.iload_n 1, 1) := by decide +kernel
theorem dX10_isLinked_43 : decode cX10_isLinked 43 = .ok (.iaload, 1) := by decide +kernel
theorem dX10_isLinked_44 : decode cX10_isLinked 44 = .ok (.iconst 2, 1) := by decide +kernel
theorem dX10_isLinked_45 : decode cX10_isLinked 45 = .ok (.if_icmp .eq 5, 3) := by decide +kernel
theorem dX10_isLinked_48 : decode cX10_isLinked 48 = .ok (.iconst 1, 1) := by decide +kernel
theorem dX10_isLinked_49 : decode cX10_isLinked 49 = .ok (.ireturn, 1) := by decide +kernel
theorem dX10_isLinked_50 : decode cX10_isLinked 50 = .ok (.iinc 4 1, 3) := by decide +kernel
theorem dX10_isLinked_53 : decode cX10_isLinked 53 = .ok (.goto (-45), 3) := by decide +kernel
theorem dX10_isLinked_56 : decode cX10_isLinked 56 = .ok (.iconst 0, 1) := by decide +kernel
theorem dX10_isLinked_57 : decode cX10_isLinked 57 = .ok (.ireturn, 1) := by decide +kernel
theorem dX10_isLinked_58 : decode cX10_isLinked 58 = .ok (.aload_n 0, 1) := by decide +kernel
theorem dX10_isLinked_59 : decode cX10_isLinked 59 = .ok (.getfield 19, 3) := by decide +kernel
theorem dX10_isLinked_62 : decode cX10_isLinked 62 = .ok (.iload_n 1, 1) := by decide +kernel
theorem dX10_isLinked_63 : decode cX10_isLinked 63 = .ok (.iaload, 1) := by decide +kernel
theorem dX10_isLinked_64 : decode cX10_isLinked 64 = .ok (.istore 4, 2) := by decide +kernel
theorem dX10_isLinked_66 : decode cX10_isLinked 66 = .ok (.iload 4, 2) := by decide +kernel
theorem dX10_isLinked_68 : decode cX10_isLinked 68 = .ok (.bipush 16, 2) := by decide +kernel
theorem dX10_isLinked_70 : decode cX10_isLinked 70 = .ok (.if_icmp .ge 45, 3) := by decide +kernel
theorem dX10_isLinked_73 : decode cX10_isLinked 73 = .ok (.iload_n 3, 1) := by decide +kernel
theorem dX10_isLinked_74 : decode cX10_isLinked 74 = .ok (.iload 4, 2) := by decide +kernel
theorem dX10_isLinked_76 : decode cX10_isLinked 76 = .ok (.ishr, 1) := by decide +kernel
theorem dX10_isLinked_77 : decode cX10_isLinked 77 = .ok (.iconst 1, 1) := by decide +kernel
theorem dX10_isLinked_78 : decode cX10_isLinked 78 = .ok (.iand, 1) := by decide +kernel
theorem dX10_isLinked_79 : decode cX10_isLinked 79 = .ok (.iconst 1, 1) := by decide +kernel
theorem dX10_isLinked_80 : decode cX10_isLinked 80 = .ok (.if_icmp .ne 35, 3) := by decide +kernel
theorem dX10_isLinked_83 : decode cX10_isLinked 83 = .ok (.iload_n 2, 1) := by decide +kernel
theorem dX10_isLinked_84 : decode cX10_isLinked 84 = .ok (.ifCond .ne 7, 3) := by decide +kernel
theorem dX10_isLinked_87 : decode cX10_isLinked 87 = .ok (.iconst 1, 1) := by decide +kernel
theorem dX10_isLinked_88 : decode cX10_isLinked 88 = .ok (.goto 4, 3) := by decide +kernel
theorem dX10_isLinked_91 : decode cX10_isLinked 91 = .ok (.iconst 0, 1) := by decide +kernel
theorem dX10_isLinked_92 : decode cX10_isLinked 92 = .ok (.aload_n 0, 1) := by decide +kernel
theorem dX10_isLinked_93 : decode cX10_isLinked 93 = .ok (.getfield 7, 3) := by decide +kernel
theorem dX10_isLinked_96 : decode cX10_isLinked 96 = .ok (.iload 4, 2) := by decide +kernel
theorem dX10_isLinked_98 : decode cX10_isLinked 98 = .ok (.iaload, 1) := by decide +kernel
theorem dX10_isLinked_99 : decode cX10_isLinked 99 = .ok (.iconst 2, 1) := by decide +kernel
theorem dX10_isLinked_100 : decode cX10_isLinked 100 = .ok (.if_icmp .eq 7, 3) := by decide +kernel
theorem dX10_isLinked_103 : decode cX10_isLinked 103 = .ok (.iconst 1, 1) := by decide +kernel
theorem dX10_isLinked_104 : decode cX10_isLinked 104 = .ok (.goto 4, 3) := by decide +kernel
theorem dX10_isLinked_107 : decode cX10_isLinked 107 = .ok (.iconst 0, 1) := by decide +kernel
theorem dX10_isLinked_108 : decode cX10_isLinked 108 = .ok (.if_icmp .ne 7, 3) := by decide +kernel
theorem dX10_isLinked_111 : decode cX10_isLinked 111 = .ok (.iconst 1, 1) := by decide +kernel
theorem dX10_isLinked_112 : decode cX10_isLinked 112 = .ok (.goto 4, 3) := by decide +kernel
theorem dX10_isLinked_115 : decode cX10_isLinked 115 = .ok (.iconst 0, 1) := by decide +kernel
theorem dX10_isLinked_116 : decode cX10_isLinked 116 = .ok (.ireturn, 1) := by decide +kernel
theorem dX10_digitOf_0 : decode cX10_digitOf 0 = .ok (.iload_n 0, 1) := by decide +kernel
theorem dX10_digitOf_1 : decode cX10_digitOf 1 = .ok (.iconst 3, 1) := by decide +kernel
theorem dX10_digitOf_2 : decode cX10_digitOf 2 = .ok (.iload_n 1, 1) := by decide +kernel
theorem dX10_digitOf_3 : decode cX10_digitOf 3 = .ok (.iconst 1, 1) := by decide +kernel
theorem dX10_digitOf_4 : decode cX10_digitOf 4 = .ok (.isub, 1) := by decide +kernel
theorem dX10_digitOf_5 : decode cX10_digitOf 5 = .ok (.iload_n 2, 1) := by decide +kernel
theorem dX10_digitOf_6 : decode cX10_digitOf 6 = .ok (.isub, 1) := by decide +kernel
theorem dX10_digitOf_7 : decode cX10_digitOf 7 = .ok (.imul, 1) := by decide +kernel
theorem dX10_digitOf_8 : decode cX10_digitOf 8 = .ok (.ishr, 1) := by decide +kernel
theorem dX10_digitOf_9 : decode cX10_digitOf 9 = .ok (.bipush 7, 2) := by decide +kernel
theorem dX10_digitOf_11 : decode cX10_digitOf 11 = .ok (.iand, 1) := by decide +kernel
theorem dX10_digitOf_12 : decode cX10_digitOf 12 = .ok (.ireturn, 1) := by decide +kernel
theorem dX10_works_0 : decode cX10_works 0 = .ok (.aload_n 0, 1) := by decide +kernel
theorem dX10_works_1 : decode cX10_works 1 = .ok (.getfield 51, 3) := by decide +kernel
theorem dX10_works_4 : decode cX10_works 4 = .ok (.iload_n 1, 1) := by decide +kernel
theorem dX10_works_5 : decode cX10_works 5 = .ok (.iaload, 1) := by decide +kernel
theorem dX10_works_6 : decode cX10_works 6 = .ok (.iconst 1, 1) := by decide +kernel
theorem dX10_works_7 : decode cX10_works 7 = .ok (.isub, 1) := by decide +kernel
theorem dX10_works_8 : decode cX10_works 8 = .ok (.istore 4, 2) := by decide +kernel
theorem dX10_works_10 : decode cX10_works 10 = .ok (.iload 4, 2) := by decide +kernel
theorem dX10_works_12 : decode cX10_works 12 = .ok (.ifCond .lt 131, 3) := by decide +kernel
theorem dX10_works_15 : decode cX10_works 15 = .ok (.bipush 7, 2) := by decide +kernel
theorem dX10_works_17 : decode cX10_works 17 = .ok (.iload_n 1, 1) := by decide +kernel
theorem dX10_works_18 : decode cX10_works 18 = .ok (.imul, 1) := by decide +kernel
theorem dX10_works_19 : decode cX10_works 19 = .ok (.iload 4, 2) := by decide +kernel
theorem dX10_works_21 : decode cX10_works 21 = .ok (.iadd, 1) := by decide +kernel
theorem dX10_works_22 : decode cX10_works 22 = .ok (.istore 5, 2) := by decide +kernel
theorem dX10_works_24 : decode cX10_works 24 = .ok (.iconst 0, 1) := by decide +kernel
theorem dX10_works_25 : decode cX10_works 25 = .ok (.istore 6, 2) := by decide +kernel
theorem dX10_works_27 : decode cX10_works 27 = .ok (.aload_n 0, 1) := by decide +kernel
theorem dX10_works_28 : decode cX10_works 28 = .ok (.getfield 57, 3) := by decide +kernel
theorem dX10_works_31 : decode cX10_works 31 = .ok (.iload 5, 2) := by decide +kernel
theorem dX10_works_33 : decode cX10_works 33 = .ok (.iaload, 1) := by decide +kernel
theorem dX10_works_34 : decode cX10_works 34 = .ok (.ifCond .ne 32, 3) := by decide +kernel
theorem dX10_works_37 : decode cX10_works 37 = .ok (.aload_n 0, 1) := by decide +kernel
theorem dX10_works_38 : decode cX10_works 38 = .ok (.getfield 332, 3) := by decide +kernel
theorem dX10_works_41 : decode cX10_works 41 = .ok (.ifCond .ne 7, 3) := by decide +kernel
theorem dX10_works_44 : decode cX10_works 44 = .ok (.iconst 0, 1) := by decide +kernel
theorem dX10_works_45 : decode cX10_works 45 = .ok (.goto 16, 3) := by decide +kernel
theorem dX10_works_48 : decode cX10_works 48 = .ok (.iconst 1, 1) := by decide +kernel
theorem dX10_works_49 : decode cX10_works 49 = .ok (.aload_n 0, 1) := by decide +kernel
theorem dX10_works_50 : decode cX10_works 50 = .ok (.getfield 97, 3) := by decide +kernel
theorem dX10_works_53 : decode cX10_works 53 = .ok (.aload_n 0, 1) := by decide +kernel
theorem dX10_works_54 : decode cX10_works 54 = .ok (.getfield 332, 3) := by decide +kernel
theorem dX10_works_57 : decode cX10_works 57 = .ok (.iconst 1, 1) := by decide +kernel
theorem dX10_works_58 : decode cX10_works 58 = .ok (.isub, 1) := by decide +kernel
theorem dX10_works_59 : decode cX10_works 59 = .ok (.iaload, 1) := by decide +kernel
theorem dX10_works_60 : decode cX10_works 60 = .ok (.ishl, 1) := by decide +kernel
theorem dX10_works_61 : decode cX10_works 61 = .ok (.istore 6, 2) := by decide +kernel
theorem dX10_works_63 : decode cX10_works 63 = .ok (.goto 65, 3) := by decide +kernel
theorem dX10_works_66 : decode cX10_works 66 = .ok (.aload_n 0, 1) := by decide +kernel
theorem dX10_works_67 : decode cX10_works 67 = .ok (.getfield 57, 3) := by decide +kernel
theorem dX10_works_70 : decode cX10_works 70 = .ok (.iload 5, 2) := by decide +kernel
theorem dX10_works_72 : decode cX10_works 72 = .ok (.iaload, 1) := by decide +kernel
theorem dX10_works_73 : decode cX10_works 73 = .ok (.iconst 1, 1) := by decide +kernel
theorem dX10_works_74 : decode cX10_works 74 = .ok (.if_icmp .ne 32, 3) := by decide +kernel
theorem dX10_works_77 : decode cX10_works 77 = .ok (.aload_n 0, 1) := by decide +kernel
theorem dX10_works_78 : decode cX10_works 78 = .ok (.getfield 203, 3) := by decide +kernel
theorem dX10_works_81 : decode cX10_works 81 = .ok (.ifCond .ne 7, 3) := by decide +kernel
theorem dX10_works_84 : decode cX10_works 84 = .ok (.iconst 0, 1) := by decide +kernel
theorem dX10_works_85 : decode cX10_works 85 = .ok (.goto 16, 3) := by decide +kernel
theorem dX10_works_88 : decode cX10_works 88 = .ok (.iconst 1, 1) := by decide +kernel
theorem dX10_works_89 : decode cX10_works 89 = .ok (.aload_n 0, 1) := by decide +kernel
theorem dX10_works_90 : decode cX10_works 90 = .ok (.getfield 25, 3) := by decide +kernel
theorem dX10_works_93 : decode cX10_works 93 = .ok (.aload_n 0, 1) := by decide +kernel
theorem dX10_works_94 : decode cX10_works 94 = .ok (.getfield 203, 3) := by decide +kernel
theorem dX10_works_97 : decode cX10_works 97 = .ok (.iconst 1, 1) := by decide +kernel
theorem dX10_works_98 : decode cX10_works 98 = .ok (.isub, 1) := by decide +kernel
theorem dX10_works_99 : decode cX10_works 99 = .ok (.iaload, 1) := by decide +kernel
theorem dX10_works_100 : decode cX10_works 100 = .ok (.ishl, 1) := by decide +kernel
theorem dX10_works_101 : decode cX10_works 101 = .ok (.istore 6, 2) := by decide +kernel
theorem dX10_works_103 : decode cX10_works 103 = .ok (.goto 25, 3) := by decide +kernel
theorem dX10_works_106 : decode cX10_works 106 = .ok (.aload_n 0, 1) := by decide +kernel
theorem dX10_works_107 : decode cX10_works 107 = .ok (.iload_n 1, 1) := by decide +kernel
theorem dX10_works_108 : decode cX10_works 108 = .ok (.iload 4, 2) := by decide +kernel
theorem dX10_works_110 : decode cX10_works 110 = .ok (.iload_n 2, 1) := by decide +kernel
theorem dX10_works_111 : decode cX10_works 111 = .ok (.aload_n 0, 1) := by decide +kernel
theorem dX10_works_112 : decode cX10_works 112 = .ok (.aload_n 0, 1) := by decide +kernel
theorem dX10_works_113 : decode cX10_works 113 = .ok (.getfield 60, 3) := by decide +kernel
theorem dX10_works_116 : decode cX10_works 116 = .ok (.iload 5, 2) := by decide +kernel
theorem dX10_works_118 : decode cX10_works 118 = .ok (.iaload, 1) := by decide +kernel
theorem dX10_works_119 : decode cX10_works 119 = .ok (.iload_n 3, 1) := by decide +kernel
theorem dX10_works_120 : decode cX10_works 120 = .ok (.invokevirtual 335, 3) := by decide +kernel
theorem dX10_works_123 : decode cX10_works 123 = .ok (.invokevirtual 339, 3) := by decide +kernel
theorem dX10_works_126 : decode cX10_works 126 = .ok (.istore 6, 2) := by decide +kernel
theorem dX10_works_128 : decode cX10_works 128 = .ok (.aload_n 0, 1) := by decide +kernel
theorem dX10_works_129 : decode cX10_works 129 = .ok (.getfield 100, 3) := by decide +kernel
theorem dX10_works_132 : decode cX10_works 132 = .ok (.iload 5, 2) := by decide +kernel
theorem dX10_works_134 : decode cX10_works 134 = .ok (.iload 6, 2) := by decide +kernel
theorem dX10_works_136 : decode cX10_works 136 = .ok (.iastore, 1) := by decide +kernel
theorem dX10_works_137 : decode cX10_works 137 = .ok (.iinc 4 (-1), 3) := by decide +kernel
theorem dX10_works_140 : decode cX10_works 140 = .ok (.goto (-130), 3) := by decide +kernel
theorem dX10_works_143 : decode cX10_works 143 = .ok (.return_, 1) := by decide +kernel
theorem dX10_narrowed_0 : decode cX10_narrowed 0 = .ok (.iconst 0, 1) := by decide +kernel
theorem dX10_narrowed_1 : decode cX10_narrowed 1 = .ok (.istore 5, 2) := by decide +kernel
theorem dX10_narrowed_3 : decode cX10_narrowed 3 = .ok (.iconst 0, 1) := by decide +kernel
theorem dX10_narrowed_4 : decode cX10_narrowed 4 = .ok (.istore 6, 2) := by decide +kernel
theorem dX10_narrowed_6 : decode cX10_narrowed 6 = .ok (.iload 6, 2) := by decide +kernel
theorem dX10_narrowed_8 : decode cX10_narrowed 8 = .ok (.aload_n 0, 1) := by decide +kernel
theorem dX10_narrowed_9 : decode cX10_narrowed 9 = .ok (.getfield 184, 3) := by decide +kernel
theorem dX10_narrowed_12 : decode cX10_narrowed 12 = .ok (.if_icmp .ge 151, 3) := by decide +kernel
theorem dX10_narrowed_15 : decode cX10_narrowed 15 = .ok (.iload 4, 2) := by decide +kernel
theorem dX10_narrowed_17 : decode cX10_narrowed 17 = .ok (.iload 6, 2) := by decide +kernel
theorem dX10_narrowed_19 : decode cX10_narrowed 19 = .ok (.ishr, 1) := by decide +kernel
theorem dX10_narrowed_20 : decode cX10_narrowed 20 = .ok (.iconst 1, 1) := by decide +kernel
theorem dX10_narrowed_21 : decode cX10_narrowed 21 = .ok (.iand, 1) := by decide +kernel
theorem dX10_narrowed_22 : decode cX10_narrowed 22 = .ok (.iconst 1, 1) := by decide +kernel
theorem dX10_narrowed_23 : decode cX10_narrowed 23 = .ok (.if_icmp .ne 27, 3) := by decide +kernel
theorem dX10_narrowed_26 : decode cX10_narrowed 26 = .ok (.aload_n 0, 1) := by decide +kernel
theorem dX10_narrowed_27 : decode cX10_narrowed 27 = .ok (.iload 6, 2) := by decide +kernel
theorem dX10_narrowed_29 : decode cX10_narrowed 29 = .ok (.aload_n 0, 1) := by decide +kernel
theorem dX10_narrowed_30 : decode cX10_narrowed 30 = .ok (.getfield 63, 3) := by decide +kernel
theorem dX10_narrowed_33 : decode cX10_narrowed 33 = .ok (.bipush 7, 2) := by decide +kernel
theorem dX10_narrowed_35 : decode cX10_narrowed 35 = .ok (.iload_n 1, 1) := by decide +kernel
theorem dX10_narrowed_36 : decode cX10_narrowed 36 = .ok (.imul, 1) := by decide +kernel
theorem dX10_narrowed_37 : decode cX10_narrowed 37 = .ok (.iload_n 2, 1) := by decide +kernel
theorem dX10_narrowed_38 : decode cX10_narrowed 38 = .ok (.iadd, 1) := by decide +kernel
theorem dX10_narrowed_39 : decode cX10_narrowed 39 = .ok (.iaload, 1) := by decide +kernel
theorem dX10_narrowed_40 : decode cX10_narrowed 40 = .ok (.invokevirtual 343, 3) := by decide +kernel
theorem dX10_narrowed_43 : decode cX10_narrowed 43 = .ok (.ifCond .eq 7, 3) := by decide +kernel
theorem dX10_narrowed_46 : decode cX10_narrowed 46 = .ok (.iconst 1, 1) := by decide +kernel
theorem dX10_narrowed_47 : decode cX10_narrowed 47 = .ok (.goto 4, 3) := by decide +kernel
theorem dX10_narrowed_50 : decode cX10_narrowed 50 = .ok (.iconst 0, 1) := by decide +kernel
theorem dX10_narrowed_51 : decode cX10_narrowed 51 = .ok (.istore 7, 2) := by decide +kernel
theorem dX10_narrowed_53 : decode cX10_narrowed 53 = .ok (.iload_n 2, 1) := by decide +kernel
theorem dX10_narrowed_54 : decode cX10_narrowed 54 = .ok (.istore 8, 2) := by decide +kernel
theorem dX10_narrowed_56 : decode cX10_narrowed 56 = .ok (.iload 8, 2) := by decide +kernel
theorem dX10_narrowed_58 : decode cX10_narrowed 58 = .ok (.aload_n 0, 1) := by decide +kernel
theorem dX10_narrowed_59 : decode cX10_narrowed 59 = .ok (.getfield 54, 3) := by decide +kernel
theorem dX10_narrowed_62 : decode cX10_narrowed 62 = .ok (.iload_n 1, 1) := by decide +kernel
theorem dX10_narrowed_63 : decode cX10_narrowed 63 = .ok (.iaload, 1) := by decide +kernel
theorem dX10_narrowed_64 : decode cX10_narrowed 64 = .ok (.if_icmp .ge 74, 3) := by decide +kernel
theorem dX10_narrowed_67 : decode cX10_narrowed 67 = .ok (.iload_n 3, 1) := by decide +kernel
theorem dX10_narrowed_68 : decode cX10_narrowed 68 = .ok (.aload_n 0, 1) := by decide +kernel
theorem dX10_narrowed_69 : decode cX10_narrowed 69 = .ok (.getfield 54, 3) := by decide +kernel
theorem dX10_narrowed_72 : decode cX10_narrowed 72 = .ok (.iload_n 1, 1) := by decide +kernel
theorem dX10_narrowed_73 : decode cX10_narrowed 73 = .ok (.iaload, 1) := by decide +kernel
theorem dX10_narrowed_74 : decode cX10_narrowed 74 = .ok (.iload 8, 2) := by decide +kernel
theorem dX10_narrowed_76 : decode cX10_narrowed 76 = .ok (.invokestatic 346, 3) := by decide +kernel
theorem dX10_narrowed_79 : decode cX10_narrowed 79 = .ok (.iconst 1, 1) := by decide +kernel
theorem dX10_narrowed_80 : decode cX10_narrowed 80 = .ok (.iload_n 2, 1) := by decide +kernel
theorem dX10_narrowed_81 : decode cX10_narrowed 81 = .ok (.iadd, 1) := by decide +kernel
theorem dX10_narrowed_82 : decode cX10_narrowed 82 = .ok (.if_icmp .ne 50, 3) := by decide +kernel
theorem dX10_narrowed_85 : decode cX10_narrowed 85 = .ok (.iload 7, 2) := by decide +kernel
theorem dX10_narrowed_87 : decode cX10_narrowed 87 = .ok (.ifCond .eq 42, 3) := by decide +kernel
theorem dX10_narrowed_90 : decode cX10_narrowed 90 = .ok (.aload_n 0, 1) := by decide +kernel
theorem dX10_narrowed_91 : decode cX10_narrowed 91 = .ok (.iload 6, 2) := by decide +kernel
theorem dX10_narrowed_93 : decode cX10_narrowed 93 = .ok (.aload_n 0, 1) := by decide +kernel
theorem dX10_narrowed_94 : decode cX10_narrowed 94 = .ok (.getfield 66, 3) := by decide +kernel
theorem dX10_narrowed_97 : decode cX10_narrowed 97 = .ok (.bipush 6, 2) := by decide +kernel
theorem dX10_narrowed_99 : decode cX10_narrowed 99 = .ok (.iload_n 1, 1) := by decide +kernel
theorem dX10_narrowed_100 : decode cX10_narrowed 100 = .ok (.imul, 1) := by decide +kernel
theorem dX10_narrowed_101 : decode cX10_narrowed 101 = .ok (.iload 8, 2) := by decide +kernel
theorem dX10_narrowed_103 : decode cX10_narrowed 103 = .ok (.iadd, 1) := by decide +kernel
theorem dX10_narrowed_104 : decode cX10_narrowed 104 = .ok (.iaload, 1) := by decide +kernel
theorem dX10_narrowed_105 : decode cX10_narrowed 105 = .ok (.aload_n 0, 1) := by decide +kernel
theorem dX10_narrowed_106 : decode cX10_narrowed 106 = .ok (.getfield 100, 3) := by decide +kernel
theorem dX10_narrowed_109 : decode cX10_narrowed 109 = .ok (.bipush 7, 2) := by decide +kernel
theorem dX10_narrowed_111 : decode cX10_narrowed 111 = .ok (.iload_n 1, 1) := by decide +kernel
theorem dX10_narrowed_112 : decode cX10_narrowed 112 = .ok (.imul, 1) := by decide +kernel
theorem dX10_narrowed_113 : decode cX10_narrowed 113 = .ok (.iload 8, 2) := by decide +kernel
theorem dX10_narrowed_115 : decode cX10_narrowed 115 = .ok (.iadd, 1) := by decide +kernel
theorem dX10_narrowed_116 : decode cX10_narrowed 116 = .ok (.iconst 1, 1) := by decide +kernel
theorem dX10_narrowed_117 : decode cX10_narrowed 117 = .ok (.iadd, 1) := by decide +kernel
theorem dX10_narrowed_118 : decode cX10_narrowed 118 = .ok (.iaload, 1) := by decide +kernel
theorem dX10_narrowed_119 : decode cX10_narrowed 119 = .ok (.invokevirtual 350, 3) := by decide +kernel
theorem dX10_narrowed_122 : decode cX10_narrowed 122 = .ok (.ifCond .eq 7, 3) := by decide +kernel
theorem dX10_narrowed_125 : decode cX10_narrowed 125 = .ok (.iconst 1, 1) := by decide +kernel
theorem dX10_narrowed_126 : decode cX10_narrowed 126 = .ok (.goto 4, 3) := by decide +kernel
theorem dX10_narrowed_129 : decode cX10_narrowed 129 = .ok (.iconst 0, 1) := by decide +kernel
theorem dX10_narrowed_130 : decode cX10_narrowed 130 = .ok (.istore 7, 2) := by decide +kernel
theorem dX10_narrowed_132 : decode cX10_narrowed 132 = .ok (.iinc 8 1, 3) := by decide +kernel
theorem dX10_narrowed_135 : decode cX10_narrowed 135 = .ok (.goto (-79), 3) := by decide +kernel
theorem dX10_narrowed_138 : decode cX10_narrowed 138 = .ok (.iload 7, 2) := by decide +kernel
theorem dX10_narrowed_140 : decode cX10_narrowed 140 = .ok (.ifCond .eq 13, 3) := by decide +kernel
theorem dX10_narrowed_143 : decode cX10_narrowed 143 = .ok (.iload 5, 2) := by decide +kernel
theorem dX10_narrowed_145 : decode cX10_narrowed 145 = .ok (.iconst 1, 1) := by decide +kernel
theorem dX10_narrowed_146 : decode cX10_narrowed 146 = .ok (.iload 6, 2) := by decide +kernel
theorem dX10_narrowed_148 : decode cX10_narrowed 148 = .ok (.ishl, 1) := by decide +kernel
theorem dX10_narrowed_149 : decode cX10_narrowed 149 = .ok (.ior, 1) := by decide +kernel
theorem dX10_narrowed_150 : decode cX10_narrowed 150 = .ok (.goto 5, 3) := by decide +kernel
theorem dX10_narrowed_153 : decode cX10_narrowed 153 = .ok (.iload 5, 2) := by decide +kernel
theorem dX10_narrowed_155 : decode cX10_narrowed 155 = .ok (.istore 5, 2) := by decide +kernel
theorem dX10_narrowed_157 : decode cX10_narrowed 157 = .ok (.iinc 6 1, 3) := by decide +kernel
theorem dX10_narrowed_160 : decode cX10_narrowed 160 = .ok (.goto (-154), 3) := by decide +kernel
theorem dX10_narrowed_163 : decode cX10_narrowed 163 = .ok (.iload 5, 2) := by decide +kernel
theorem dX10_narrowed_165 : decode cX10_narrowed 165 = .ok (.ireturn, 1) := by decide +kernel
theorem dX10_worksTold_0 : decode cX10_worksTold 0 = .ok (.iconst 0, 1) := by decide +kernel
theorem dX10_worksTold_1 : decode cX10_worksTold 1 = .ok (.istore_n 1, 1) := by decide +kernel
theorem dX10_worksTold_2 : decode cX10_worksTold 2 = .ok (.iload_n 1, 1) := by decide +kernel
theorem dX10_worksTold_3 : decode cX10_worksTold 3 = .ok (.aload_n 0, 1) := by decide +kernel
theorem dX10_worksTold_4 : decode cX10_worksTold 4 = .ok (.getfield 256, 3) := by decide +kernel
theorem dX10_worksTold_7 : decode cX10_worksTold 7 = .ok (.if_icmp .ge 49, 3) := by decide +kernel
theorem dX10_worksTold_10 : decode cX10_worksTold 10 = .ok (.aload_n 0, 1) := by decide +kernel
theorem dX10_worksTold_11 : decode cX10_worksTold 11 = .ok (.iconst 1, 1) := by decide +kernel
theorem dX10_worksTold_12 : decode cX10_worksTold 12 = .ok (.iload_n 1, 1) := by decide +kernel
theorem dX10_worksTold_13 : decode cX10_worksTold 13 = .ok (.iadd, 1) := by decide +kernel
theorem dX10_worksTold_14 : decode cX10_worksTold 14 = .ok (.aload_n 0, 1) := by decide +kernel
theorem dX10_worksTold_15 : decode cX10_worksTold 15 = .ok (.getfield 69, 3) := by decide +kernel
theorem dX10_worksTold_18 : decode cX10_worksTold 18 = .ok (.iconst 1, 1) := by decide +kernel
theorem dX10_worksTold_19 : decode cX10_worksTold 19 = .ok (.iload_n 1, 1) := by decide +kernel
theorem dX10_worksTold_20 : decode cX10_worksTold 20 = .ok (.iadd, 1) := by decide +kernel
theorem dX10_worksTold_21 : decode cX10_worksTold 21 = .ok (.iaload, 1) := by decide +kernel
theorem dX10_worksTold_22 : decode cX10_worksTold 22 = .ok (.aload_n 0, 1) := by decide +kernel
theorem dX10_worksTold_23 : decode cX10_worksTold 23 = .ok (.getfield 72, 3) := by decide +kernel
theorem dX10_worksTold_26 : decode cX10_worksTold 26 = .ok (.iconst 1, 1) := by decide +kernel
theorem dX10_worksTold_27 : decode cX10_worksTold 27 = .ok (.iload_n 1, 1) := by decide +kernel
theorem dX10_worksTold_28 : decode cX10_worksTold 28 = .ok (.iadd, 1) := by decide +kernel
theorem dX10_worksTold_29 : decode cX10_worksTold 29 = .ok (.iaload, 1) := by decide +kernel
theorem dX10_worksTold_30 : decode cX10_worksTold 30 = .ok (.invokevirtual 353, 3) := by decide +kernel
theorem dX10_worksTold_33 : decode cX10_worksTold 33 = .ok (.aload_n 0, 1) := by decide +kernel
theorem dX10_worksTold_34 : decode cX10_worksTold 34 = .ok (.getfield 103, 3) := by decide +kernel
theorem dX10_worksTold_37 : decode cX10_worksTold 37 = .ok (.iload_n 1, 1) := by decide +kernel
theorem dX10_worksTold_38 : decode cX10_worksTold 38 = .ok (.aload_n 0, 1) := by decide +kernel
theorem dX10_worksTold_39 : decode cX10_worksTold 39 = .ok (.getfield 100, 3) := by decide +kernel
theorem dX10_worksTold_42 : decode cX10_worksTold 42 = .ok (.bipush 7, 2) := by decide +kernel
theorem dX10_worksTold_44 : decode cX10_worksTold 44 = .ok (.iconst 1, 1) := by decide +kernel
theorem dX10_worksTold_45 : decode cX10_worksTold 45 = .ok (.iload_n 1, 1) := by decide +kernel
theorem dX10_worksTold_46 : decode cX10_worksTold 46 = .ok (.iadd, 1) := by decide +kernel
theorem dX10_worksTold_47 : decode cX10_worksTold 47 = .ok (.imul, 1) := by decide +kernel
theorem dX10_worksTold_48 : decode cX10_worksTold 48 = .ok (.iaload, 1) := by decide +kernel
theorem dX10_worksTold_49 : decode cX10_worksTold 49 = .ok (.iastore, 1) := by decide +kernel
theorem dX10_worksTold_50 : decode cX10_worksTold 50 = .ok (.iinc 1 1, 3) := by decide +kernel
theorem dX10_worksTold_53 : decode cX10_worksTold 53 = .ok (.goto (-51), 3) := by decide +kernel
theorem dX10_worksTold_56 : decode cX10_worksTold 56 = .ok (.return_, 1) := by decide +kernel
theorem dX10_worksReading_0 : decode cX10_worksReading 0 = .ok (.aload_n 0, 1) := by decide +kernel
theorem dX10_worksReading_1 : decode cX10_worksReading 1 = .ok (.invokevirtual 357, 3) := by decide +kernel
theorem dX10_worksReading_4 : decode cX10_worksReading 4 = .ok (.aload_n 0, 1) := by decide +kernel
theorem dX10_worksReading_5 : decode cX10_worksReading 5 = .ok (.iconst 0, 1) := by decide +kernel
theorem dX10_worksReading_6 : decode cX10_worksReading 6 = .ok (.aload_n 0, 1) := by decide +kernel
theorem dX10_worksReading_7 : decode cX10_worksReading 7 = .ok (.getfield 75, 3) := by decide +kernel
theorem dX10_worksReading_10 : decode cX10_worksReading 10 = .ok (.iload_n 1, 1) := by decide +kernel
theorem dX10_worksReading_11 : decode cX10_worksReading 11 = .ok (.iaload, 1) := by decide +kernel
theorem dX10_worksReading_12 : decode cX10_worksReading 12 = .ok (.aload_n 0, 1) := by decide +kernel
theorem dX10_worksReading_13 : decode cX10_worksReading 13 = .ok (.getfield 180, 3) := by decide +kernel
theorem dX10_worksReading_16 : decode cX10_worksReading 16 = .ok (.invokevirtual 353, 3) := by decide +kernel
theorem dX10_worksReading_19 : decode cX10_worksReading 19 = .ok (.return_, 1) := by decide +kernel
theorem dX10_lowest_0 : decode cX10_lowest 0 = .ok (.iconst 0, 1) := by decide +kernel
theorem dX10_lowest_1 : decode cX10_lowest 1 = .ok (.istore_n 1, 1) := by decide +kernel
theorem dX10_lowest_2 : decode cX10_lowest 2 = .ok (.iload_n 0, 1) := by decide +kernel
theorem dX10_lowest_3 : decode cX10_lowest 3 = .ok (.iload_n 1, 1) := by decide +kernel
theorem dX10_lowest_4 : decode cX10_lowest 4 = .ok (.ishr, 1) := by decide +kernel
theorem dX10_lowest_5 : decode cX10_lowest 5 = .ok (.iconst 1, 1) := by decide +kernel
theorem dX10_lowest_6 : decode cX10_lowest 6 = .ok (.iand, 1) := by decide +kernel
theorem dX10_lowest_7 : decode cX10_lowest 7 = .ok (.ifCond .ne 10, 3) := by decide +kernel
theorem dX10_lowest_10 : decode cX10_lowest 10 = .ok (.iload_n 1, 1) := by decide +kernel
theorem dX10_lowest_11 : decode cX10_lowest 11 = .ok (.iconst 1, 1) := by decide +kernel
theorem dX10_lowest_12 : decode cX10_lowest 12 = .ok (.iadd, 1) := by decide +kernel
theorem dX10_lowest_13 : decode cX10_lowest 13 = .ok (.istore_n 1, 1) := by decide +kernel
theorem dX10_lowest_14 : decode cX10_lowest 14 = .ok (.goto (-12), 3) := by decide +kernel
theorem dX10_lowest_17 : decode cX10_lowest 17 = .ok (.iload_n 1, 1) := by decide +kernel
theorem dX10_lowest_18 : decode cX10_lowest 18 = .ok (.ireturn, 1) := by decide +kernel
theorem dX10_bits_0 : decode cX10_bits 0 = .ok (.iconst 0, 1) := by decide +kernel
theorem dX10_bits_1 : decode cX10_bits 1 = .ok (.istore_n 1, 1) := by decide +kernel
theorem dX10_bits_2 : decode cX10_bits 2 = .ok (.iconst 0, 1) := by decide +kernel
theorem dX10_bits_3 : decode cX10_bits 3 = .ok (.istore_n 2, 1) := by decide +kernel
theorem dX10_bits_4 : decode cX10_bits 4 = .ok (.iload_n 2, 1) := by decide +kernel
theorem dX10_bits_5 : decode cX10_bits 5 = .ok (.bipush 16, 2) := by decide +kernel
theorem dX10_bits_7 : decode cX10_bits 7 = .ok (.if_icmp .ge 17, 3) := by decide +kernel
theorem dX10_bits_10 : decode cX10_bits 10 = .ok (.iload_n 1, 1) := by decide +kernel
theorem dX10_bits_11 : decode cX10_bits 11 = .ok (.iload_n 0, 1) := by decide +kernel
theorem dX10_bits_12 : decode cX10_bits 12 = .ok (.iload_n 2, 1) := by decide +kernel
theorem dX10_bits_13 : decode cX10_bits 13 = .ok (.ishr, 1) := by decide +kernel
theorem dX10_bits_14 : decode cX10_bits 14 = .ok (.iconst 1, 1) := by decide +kernel
theorem dX10_bits_15 : decode cX10_bits 15 = .ok (.iand, 1) := by decide +kernel
theorem dX10_bits_16 : decode cX10_bits 16 = .ok (.iadd, 1) := by decide +kernel
theorem dX10_bits_17 : decode cX10_bits 17 = .ok (.istore_n 1, 1) := by decide +kernel
theorem dX10_bits_18 : decode cX10_bits 18 = .ok (.iinc 2 1, 3) := by decide +kernel
theorem dX10_bits_21 : decode cX10_bits 21 = .ok (.goto (-17), 3) := by decide +kernel
theorem dX10_bits_24 : decode cX10_bits 24 = .ok (.iload_n 1, 1) := by decide +kernel
theorem dX10_bits_25 : decode cX10_bits 25 = .ok (.ireturn, 1) := by decide +kernel
theorem dX10_placeOnward_0 : decode cX10_placeOnward 0 = .ok (.iconst 0, 1) := by decide +kernel
theorem dX10_placeOnward_1 : decode cX10_placeOnward 1 = .ok (.istore_n 2, 1) := by decide +kernel
theorem dX10_placeOnward_2 : decode cX10_placeOnward 2 = .ok (.iload_n 2, 1) := by decide +kernel
theorem dX10_placeOnward_3 : decode cX10_placeOnward 3 = .ok (.aload_n 0, 1) := by decide +kernel
theorem dX10_placeOnward_4 : decode cX10_placeOnward 4 = .ok (.getfield 54, 3) := by decide +kernel
theorem dX10_placeOnward_7 : decode cX10_placeOnward 7 = .ok (.iconst 0, 1) := by decide +kernel
theorem dX10_placeOnward_8 : decode cX10_placeOnward 8 = .ok (.iaload, 1) := by decide +kernel
theorem dX10_placeOnward_9 : decode cX10_placeOnward 9 = .ok (.if_icmp .ge 30, 3) := by decide +kernel
theorem dX10_placeOnward_12 : decode cX10_placeOnward 12 = .ok (.aload_n 0, 1) := by decide +kernel
theorem dX10_placeOnward_13 : decode cX10_placeOnward 13 = .ok (.getfield 75, 3) := by decide +kernel
theorem dX10_placeOnward_16 : decode cX10_placeOnward 16 = .ok (.iload_n 1, 1) := by decide +kernel
theorem dX10_placeOnward_17 : decode cX10_placeOnward 17 = .ok (.iaload, 1) := by decide +kernel
theorem dX10_placeOnward_18 : decode cX10_placeOnward 18 = .ok (.aload_n 0, 1) := by decide +kernel
theorem dX10_placeOnward_19 : decode cX10_placeOnward 19 = .ok (.getfield 54, 3) := by decide +kernel
theorem dX10_placeOnward_22 : decode cX10_placeOnward 22 = .ok (.iconst 0, 1) := by decide +kernel
theorem dX10_placeOnward_23 : decode cX10_placeOnward 23 = .ok (.iaload, 1) := by decide +kernel
theorem dX10_placeOnward_24 : decode cX10_placeOnward 24 = .ok (.iload_n 2, 1) := by decide +kernel
theorem dX10_placeOnward_25 : decode cX10_placeOnward 25 = .ok (.invokestatic 346, 3) := by decide +kernel
theorem dX10_placeOnward_28 : decode cX10_placeOnward 28 = .ok (.ifCond .ne 5, 3) := by decide +kernel
theorem dX10_placeOnward_31 : decode cX10_placeOnward 31 = .ok (.iload_n 2, 1) := by decide +kernel
theorem dX10_placeOnward_32 : decode cX10_placeOnward 32 = .ok (.ireturn, 1) := by decide +kernel
theorem dX10_placeOnward_33 : decode cX10_placeOnward 33 = .ok (.iinc 2 1, 3) := by decide +kernel
theorem dX10_placeOnward_36 : decode cX10_placeOnward 36 = .ok (.goto (-34), 3) := by decide +kernel
theorem dX10_placeOnward_39 : decode cX10_placeOnward 39 = .ok (.iconst (-1), 1) := by decide +kernel
theorem dX10_placeOnward_40 : decode cX10_placeOnward 40 = .ok (.ireturn, 1) := by decide +kernel
theorem dX10_standsOver_0 : decode cX10_standsOver 0 = .ok (.aload_n 0, 1) := by decide +kernel
theorem dX10_standsOver_1 : decode cX10_standsOver 1 = .ok (.getfield 19, 3) := by decide +kernel
theorem dX10_standsOver_4 : decode cX10_standsOver 4 = .ok (.iload_n 1, 1) := by decide +kernel
theorem dX10_standsOver_5 : decode cX10_standsOver 5 = .ok (.iaload, 1) := by decide +kernel
theorem dX10_standsOver_6 : decode cX10_standsOver 6 = .ok (.istore_n 3, 1) := by decide +kernel
theorem dX10_standsOver_7 : decode cX10_standsOver 7 = .ok (.iload_n 3, 1) := by decide +kernel
theorem dX10_standsOver_8 : decode cX10_standsOver 8 = .ok (.bipush 16, 2) := by decide +kernel
theorem dX10_standsOver_10 : decode cX10_standsOver 10 = .ok (.if_icmp .ge 20, 3) := by decide +kernel
theorem dX10_standsOver_13 : decode cX10_standsOver 13 = .ok (.iload_n 3, 1) := by decide +kernel
theorem dX10_standsOver_14 : decode cX10_standsOver 14 = .ok (.iload_n 2, 1) := by decide +kernel
theorem dX10_standsOver_15 : decode cX10_standsOver 15 = .ok (.if_icmp .ne 5, 3) := by decide +kernel
theorem dX10_standsOver_18 : decode cX10_standsOver 18 = .ok (.iconst 1, 1) := by decide +kernel
theorem dX10_standsOver_19 : decode cX10_standsOver 19 = .ok (.ireturn, 1) := by decide +kernel
theorem dX10_standsOver_20 : decode cX10_standsOver 20 = .ok (.aload_n 0, 1) := by decide +kernel
theorem dX10_standsOver_21 : decode cX10_standsOver 21 = .ok (.getfield 19, 3) := by decide +kernel
theorem dX10_standsOver_24 : decode cX10_standsOver 24 = .ok (.iload_n 3, 1) := by decide +kernel
theorem dX10_standsOver_25 : decode cX10_standsOver 25 = .ok (.iaload, 1) := by decide +kernel
theorem dX10_standsOver_26 : decode cX10_standsOver 26 = .ok (.istore_n 3, 1) := by decide +kernel
theorem dX10_standsOver_27 : decode cX10_standsOver 27 = .ok (.goto (-20), 3) := by decide +kernel
theorem dX10_standsOver_30 : decode cX10_standsOver 30 = .ok (.iconst 0, 1) := by decide +kernel
theorem dX10_standsOver_31 : decode cX10_standsOver 31 = .ok (.ireturn, 1) := by decide +kernel
theorem dX10_toMove_0 : decode cX10_toMove 0 = .ok (.aload_n 0, 1) := by decide +kernel
theorem dX10_toMove_1 : decode cX10_toMove 1 = .ok (.getfield 57, 3) := by decide +kernel
theorem dX10_toMove_4 : decode cX10_toMove 4 = .ok (.iconst 0, 1) := by decide +kernel
theorem dX10_toMove_5 : decode cX10_toMove 5 = .ok (.iaload, 1) := by decide +kernel
theorem dX10_toMove_6 : decode cX10_toMove 6 = .ok (.iconst 3, 1) := by decide +kernel
theorem dX10_toMove_7 : decode cX10_toMove 7 = .ok (.if_icmp .ne 20, 3) := by decide +kernel
theorem dX10_toMove_10 : decode cX10_toMove 10 = .ok (.aload_n 0, 1) := by decide +kernel
theorem dX10_toMove_11 : decode cX10_toMove 11 = .ok (.getfield 100, 3) := by decide +kernel
theorem dX10_toMove_14 : decode cX10_toMove 14 = .ok (.iconst 0, 1) := by decide +kernel
theorem dX10_toMove_15 : decode cX10_toMove 15 = .ok (.iaload, 1) := by decide +kernel
theorem dX10_toMove_16 : decode cX10_toMove 16 = .ok (.aload_n 0, 1) := by decide +kernel
theorem dX10_toMove_17 : decode cX10_toMove 17 = .ok (.iconst 2, 1) := by decide +kernel
theorem dX10_toMove_18 : decode cX10_toMove 18 = .ok (.invokevirtual 329, 3) := by decide +kernel
theorem dX10_toMove_21 : decode cX10_toMove 21 = .ok (.iconst (-1), 1) := by decide +kernel
theorem dX10_toMove_22 : decode cX10_toMove 22 = .ok (.ixor, 1) := by decide +kernel
theorem dX10_toMove_23 : decode cX10_toMove 23 = .ok (.iand, 1) := by decide +kernel
theorem dX10_toMove_24 : decode cX10_toMove 24 = .ok (.goto 9, 3) := by decide +kernel
theorem dX10_toMove_27 : decode cX10_toMove 27 = .ok (.aload_n 0, 1) := by decide +kernel
theorem dX10_toMove_28 : decode cX10_toMove 28 = .ok (.getfield 100, 3) := by decide +kernel
theorem dX10_toMove_31 : decode cX10_toMove 31 = .ok (.iconst 0, 1) := by decide +kernel
theorem dX10_toMove_32 : decode cX10_toMove 32 = .ok (.iaload, 1) := by decide +kernel
theorem dX10_toMove_33 : decode cX10_toMove 33 = .ok (.istore_n 1, 1) := by decide +kernel
theorem dX10_toMove_34 : decode cX10_toMove 34 = .ok (.iload_n 1, 1) := by decide +kernel
theorem dX10_toMove_35 : decode cX10_toMove 35 = .ok (.ifCond .ne 15, 3) := by decide +kernel
theorem dX10_toMove_38 : decode cX10_toMove 38 = .ok (.aload_n 0, 1) := by decide +kernel
theorem dX10_toMove_39 : decode cX10_toMove 39 = .ok (.getfield 100, 3) := by decide +kernel
theorem dX10_toMove_42 : decode cX10_toMove 42 = .ok (.iconst 0, 1) := by decide +kernel
theorem dX10_toMove_43 : decode cX10_toMove 43 = .ok (.iaload, 1) := by decide +kernel
theorem dX10_toMove_44 : decode cX10_toMove 44 = .ok (.invokestatic 360, 3) := by decide +kernel
theorem dX10_toMove_47 : decode cX10_toMove 47 = .ok (.goto 7, 3) := by decide +kernel
theorem dX10_toMove_50 : decode cX10_toMove 50 = .ok (.iload_n 1, 1) := by decide +kernel
theorem dX10_toMove_51 : decode cX10_toMove 51 = .ok (.invokestatic 360, 3) := by decide +kernel
theorem dX10_toMove_54 : decode cX10_toMove 54 = .ok (.ireturn, 1) := by decide +kernel
theorem dX10_willDo_0 : decode cX10_willDo 0 = .ok (.iload_n 1, 1) := by decide +kernel
theorem dX10_willDo_1 : decode cX10_willDo 1 = .ok (.aload_n 0, 1) := by decide +kernel
theorem dX10_willDo_2 : decode cX10_willDo 2 = .ok (.getfield 363, 3) := by decide +kernel
theorem dX10_willDo_5 : decode cX10_willDo 5 = .ok (.if_icmp .eq 40, 3) := by decide +kernel
theorem dX10_willDo_8 : decode cX10_willDo 8 = .ok (.aload_n 0, 1) := by decide +kernel
theorem dX10_willDo_9 : decode cX10_willDo 9 = .ok (.iload_n 1, 1) := by decide +kernel
theorem dX10_willDo_10 : decode cX10_willDo 10 = .ok (.aload_n 0, 1) := by decide +kernel
theorem dX10_willDo_11 : decode cX10_willDo 11 = .ok (.getfield 363, 3) := by decide +kernel
theorem dX10_willDo_14 : decode cX10_willDo 14 = .ok (.invokevirtual 366, 3) := by decide +kernel
theorem dX10_willDo_17 : decode cX10_willDo 17 = .ok (.ifCond .ne 28, 3) := by decide +kernel
theorem dX10_willDo_20 : decode cX10_willDo 20 = .ok (.aload_n 0, 1) := by decide +kernel
theorem dX10_willDo_21 : decode cX10_willDo 21 = .ok (.getfield 7, 3) := by decide +kernel
theorem dX10_willDo_24 : decode cX10_willDo 24 = .ok (.iload_n 1, 1) := by decide +kernel
theorem dX10_willDo_25 : decode cX10_willDo 25 = .ok (.iaload, 1) := by decide +kernel
theorem dX10_willDo_26 : decode cX10_willDo 26 = .ok (.aload_n 0, 1) := by decide +kernel
theorem dX10_willDo_27 : decode cX10_willDo 27 = .ok (.getfield 369, 3) := by decide +kernel
theorem dX10_willDo_30 : decode cX10_willDo 30 = .ok (.ifCond .ne 7, 3) := by decide +kernel
theorem dX10_willDo_33 : decode cX10_willDo 33 = .ok (.iconst 0, 1) := by decide +kernel
theorem dX10_willDo_34 : decode cX10_willDo 34 = .ok (.goto 4, 3) := by decide +kernel
theorem dX10_willDo_37 : decode cX10_willDo 37 = .ok (.iconst 2, 1) := by decide +kernel
theorem dX10_willDo_38 : decode cX10_willDo 38 = .ok (.if_icmp .ne 7, 3) := by decide +kernel
theorem dX10_willDo_41 : decode cX10_willDo 41 = .ok (.iconst 1, 1) := by decide +kernel
theorem dX10_willDo_42 : decode cX10_willDo 42 = .ok (.goto 4, 3) := by decide +kernel
theorem dX10_willDo_45 : decode cX10_willDo 45 = .ok (.iconst 0, 1) := by decide +kernel
theorem dX10_willDo_46 : decode cX10_willDo 46 = .ok (.ireturn, 1) := by decide +kernel
theorem dX10_canDo_0 : decode cX10_canDo 0 = .ok (.aload_n 0, 1) := by decide +kernel
theorem dX10_canDo_1 : decode cX10_canDo 1 = .ok (.iconst (-1), 1) := by decide +kernel
theorem dX10_canDo_2 : decode cX10_canDo 2 = .ok (.putfield 363, 3) := by decide +kernel
theorem dX10_canDo_5 : decode cX10_canDo 5 = .ok (.aload_n 0, 1) := by decide +kernel
theorem dX10_canDo_6 : decode cX10_canDo 6 = .ok (.iconst (-1), 1) := by decide +kernel
theorem dX10_canDo_7 : decode cX10_canDo 7 = .ok (.putfield 372, 3) := by decide +kernel
theorem dX10_canDo_10 : decode cX10_canDo 10 = .ok (.aload_n 0, 1) := by decide +kernel
theorem dX10_canDo_11 : decode cX10_canDo 11 = .ok (.iconst (-1), 1) := by decide +kernel
theorem dX10_canDo_12 : decode cX10_canDo 12 = .ok (.putfield 369, 3) := by decide +kernel
theorem dX10_canDo_15 : decode cX10_canDo 15 = .ok (.aload_n 0, 1) := by decide +kernel
theorem dX10_canDo_16 : decode cX10_canDo 16 = .ok (.getfield 268, 3) := by decide +kernel
theorem dX10_canDo_19 : decode cX10_canDo 19 = .ok (.iconst 2, 1) := by decide +kernel
theorem dX10_canDo_20 : decode cX10_canDo 20 = .ok (.if_icmp .ne 17, 3) := by decide +kernel
theorem dX10_canDo_23 : decode cX10_canDo 23 = .ok (.aload_n 0, 1) := by decide +kernel
theorem dX10_canDo_24 : decode cX10_canDo 24 = .ok (.invokevirtual 195, 3) := by decide +kernel
theorem dX10_canDo_27 : decode cX10_canDo 27 = .ok (.iconst (-1), 1) := by decide +kernel
theorem dX10_canDo_28 : decode cX10_canDo 28 = .ok (.if_icmp .eq 7, 3) := by decide +kernel
theorem dX10_canDo_31 : decode cX10_canDo 31 = .ok (.iconst 1, 1) := by decide +kernel
theorem dX10_canDo_32 : decode cX10_canDo 32 = .ok (.goto 4, 3) := by decide +kernel
theorem dX10_canDo_35 : decode cX10_canDo 35 = .ok (.iconst 0, 1) := by decide +kernel
theorem dX10_canDo_36 : decode cX10_canDo 36 = .ok (.ireturn, 1) := by decide +kernel
theorem dX10_canDo_37 : decode cX10_canDo 37 = .ok (.aload_n 0, 1) := by decide +kernel
theorem dX10_canDo_38 : decode cX10_canDo 38 = .ok (.getfield 268, 3) := by decide +kernel
theorem dX10_canDo_41 : decode cX10_canDo 41 = .ok (.ifCond .eq 13, 3) := by decide +kernel
theorem dX10_canDo_44 : decode cX10_canDo 44 = .ok (.aload_n 0, 1) := by decide +kernel
theorem dX10_canDo_45 : decode cX10_canDo 45 = .ok (.getfield 268, 3) := by decide +kernel
theorem dX10_canDo_48 : decode cX10_canDo 48 = .ok (.iconst 1, 1) := by decide +kernel
theorem dX10_canDo_49 : decode cX10_canDo 49 = .ok (.if_icmp .eq 5, 3) := by decide +kernel
theorem dX10_canDo_52 : decode cX10_canDo 52 = .ok (.iconst 1, 1) := by decide +kernel
theorem dX10_canDo_53 : decode cX10_canDo 53 = .ok (.ireturn, 1) := by decide +kernel
theorem dX10_canDo_54 : decode cX10_canDo 54 = .ok (.aload_n 0, 1) := by decide +kernel
theorem dX10_canDo_55 : decode cX10_canDo 55 = .ok (.aload_n 0, 1) := by decide +kernel
theorem dX10_canDo_56 : decode cX10_canDo 56 = .ok (.invokevirtual 375, 3) := by decide +kernel
theorem dX10_canDo_59 : decode cX10_canDo 59 = .ok (.putfield 363, 3) := by decide +kernel
theorem dX10_canDo_62 : decode cX10_canDo 62 = .ok (.aload_n 0, 1) := by decide +kernel
theorem dX10_canDo_63 : decode cX10_canDo 63 = .ok (.getfield 7, 3) := by decide +kernel
theorem dX10_canDo_66 : decode cX10_canDo 66 = .ok (.aload_n 0, 1) := by decide +kernel
theorem dX10_canDo_67 : decode cX10_canDo 67 = .ok (.getfield 363, 3) := by decide +kernel
theorem dX10_canDo_70 : decode cX10_canDo 70 = .ok (.iaload, 1) := by decide +kernel
theorem dX10_canDo_71 : decode cX10_canDo 71 = .ok (.iconst 2, 1) := by decide +kernel
theorem dX10_canDo_72 : decode cX10_canDo 72 = .ok (.if_icmp .ne 5, 3) := by decide +kernel
theorem dX10_canDo_75 : decode cX10_canDo 75 = .ok (.iconst 0, 1) := by decide +kernel
theorem dX10_canDo_76 : decode cX10_canDo 76 = .ok (.ireturn, 1) := by decide +kernel
theorem dX10_canDo_77 : decode cX10_canDo 77 = .ok (.aload_n 0, 1) := by decide +kernel
theorem dX10_canDo_78 : decode cX10_canDo 78 = .ok (.iload_n 1, 1) := by decide +kernel
theorem dX10_canDo_79 : decode cX10_canDo 79 = .ok (.invokevirtual 378, 3) := by decide +kernel
theorem dX10_canDo_82 : decode cX10_canDo 82 = .ok (.istore_n 2, 1) := by decide +kernel
theorem dX10_canDo_83 : decode cX10_canDo 83 = .ok (.aload_n 0, 1) := by decide +kernel
theorem dX10_canDo_84 : decode cX10_canDo 84 = .ok (.getfield 268, 3) := by decide +kernel
theorem dX10_canDo_87 : decode cX10_canDo 87 = .ok (.iconst 1, 1) := by decide +kernel
theorem dX10_canDo_88 : decode cX10_canDo 88 = .ok (.if_icmp .eq 8, 3) := by decide +kernel
theorem dX10_canDo_91 : decode cX10_canDo 91 = .ok (.iload_n 2, 1) := by decide +kernel
theorem dX10_canDo_92 : decode cX10_canDo 92 = .ok (.iconst (-1), 1) := by decide +kernel
theorem dX10_canDo_93 : decode cX10_canDo 93 = .ok (.if_icmp .ne 5, 3) := by decide +kernel
theorem dX10_canDo_96 : decode cX10_canDo 96 = .ok (.iconst 1, 1) := by decide +kernel
theorem dX10_canDo_97 : decode cX10_canDo 97 = .ok (.ireturn, 1) := by decide +kernel
theorem dX10_canDo_98 : decode cX10_canDo 98 = .ok (.aload_n 0, 1) := by decide +kernel
theorem dX10_canDo_99 : decode cX10_canDo 99 = .ok (.aload_n 0, 1) := by decide +kernel
theorem dX10_canDo_100 : decode cX10_canDo 100 = .ok (.getfield 66, 3) := by decide +kernel
theorem dX10_canDo_103 : decode cX10_canDo 103 = .ok (.iload_n 2, 1) := by decide +kernel
theorem dX10_canDo_104 : decode cX10_canDo 104 = .ok (.iaload, 1) := by decide +kernel
theorem dX10_canDo_105 : decode cX10_canDo 105 = .ok (.putfield 369, 3) := by decide +kernel
theorem dX10_canDo_108 : decode cX10_canDo 108 = .ok (.aload_n 0, 1) := by decide +kernel
theorem dX10_canDo_109 : decode cX10_canDo 109 = .ok (.getfield 100, 3) := by decide +kernel
theorem dX10_canDo_112 : decode cX10_canDo 112 = .ok (.iload_n 2, 1) := by decide +kernel
theorem dX10_canDo_113 : decode cX10_canDo 113 = .ok (.iconst 1, 1) := by decide +kernel
theorem dX10_canDo_114 : decode cX10_canDo 114 = .ok (.iadd, 1) := by decide +kernel
theorem dX10_canDo_115 : decode cX10_canDo 115 = .ok (.iaload, 1) := by decide +kernel
theorem dX10_canDo_116 : decode cX10_canDo 116 = .ok (.istore_n 3, 1) := by decide +kernel
theorem dX10_canDo_117 : decode cX10_canDo 117 = .ok (.iconst 0, 1) := by decide +kernel
theorem dX10_canDo_118 : decode cX10_canDo 118 = .ok (.istore 4, 2) := by decide +kernel
theorem dX10_canDo_120 : decode cX10_canDo 120 = .ok (.iload 4, 2) := by decide +kernel
theorem dX10_canDo_122 : decode cX10_canDo 122 = .ok (.aload_n 0, 1) := by decide +kernel
theorem dX10_canDo_123 : decode cX10_canDo 123 = .ok (.getfield 184, 3) := by decide +kernel
theorem dX10_canDo_126 : decode cX10_canDo 126 = .ok (.if_icmp .ge 38, 3) := by decide +kernel
theorem dX10_canDo_129 : decode cX10_canDo 129 = .ok (.iload_n 3, 1) := by decide +kernel
theorem dX10_canDo_130 : decode cX10_canDo 130 = .ok (.iload 4, 2) := by decide +kernel
theorem dX10_canDo_132 : decode cX10_canDo 132 = .ok (.ishr, 1) := by decide +kernel
theorem dX10_canDo_133 : decode cX10_canDo 133 = .ok (.iconst 1, 1) := by decide +kernel
theorem dX10_canDo_134 : decode cX10_canDo 134 = .ok (.iand, 1) := by decide +kernel
theorem dX10_canDo_135 : decode cX10_canDo 135 = .ok (.ifCond .eq 23, 3) := by decide +kernel
theorem dX10_canDo_138 : decode cX10_canDo 138 = .ok (.aload_n 0, 1) := by decide +kernel
theorem dX10_canDo_139 : decode cX10_canDo 139 = .ok (.iload 4, 2) := by decide +kernel
theorem dX10_canDo_141 : decode cX10_canDo 141 = .ok (.invokevirtual 381, 3) := by decide +kernel
theorem dX10_canDo_144 : decode cX10_canDo 144 = .ok (.ifCond .ne 6, 3) := by decide +kernel
theorem dX10_canDo_147 : decode cX10_canDo 147 = .ok (.goto 11, 3) := by decide +kernel
theorem dX10_canDo_150 : decode cX10_canDo 150 = .ok (.aload_n 0, 1) := by decide +kernel
theorem dX10_canDo_151 : decode cX10_canDo 151 = .ok (.iload 4, 2) := by decide +kernel
theorem dX10_canDo_153 : decode cX10_canDo 153 = .ok (.putfield 372, 3) := by decide +kernel
theorem dX10_canDo_156 : decode cX10_canDo 156 = .ok (.iconst 1, 1) := by decide +kernel
theorem dX10_canDo_157 : decode cX10_canDo 157 = .ok (.ireturn, 1) := by decide +kernel
theorem dX10_canDo_158 : decode cX10_canDo 158 = .ok (.iinc 4 1, 3) := by decide +kernel
theorem dX10_canDo_161 : decode cX10_canDo 161 = .ok (.goto (-41), 3) := by decide +kernel
theorem dX10_canDo_164 : decode cX10_canDo 164 = .ok (.iconst 0, 1) := by decide +kernel
theorem dX10_canDo_165 : decode cX10_canDo 165 = .ok (.ireturn, 1) := by decide +kernel
theorem dX10_troubleOf_0 : decode cX10_troubleOf 0 = .ok (.aload_n 0, 1) := by decide +kernel
theorem dX10_troubleOf_1 : decode cX10_troubleOf 1 = .ok (.iload_n 1, 1) := by decide +kernel
theorem dX10_troubleOf_2 : decode cX10_troubleOf 2 = .ok (.invokevirtual 384, 3) := by decide +kernel
theorem dX10_troubleOf_5 : decode cX10_troubleOf 5 = .ok (.iconst 0, 1) := by decide +kernel
theorem dX10_troubleOf_6 : decode cX10_troubleOf 6 = .ok (.istore_n 2, 1) := by decide +kernel
theorem dX10_troubleOf_7 : decode cX10_troubleOf 7 = .ok (.iload_n 2, 1) := by decide +kernel
theorem dX10_troubleOf_8 : decode cX10_troubleOf 8 = .ok (.aload_n 0, 1) := by decide +kernel
theorem dX10_troubleOf_9 : decode cX10_troubleOf 9 = .ok (.getfield 51, 3) := by decide +kernel
theorem dX10_troubleOf_12 : decode cX10_troubleOf 12 = .ok (.iconst 0, 1) := by decide +kernel
theorem dX10_troubleOf_13 : decode cX10_troubleOf 13 = .ok (.iaload, 1) := by decide +kernel
theorem dX10_troubleOf_14 : decode cX10_troubleOf 14 = .ok (.if_icmp .ge 81, 3) := by decide +kernel
theorem dX10_troubleOf_17 : decode cX10_troubleOf 17 = .ok (.aload_n 0, 1) := by decide +kernel
theorem dX10_troubleOf_18 : decode cX10_troubleOf 18 = .ok (.iload_n 2, 1) := by decide +kernel
theorem dX10_troubleOf_19 : decode cX10_troubleOf 19 = .ok (.putfield 387, 3) := by decide +kernel
theorem dX10_troubleOf_22 : decode cX10_troubleOf 22 = .ok (.aload_n 0, 1) := by decide +kernel
theorem dX10_troubleOf_23 : decode cX10_troubleOf 23 = .ok (.getfield 100, 3) := by decide +kernel
theorem dX10_troubleOf_26 : decode cX10_troubleOf 26 = .ok (.iload_n 2, 1) := by decide +kernel
theorem dX10_troubleOf_27 : decode cX10_troubleOf 27 = .ok (.iaload, 1) := by decide +kernel
theorem dX10_troubleOf_28 : decode cX10_troubleOf 28 = .ok (.invokestatic 390, 3) := by decide +kernel
theorem dX10_troubleOf_31 : decode cX10_troubleOf 31 = .ok (.istore_n 3, 1) := by decide +kernel
theorem dX10_troubleOf_32 : decode cX10_troubleOf 32 = .ok (.aload_n 0, 1) := by decide +kernel
theorem dX10_troubleOf_33 : decode cX10_troubleOf 33 = .ok (.getfield 57, 3) := by decide +kernel
theorem dX10_troubleOf_36 : decode cX10_troubleOf 36 = .ok (.iload_n 2, 1) := by decide +kernel
theorem dX10_troubleOf_37 : decode cX10_troubleOf 37 = .ok (.iaload, 1) := by decide +kernel
theorem dX10_troubleOf_38 : decode cX10_troubleOf 38 = .ok (.iconst 2, 1) := by decide +kernel
theorem dX10_troubleOf_39 : decode cX10_troubleOf 39 = .ok (.if_icmp .ne 18, 3) := by decide +kernel
theorem dX10_troubleOf_42 : decode cX10_troubleOf 42 = .ok (.iload_n 3, 1) := by decide +kernel
theorem dX10_troubleOf_43 : decode cX10_troubleOf 43 = .ok (.iconst 1, 1) := by decide +kernel
theorem dX10_troubleOf_44 : decode cX10_troubleOf 44 = .ok (.if_icmp .eq 13, 3) := by decide +kernel
theorem dX10_troubleOf_47 : decode cX10_troubleOf 47 = .ok (.iload_n 3, 1) := by decide +kernel
theorem dX10_troubleOf_48 : decode cX10_troubleOf 48 = .ok (.ifCond .ne 7, 3) := by decide +kernel
theorem dX10_troubleOf_51 : decode cX10_troubleOf 51 = .ok (.iconst 1, 1) := by decide +kernel
theorem dX10_troubleOf_52 : decode cX10_troubleOf 52 = .ok (.goto 4, 3) := by decide +kernel
theorem dX10_troubleOf_55 : decode cX10_troubleOf 55 = .ok (.iconst 2, 1) := by decide +kernel
theorem dX10_troubleOf_56 : decode cX10_troubleOf 56 = .ok (.ireturn, 1) := by decide +kernel
theorem dX10_troubleOf_57 : decode cX10_troubleOf 57 = .ok (.aload_n 0, 1) := by decide +kernel
theorem dX10_troubleOf_58 : decode cX10_troubleOf 58 = .ok (.getfield 57, 3) := by decide +kernel
theorem dX10_troubleOf_61 : decode cX10_troubleOf 61 = .ok (.iload_n 2, 1) := by decide +kernel
theorem dX10_troubleOf_62 : decode cX10_troubleOf 62 = .ok (.iaload, 1) := by decide +kernel
theorem dX10_troubleOf_63 : decode cX10_troubleOf 63 = .ok (.iconst 3, 1) := by decide +kernel
theorem dX10_troubleOf_64 : decode cX10_troubleOf 64 = .ok (.if_icmp .ne 9, 3) := by decide +kernel
theorem dX10_troubleOf_67 : decode cX10_troubleOf 67 = .ok (.iload_n 3, 1) := by decide +kernel
theorem dX10_troubleOf_68 : decode cX10_troubleOf 68 = .ok (.ifCond .ne 5, 3) := by decide +kernel
theorem dX10_troubleOf_71 : decode cX10_troubleOf 71 = .ok (.iconst 3, 1) := by decide +kernel
theorem dX10_troubleOf_72 : decode cX10_troubleOf 72 = .ok (.ireturn, 1) := by decide +kernel
theorem dX10_troubleOf_73 : decode cX10_troubleOf 73 = .ok (.aload_n 0, 1) := by decide +kernel
theorem dX10_troubleOf_74 : decode cX10_troubleOf 74 = .ok (.getfield 57, 3) := by decide +kernel
theorem dX10_troubleOf_77 : decode cX10_troubleOf 77 = .ok (.iload_n 2, 1) := by decide +kernel
theorem dX10_troubleOf_78 : decode cX10_troubleOf 78 = .ok (.iaload, 1) := by decide +kernel
theorem dX10_troubleOf_79 : decode cX10_troubleOf 79 = .ok (.iconst 1, 1) := by decide +kernel
theorem dX10_troubleOf_80 : decode cX10_troubleOf 80 = .ok (.if_icmp .gt 9, 3) := by decide +kernel
theorem dX10_troubleOf_83 : decode cX10_troubleOf 83 = .ok (.iload_n 3, 1) := by decide +kernel
theorem dX10_troubleOf_84 : decode cX10_troubleOf 84 = .ok (.ifCond .ne 5, 3) := by decide +kernel
theorem dX10_troubleOf_87 : decode cX10_troubleOf 87 = .ok (.iconst 4, 1) := by decide +kernel
theorem dX10_troubleOf_88 : decode cX10_troubleOf 88 = .ok (.ireturn, 1) := by decide +kernel
theorem dX10_troubleOf_89 : decode cX10_troubleOf 89 = .ok (.iinc 2 1, 3) := by decide +kernel
theorem dX10_troubleOf_92 : decode cX10_troubleOf 92 = .ok (.goto (-85), 3) := by decide +kernel
theorem dX10_troubleOf_95 : decode cX10_troubleOf 95 = .ok (.aload_n 0, 1) := by decide +kernel
theorem dX10_troubleOf_96 : decode cX10_troubleOf 96 = .ok (.iconst (-1), 1) := by decide +kernel
theorem dX10_troubleOf_97 : decode cX10_troubleOf 97 = .ok (.putfield 387, 3) := by decide +kernel
theorem dX10_troubleOf_100 : decode cX10_troubleOf 100 = .ok (.aload_n 0, 1) := by decide +kernel
theorem dX10_troubleOf_101 : decode cX10_troubleOf 101 = .ok (.iload_n 1, 1) := by decide +kernel
theorem dX10_troubleOf_102 : decode cX10_troubleOf 102 = .ok (.invokevirtual 393, 3) := by decide +kernel
theorem dX10_troubleOf_105 : decode cX10_troubleOf 105 = .ok (.ifCond .eq 7, 3) := by decide +kernel
theorem dX10_troubleOf_108 : decode cX10_troubleOf 108 = .ok (.iconst 0, 1) := by decide +kernel
theorem dX10_troubleOf_109 : decode cX10_troubleOf 109 = .ok (.goto 4, 3) := by decide +kernel
theorem dX10_troubleOf_112 : decode cX10_troubleOf 112 = .ok (.iconst 5, 1) := by decide +kernel
theorem dX10_troubleOf_113 : decode cX10_troubleOf 113 = .ok (.ireturn, 1) := by decide +kernel
theorem dX10_isThere_0 : decode cX10_isThere 0 = .ok (.aload_n 0, 1) := by decide +kernel
theorem dX10_isThere_1 : decode cX10_isThere 1 = .ok (.iload_n 1, 1) := by decide +kernel
theorem dX10_isThere_2 : decode cX10_isThere 2 = .ok (.invokevirtual 378, 3) := by decide +kernel
theorem dX10_isThere_5 : decode cX10_isThere 5 = .ok (.istore_n 2, 1) := by decide +kernel
theorem dX10_isThere_6 : decode cX10_isThere 6 = .ok (.iconst 0, 1) := by decide +kernel
theorem dX10_isThere_7 : decode cX10_isThere 7 = .ok (.istore_n 3, 1) := by decide +kernel
theorem dX10_isThere_8 : decode cX10_isThere 8 = .ok (.iload_n 3, 1) := by decide +kernel
theorem dX10_isThere_9 : decode cX10_isThere 9 = .ok (.aload_n 0, 1) := by decide +kernel
theorem dX10_isThere_10 : decode cX10_isThere 10 = .ok (.getfield 184, 3) := by decide +kernel
theorem dX10_isThere_13 : decode cX10_isThere 13 = .ok (.if_icmp .ge 47, 3) := by decide +kernel
theorem dX10_isThere_16 : decode cX10_isThere 16 = .ok (.aload_n 0, 1) := by decide +kernel
theorem dX10_isThere_17 : decode cX10_isThere 17 = .ok (.getfield 100, 3) := by decide +kernel
theorem dX10_isThere_20 : decode cX10_isThere 20 = .ok (.iconst 0, 1) := by decide +kernel
theorem dX10_isThere_21 : decode cX10_isThere 21 = .ok (.iaload, 1) := by decide +kernel
theorem dX10_isThere_22 : decode cX10_isThere 22 = .ok (.iload_n 3, 1) := by decide +kernel
theorem dX10_isThere_23 : decode cX10_isThere 23 = .ok (.ishr, 1) := by decide +kernel
theorem dX10_isThere_24 : decode cX10_isThere 24 = .ok (.iconst 1, 1) := by decide +kernel
theorem dX10_isThere_25 : decode cX10_isThere 25 = .ok (.iand, 1) := by decide +kernel
theorem dX10_isThere_26 : decode cX10_isThere 26 = .ok (.iconst 1, 1) := by decide +kernel
theorem dX10_isThere_27 : decode cX10_isThere 27 = .ok (.if_icmp .ne 27, 3) := by decide +kernel
theorem dX10_isThere_30 : decode cX10_isThere 30 = .ok (.aload_n 0, 1) := by decide +kernel
theorem dX10_isThere_31 : decode cX10_isThere 31 = .ok (.iload_n 3, 1) := by decide +kernel
theorem dX10_isThere_32 : decode cX10_isThere 32 = .ok (.aload_n 0, 1) := by decide +kernel
theorem dX10_isThere_33 : decode cX10_isThere 33 = .ok (.getfield 66, 3) := by decide +kernel
theorem dX10_isThere_36 : decode cX10_isThere 36 = .ok (.iload_n 2, 1) := by decide +kernel
theorem dX10_isThere_37 : decode cX10_isThere 37 = .ok (.iaload, 1) := by decide +kernel
theorem dX10_isThere_38 : decode cX10_isThere 38 = .ok (.aload_n 0, 1) := by decide +kernel
theorem dX10_isThere_39 : decode cX10_isThere 39 = .ok (.getfield 100, 3) := by decide +kernel
theorem dX10_isThere_42 : decode cX10_isThere 42 = .ok (.iload_n 2, 1) := by decide +kernel
theorem dX10_isThere_43 : decode cX10_isThere 43 = .ok (.iconst 1, 1) := by decide +kernel
theorem dX10_isThere_44 : decode cX10_isThere 44 = .ok (.iadd, 1) := by decide +kernel
theorem dX10_isThere_45 : decode cX10_isThere 45 = .ok (.iaload, 1) := by decide +kernel
theorem dX10_isThere_46 : decode cX10_isThere 46 = .ok (.invokevirtual 350, 3) := by decide +kernel
theorem dX10_isThere_49 : decode cX10_isThere 49 = .ok (.ifCond .eq 5, 3) := by decide +kernel
theorem dX10_isThere_52 : decode cX10_isThere 52 = .ok (.iconst 1, 1) := by decide +kernel
theorem dX10_isThere_53 : decode cX10_isThere 53 = .ok (.ireturn, 1) := by decide +kernel
theorem dX10_isThere_54 : decode cX10_isThere 54 = .ok (.iinc 3 1, 3) := by decide +kernel
theorem dX10_isThere_57 : decode cX10_isThere 57 = .ok (.goto (-49), 3) := by decide +kernel
theorem dX10_isThere_60 : decode cX10_isThere 60 = .ok (.iconst 0, 1) := by decide +kernel
theorem dX10_isThere_61 : decode cX10_isThere 61 = .ok (.ireturn, 1) := by decide +kernel
theorem dX10_outcome_0 : decode cX10_outcome 0 = .ok (.aload_n 0, 1) := by decide +kernel
theorem dX10_outcome_1 : decode cX10_outcome 1 = .ok (.getfield 268, 3) := by decide +kernel
theorem dX10_outcome_4 : decode cX10_outcome 4 = .ok (.tableswitch 108 0 8 #[52, 80, 108, 85, 91, 101, 108, 101, 101], 52) := by decide +kernel
theorem dX10_outcome_56 : decode cX10_outcome 56 = .ok (.sipush 1000, 3) := by decide +kernel
theorem dX10_outcome_59 : decode cX10_outcome 59 = .ok (.iconst 1, 1) := by decide +kernel
theorem dX10_outcome_60 : decode cX10_outcome 60 = .ok (.aload_n 0, 1) := by decide +kernel
theorem dX10_outcome_61 : decode cX10_outcome 61 = .ok (.getfield 363, 3) := by decide +kernel
theorem dX10_outcome_64 : decode cX10_outcome 64 = .ok (.iadd, 1) := by decide +kernel
theorem dX10_outcome_65 : decode cX10_outcome 65 = .ok (.imul, 1) := by decide +kernel
theorem dX10_outcome_66 : decode cX10_outcome 66 = .ok (.bipush 100, 2) := by decide +kernel
theorem dX10_outcome_68 : decode cX10_outcome 68 = .ok (.iconst 1, 1) := by decide +kernel
theorem dX10_outcome_69 : decode cX10_outcome 69 = .ok (.aload_n 0, 1) := by decide +kernel
theorem dX10_outcome_70 : decode cX10_outcome 70 = .ok (.getfield 369, 3) := by decide +kernel
theorem dX10_outcome_73 : decode cX10_outcome 73 = .ok (.iadd, 1) := by decide +kernel
theorem dX10_outcome_74 : decode cX10_outcome 74 = .ok (.imul, 1) := by decide +kernel
theorem dX10_outcome_75 : decode cX10_outcome 75 = .ok (.iadd, 1) := by decide +kernel
theorem dX10_outcome_76 : decode cX10_outcome 76 = .ok (.iconst 1, 1) := by decide +kernel
theorem dX10_outcome_77 : decode cX10_outcome 77 = .ok (.iadd, 1) := by decide +kernel
theorem dX10_outcome_78 : decode cX10_outcome 78 = .ok (.aload_n 0, 1) := by decide +kernel
theorem dX10_outcome_79 : decode cX10_outcome 79 = .ok (.getfield 372, 3) := by decide +kernel
theorem dX10_outcome_82 : decode cX10_outcome 82 = .ok (.iadd, 1) := by decide +kernel
theorem dX10_outcome_83 : decode cX10_outcome 83 = .ok (.ireturn, 1) := by decide +kernel
theorem dX10_outcome_84 : decode cX10_outcome 84 = .ok (.aload_n 0, 1) := by decide +kernel
theorem dX10_outcome_85 : decode cX10_outcome 85 = .ok (.getfield 363, 3) := by decide +kernel
theorem dX10_outcome_88 : decode cX10_outcome 88 = .ok (.ireturn, 1) := by decide +kernel
theorem dX10_outcome_89 : decode cX10_outcome 89 = .ok (.aload_n 0, 1) := by decide +kernel
theorem dX10_outcome_90 : decode cX10_outcome 90 = .ok (.iload_n 1, 1) := by decide +kernel
theorem dX10_outcome_91 : decode cX10_outcome 91 = .ok (.invokevirtual 396, 3) := by decide +kernel
theorem dX10_outcome_94 : decode cX10_outcome 94 = .ok (.ireturn, 1) := by decide +kernel
theorem dX10_outcome_95 : decode cX10_outcome 95 = .ok (.aload_n 0, 1) := by decide +kernel
theorem dX10_outcome_96 : decode cX10_outcome 96 = .ok (.getfield 100, 3) := by decide +kernel
theorem dX10_outcome_99 : decode cX10_outcome 99 = .ok (.iconst 0, 1) := by decide +kernel
theorem dX10_outcome_100 : decode cX10_outcome 100 = .ok (.iaload, 1) := by decide +kernel
theorem dX10_outcome_101 : decode cX10_outcome 101 = .ok (.invokestatic 390, 3) := by decide +kernel
theorem dX10_outcome_104 : decode cX10_outcome 104 = .ok (.ireturn, 1) := by decide +kernel
theorem dX10_outcome_105 : decode cX10_outcome 105 = .ok (.aload_n 0, 1) := by decide +kernel
theorem dX10_outcome_106 : decode cX10_outcome 106 = .ok (.getfield 100, 3) := by decide +kernel
theorem dX10_outcome_109 : decode cX10_outcome 109 = .ok (.iconst 0, 1) := by decide +kernel
theorem dX10_outcome_110 : decode cX10_outcome 110 = .ok (.iaload, 1) := by decide +kernel
theorem dX10_outcome_111 : decode cX10_outcome 111 = .ok (.ireturn, 1) := by decide +kernel
theorem dX10_outcome_112 : decode cX10_outcome 112 = .ok (.iconst 0, 1) := by decide +kernel
theorem dX10_outcome_113 : decode cX10_outcome 113 = .ok (.ireturn, 1) := by decide +kernel
theorem dX10_takenReading_0 : decode cX10_takenReading 0 = .ok (.bipush (-3), 2) := by decide +kernel
theorem dX10_takenReading_2 : decode cX10_takenReading 2 = .ok (.istore_n 1, 1) := by decide +kernel
theorem dX10_takenReading_3 : decode cX10_takenReading 3 = .ok (.iconst 0, 1) := by decide +kernel
theorem dX10_takenReading_4 : decode cX10_takenReading 4 = .ok (.istore_n 2, 1) := by decide +kernel
theorem dX10_takenReading_5 : decode cX10_takenReading 5 = .ok (.iload_n 2, 1) := by decide +kernel
theorem dX10_takenReading_6 : decode cX10_takenReading 6 = .ok (.aload_n 0, 1) := by decide +kernel
theorem dX10_takenReading_7 : decode cX10_takenReading 7 = .ok (.getfield 323, 3) := by decide +kernel
theorem dX10_takenReading_10 : decode cX10_takenReading 10 = .ok (.if_icmp .ge 58, 3) := by decide +kernel
theorem dX10_takenReading_13 : decode cX10_takenReading 13 = .ok (.aload_n 0, 1) := by decide +kernel
theorem dX10_takenReading_14 : decode cX10_takenReading 14 = .ok (.iload_n 2, 1) := by decide +kernel
theorem dX10_takenReading_15 : decode cX10_takenReading 15 = .ok (.invokevirtual 399, 3) := by decide +kernel
theorem dX10_takenReading_18 : decode cX10_takenReading 18 = .ok (.ifCond .eq 6, 3) := by decide +kernel
theorem dX10_takenReading_21 : decode cX10_takenReading 21 = .ok (.goto 41, 3) := by decide +kernel
theorem dX10_takenReading_24 : decode cX10_takenReading 24 = .ok (.aload_n 0, 1) := by decide +kernel
theorem dX10_takenReading_25 : decode cX10_takenReading 25 = .ok (.iload_n 2, 1) := by decide +kernel
theorem dX10_takenReading_26 : decode cX10_takenReading 26 = .ok (.invokevirtual 402, 3) := by decide +kernel
theorem dX10_takenReading_29 : decode cX10_takenReading 29 = .ok (.istore_n 3, 1) := by decide +kernel
theorem dX10_takenReading_30 : decode cX10_takenReading 30 = .ok (.iload_n 1, 1) := by decide +kernel
theorem dX10_takenReading_31 : decode cX10_takenReading 31 = .ok (.ifCond .lt 14, 3) := by decide +kernel
theorem dX10_takenReading_34 : decode cX10_takenReading 34 = .ok (.iload_n 3, 1) := by decide +kernel
theorem dX10_takenReading_35 : decode cX10_takenReading 35 = .ok (.aload_n 0, 1) := by decide +kernel
theorem dX10_takenReading_36 : decode cX10_takenReading 36 = .ok (.getfield 405, 3) := by decide +kernel
theorem dX10_takenReading_39 : decode cX10_takenReading 39 = .ok (.if_icmp .eq 6, 3) := by decide +kernel
theorem dX10_takenReading_42 : decode cX10_takenReading 42 = .ok (.bipush (-2), 2) := by decide +kernel
theorem dX10_takenReading_44 : decode cX10_takenReading 44 = .ok (.ireturn, 1) := by decide +kernel
theorem dX10_takenReading_45 : decode cX10_takenReading 45 = .ok (.aload_n 0, 1) := by decide +kernel
theorem dX10_takenReading_46 : decode cX10_takenReading 46 = .ok (.iload_n 3, 1) := by decide +kernel
theorem dX10_takenReading_47 : decode cX10_takenReading 47 = .ok (.putfield 405, 3) := by decide +kernel
theorem dX10_takenReading_50 : decode cX10_takenReading 50 = .ok (.iload_n 1, 1) := by decide +kernel
theorem dX10_takenReading_51 : decode cX10_takenReading 51 = .ok (.bipush (-3), 2) := by decide +kernel
theorem dX10_takenReading_53 : decode cX10_takenReading 53 = .ok (.if_icmp .ne 7, 3) := by decide +kernel
theorem dX10_takenReading_56 : decode cX10_takenReading 56 = .ok (.iload_n 2, 1) := by decide +kernel
theorem dX10_takenReading_57 : decode cX10_takenReading 57 = .ok (.goto 4, 3) := by decide +kernel
theorem dX10_takenReading_60 : decode cX10_takenReading 60 = .ok (.iload_n 1, 1) := by decide +kernel
theorem dX10_takenReading_61 : decode cX10_takenReading 61 = .ok (.istore_n 1, 1) := by decide +kernel
theorem dX10_takenReading_62 : decode cX10_takenReading 62 = .ok (.iinc 2 1, 3) := by decide +kernel
theorem dX10_takenReading_65 : decode cX10_takenReading 65 = .ok (.goto (-60), 3) := by decide +kernel
theorem dX10_takenReading_68 : decode cX10_takenReading 68 = .ok (.iload_n 1, 1) := by decide +kernel
theorem dX10_takenReading_69 : decode cX10_takenReading 69 = .ok (.ifCond .lt 27, 3) := by decide +kernel
theorem dX10_takenReading_72 : decode cX10_takenReading 72 = .ok (.aload_n 0, 1) := by decide +kernel
theorem dX10_takenReading_73 : decode cX10_takenReading 73 = .ok (.aload_n 0, 1) := by decide +kernel
theorem dX10_takenReading_74 : decode cX10_takenReading 74 = .ok (.iload_n 1, 1) := by decide +kernel
theorem dX10_takenReading_75 : decode cX10_takenReading 75 = .ok (.invokevirtual 399, 3) := by decide +kernel
theorem dX10_takenReading_78 : decode cX10_takenReading 78 = .ok (.ifCond .ne 11, 3) := by decide +kernel
theorem dX10_takenReading_81 : decode cX10_takenReading 81 = .ok (.aload_n 0, 1) := by decide +kernel
theorem dX10_takenReading_82 : decode cX10_takenReading 82 = .ok (.iload_n 1, 1) := by decide +kernel
theorem dX10_takenReading_83 : decode cX10_takenReading 83 = .ok (.invokevirtual 402, 3) := by decide +kernel
theorem dX10_takenReading_86 : decode cX10_takenReading 86 = .ok (.goto 7, 3) := by decide +kernel
theorem dX10_takenReading_89 : decode cX10_takenReading 89 = .ok (.aload_n 0, 1) := by decide +kernel
theorem dX10_takenReading_90 : decode cX10_takenReading 90 = .ok (.getfield 405, 3) := by decide +kernel
theorem dX10_takenReading_93 : decode cX10_takenReading 93 = .ok (.putfield 405, 3) := by decide +kernel
theorem dX10_takenReading_96 : decode cX10_takenReading 96 = .ok (.iload_n 1, 1) := by decide +kernel
theorem dX10_takenReading_97 : decode cX10_takenReading 97 = .ok (.ireturn, 1) := by decide +kernel
theorem dX10_isReading_0 : decode cX10_isReading 0 = .ok (.aload_n 0, 1) := by decide +kernel
theorem dX10_isReading_1 : decode cX10_isReading 1 = .ok (.getfield 320, 3) := by decide +kernel
theorem dX10_isReading_4 : decode cX10_isReading 4 = .ok (.ifCond .eq 19, 3) := by decide +kernel
theorem dX10_isReading_7 : decode cX10_isReading 7 = .ok (.iload_n 1, 1) := by decide +kernel
theorem dX10_isReading_8 : decode cX10_isReading 8 = .ok (.ifCond .lt 15, 3) := by decide +kernel
theorem dX10_isReading_11 : decode cX10_isReading 11 = .ok (.iload_n 1, 1) := by decide +kernel
theorem dX10_isReading_12 : decode cX10_isReading 12 = .ok (.aload_n 0, 1) := by decide +kernel
theorem dX10_isReading_13 : decode cX10_isReading 13 = .ok (.getfield 323, 3) := by decide +kernel
theorem dX10_isReading_16 : decode cX10_isReading 16 = .ok (.if_icmp .ge 7, 3) := by decide +kernel
theorem dX10_isReading_19 : decode cX10_isReading 19 = .ok (.iconst 1, 1) := by decide +kernel
theorem dX10_isReading_20 : decode cX10_isReading 20 = .ok (.goto 4, 3) := by decide +kernel
theorem dX10_isReading_23 : decode cX10_isReading 23 = .ok (.iconst 0, 1) := by decide +kernel
theorem dX10_isReading_24 : decode cX10_isReading 24 = .ok (.ireturn, 1) := by decide +kernel
theorem dX10_reading_0 : decode cX10_reading 0 = .ok (.aload_n 0, 1) := by decide +kernel
theorem dX10_reading_1 : decode cX10_reading 1 = .ok (.iload_n 1, 1) := by decide +kernel
theorem dX10_reading_2 : decode cX10_reading 2 = .ok (.invokevirtual 408, 3) := by decide +kernel
theorem dX10_reading_5 : decode cX10_reading 5 = .ok (.ifCond .eq 36, 3) := by decide +kernel
theorem dX10_reading_8 : decode cX10_reading 8 = .ok (.iload_n 2, 1) := by decide +kernel
theorem dX10_reading_9 : decode cX10_reading 9 = .ok (.ifCond .lt 32, 3) := by decide +kernel
theorem dX10_reading_12 : decode cX10_reading 12 = .ok (.iload_n 2, 1) := by decide +kernel
theorem dX10_reading_13 : decode cX10_reading 13 = .ok (.aload_n 0, 1) := by decide +kernel
theorem dX10_reading_14 : decode cX10_reading 14 = .ok (.getfield 54, 3) := by decide +kernel
theorem dX10_reading_17 : decode cX10_reading 17 = .ok (.iconst 0, 1) := by decide +kernel
theorem dX10_reading_18 : decode cX10_reading 18 = .ok (.iaload, 1) := by decide +kernel
theorem dX10_reading_19 : decode cX10_reading 19 = .ok (.if_icmp .ge 22, 3) := by decide +kernel
theorem dX10_reading_22 : decode cX10_reading 22 = .ok (.aload_n 0, 1) := by decide +kernel
theorem dX10_reading_23 : decode cX10_reading 23 = .ok (.getfield 75, 3) := by decide +kernel
theorem dX10_reading_26 : decode cX10_reading 26 = .ok (.iload_n 1, 1) := by decide +kernel
theorem dX10_reading_27 : decode cX10_reading 27 = .ok (.iaload, 1) := by decide +kernel
theorem dX10_reading_28 : decode cX10_reading 28 = .ok (.aload_n 0, 1) := by decide +kernel
theorem dX10_reading_29 : decode cX10_reading 29 = .ok (.getfield 54, 3) := by decide +kernel
theorem dX10_reading_32 : decode cX10_reading 32 = .ok (.iconst 0, 1) := by decide +kernel
theorem dX10_reading_33 : decode cX10_reading 33 = .ok (.iaload, 1) := by decide +kernel
theorem dX10_reading_34 : decode cX10_reading 34 = .ok (.iload_n 2, 1) := by decide +kernel
theorem dX10_reading_35 : decode cX10_reading 35 = .ok (.invokestatic 346, 3) := by decide +kernel
theorem dX10_reading_38 : decode cX10_reading 38 = .ok (.goto 4, 3) := by decide +kernel
theorem dX10_reading_41 : decode cX10_reading 41 = .ok (.iconst (-1), 1) := by decide +kernel
theorem dX10_reading_42 : decode cX10_reading 42 = .ok (.ireturn, 1) := by decide +kernel
theorem dX10_means_0 : decode cX10_means 0 = .ok (.aload_n 0, 1) := by decide +kernel
theorem dX10_means_1 : decode cX10_means 1 = .ok (.iload_n 1, 1) := by decide +kernel
theorem dX10_means_2 : decode cX10_means 2 = .ok (.invokevirtual 408, 3) := by decide +kernel
theorem dX10_means_5 : decode cX10_means 5 = .ok (.ifCond .eq 17, 3) := by decide +kernel
theorem dX10_means_8 : decode cX10_means 8 = .ok (.iload_n 2, 1) := by decide +kernel
theorem dX10_means_9 : decode cX10_means 9 = .ok (.ifCond .lt 13, 3) := by decide +kernel
theorem dX10_means_12 : decode cX10_means 12 = .ok (.iload_n 2, 1) := by decide +kernel
theorem dX10_means_13 : decode cX10_means 13 = .ok (.aload_n 0, 1) := by decide +kernel
theorem dX10_means_14 : decode cX10_means 14 = .ok (.getfield 51, 3) := by decide +kernel
theorem dX10_means_17 : decode cX10_means 17 = .ok (.iconst 0, 1) := by decide +kernel
theorem dX10_means_18 : decode cX10_means 18 = .ok (.iaload, 1) := by decide +kernel
theorem dX10_means_19 : decode cX10_means 19 = .ok (.if_icmp .lt 5, 3) := by decide +kernel
theorem dX10_means_22 : decode cX10_means 22 = .ok (.iconst (-1), 1) := by decide +kernel
theorem dX10_means_23 : decode cX10_means 23 = .ok (.ireturn, 1) := by decide +kernel
theorem dX10_means_24 : decode cX10_means 24 = .ok (.aload_n 0, 1) := by decide +kernel
theorem dX10_means_25 : decode cX10_means 25 = .ok (.iload_n 1, 1) := by decide +kernel
theorem dX10_means_26 : decode cX10_means 26 = .ok (.invokevirtual 384, 3) := by decide +kernel
theorem dX10_means_29 : decode cX10_means 29 = .ok (.aload_n 0, 1) := by decide +kernel
theorem dX10_means_30 : decode cX10_means 30 = .ok (.getfield 100, 3) := by decide +kernel
theorem dX10_means_33 : decode cX10_means 33 = .ok (.iload_n 2, 1) := by decide +kernel
theorem dX10_means_34 : decode cX10_means 34 = .ok (.iaload, 1) := by decide +kernel
theorem dX10_means_35 : decode cX10_means 35 = .ok (.ireturn, 1) := by decide +kernel
theorem dX10_trouble_0 : decode cX10_trouble 0 = .ok (.aload_n 0, 1) := by decide +kernel
theorem dX10_trouble_1 : decode cX10_trouble 1 = .ok (.iload_n 1, 1) := by decide +kernel
theorem dX10_trouble_2 : decode cX10_trouble 2 = .ok (.invokevirtual 408, 3) := by decide +kernel
theorem dX10_trouble_5 : decode cX10_trouble 5 = .ok (.ifCond .eq 12, 3) := by decide +kernel
theorem dX10_trouble_8 : decode cX10_trouble 8 = .ok (.iload_n 2, 1) := by decide +kernel
theorem dX10_trouble_9 : decode cX10_trouble 9 = .ok (.iconst 0, 1) := by decide +kernel
theorem dX10_trouble_10 : decode cX10_trouble 10 = .ok (.iconst 1, 1) := by decide +kernel
theorem dX10_trouble_11 : decode cX10_trouble 11 = .ok (.invokestatic 187, 3) := by decide +kernel
theorem dX10_trouble_14 : decode cX10_trouble 14 = .ok (.ifCond .ne 5, 3) := by decide +kernel
theorem dX10_trouble_17 : decode cX10_trouble 17 = .ok (.iconst (-1), 1) := by decide +kernel
theorem dX10_trouble_18 : decode cX10_trouble 18 = .ok (.ireturn, 1) := by decide +kernel
theorem dX10_trouble_19 : decode cX10_trouble 19 = .ok (.aload_n 0, 1) := by decide +kernel
theorem dX10_trouble_20 : decode cX10_trouble 20 = .ok (.iload_n 1, 1) := by decide +kernel
theorem dX10_trouble_21 : decode cX10_trouble 21 = .ok (.invokevirtual 399, 3) := by decide +kernel
theorem dX10_trouble_24 : decode cX10_trouble 24 = .ok (.istore_n 3, 1) := by decide +kernel
theorem dX10_trouble_25 : decode cX10_trouble 25 = .ok (.iload_n 2, 1) := by decide +kernel
theorem dX10_trouble_26 : decode cX10_trouble 26 = .ok (.ifCond .ne 7, 3) := by decide +kernel
theorem dX10_trouble_29 : decode cX10_trouble 29 = .ok (.iload_n 3, 1) := by decide +kernel
theorem dX10_trouble_30 : decode cX10_trouble 30 = .ok (.goto 7, 3) := by decide +kernel
theorem dX10_trouble_33 : decode cX10_trouble 33 = .ok (.aload_n 0, 1) := by decide +kernel
theorem dX10_trouble_34 : decode cX10_trouble 34 = .ok (.getfield 387, 3) := by decide +kernel
theorem dX10_trouble_37 : decode cX10_trouble 37 = .ok (.ireturn, 1) := by decide +kernel
theorem dX10_taken_0 : decode cX10_taken 0 = .ok (.aload_n 0, 1) := by decide +kernel
theorem dX10_taken_1 : decode cX10_taken 1 = .ok (.getfield 320, 3) := by decide +kernel
theorem dX10_taken_4 : decode cX10_taken 4 = .ok (.ifCond .eq 10, 3) := by decide +kernel
theorem dX10_taken_7 : decode cX10_taken 7 = .ok (.aload_n 0, 1) := by decide +kernel
theorem dX10_taken_8 : decode cX10_taken 8 = .ok (.invokevirtual 411, 3) := by decide +kernel
theorem dX10_taken_11 : decode cX10_taken 11 = .ok (.goto 4, 3) := by decide +kernel
theorem dX10_taken_14 : decode cX10_taken 14 = .ok (.iconst (-1), 1) := by decide +kernel
theorem dX10_taken_15 : decode cX10_taken 15 = .ok (.ireturn, 1) := by decide +kernel
theorem dX10_answer_0 : decode cX10_answer 0 = .ok (.aload_n 0, 1) := by decide +kernel
theorem dX10_answer_1 : decode cX10_answer 1 = .ok (.getfield 320, 3) := by decide +kernel
theorem dX10_answer_4 : decode cX10_answer 4 = .ok (.ifCond .eq 19, 3) := by decide +kernel
theorem dX10_answer_7 : decode cX10_answer 7 = .ok (.aload_n 0, 1) := by decide +kernel
theorem dX10_answer_8 : decode cX10_answer 8 = .ok (.getfield 268, 3) := by decide +kernel
theorem dX10_answer_11 : decode cX10_answer 11 = .ok (.iconst 3, 1) := by decide +kernel
theorem dX10_answer_12 : decode cX10_answer 12 = .ok (.if_icmp .lt 11, 3) := by decide +kernel
theorem dX10_answer_15 : decode cX10_answer 15 = .ok (.aload_n 0, 1) := by decide +kernel
theorem dX10_answer_16 : decode cX10_answer 16 = .ok (.getfield 268, 3) := by decide +kernel
theorem dX10_answer_19 : decode cX10_answer 19 = .ok (.iconst 5, 1) := by decide +kernel
theorem dX10_answer_20 : decode cX10_answer 20 = .ok (.if_icmp .le 5, 3) := by decide +kernel
theorem dX10_answer_23 : decode cX10_answer 23 = .ok (.iconst (-1), 1) := by decide +kernel
theorem dX10_answer_24 : decode cX10_answer 24 = .ok (.ireturn, 1) := by decide +kernel
theorem dX10_answer_25 : decode cX10_answer 25 = .ok (.aload_n 0, 1) := by decide +kernel
theorem dX10_answer_26 : decode cX10_answer 26 = .ok (.invokevirtual 411, 3) := by decide +kernel
theorem dX10_answer_29 : decode cX10_answer 29 = .ok (.ifCond .ge 8, 3) := by decide +kernel
theorem dX10_answer_32 : decode cX10_answer 32 = .ok (.bipush (-2), 2) := by decide +kernel
theorem dX10_answer_34 : decode cX10_answer 34 = .ok (.goto 7, 3) := by decide +kernel
theorem dX10_answer_37 : decode cX10_answer 37 = .ok (.aload_n 0, 1) := by decide +kernel
theorem dX10_answer_38 : decode cX10_answer 38 = .ok (.getfield 405, 3) := by decide +kernel
theorem dX10_answer_41 : decode cX10_answer 41 = .ok (.ireturn, 1) := by decide +kernel
theorem dX10_mindAbove_0 : decode cX10_mindAbove 0 = .ok (.aload_n 0, 1) := by decide +kernel
theorem dX10_mindAbove_1 : decode cX10_mindAbove 1 = .ok (.getfield 7, 3) := by decide +kernel
theorem dX10_mindAbove_4 : decode cX10_mindAbove 4 = .ok (.iload_n 1, 1) := by decide +kernel
theorem dX10_mindAbove_5 : decode cX10_mindAbove 5 = .ok (.iaload, 1) := by decide +kernel
theorem dX10_mindAbove_6 : decode cX10_mindAbove 6 = .ok (.iconst 2, 1) := by decide +kernel
theorem dX10_mindAbove_7 : decode cX10_mindAbove 7 = .ok (.if_icmp .ne 5, 3) := by decide +kernel
theorem dX10_mindAbove_10 : decode cX10_mindAbove 10 = .ok (.iconst (-1), 1) := by decide +kernel
theorem dX10_mindAbove_11 : decode cX10_mindAbove 11 = .ok (.ireturn, 1) := by decide +kernel
theorem dX10_mindAbove_12 : decode cX10_mindAbove 12 = .ok (.iconst 0, 1) := by decide +kernel
theorem dX10_mindAbove_13 : decode cX10_mindAbove 13 = .ok (.istore_n 2, 1) := by decide +kernel
theorem dX10_mindAbove_14 : decode cX10_mindAbove 14 = .ok (.iload_n 2, 1) := by decide +kernel
theorem dX10_mindAbove_15 : decode cX10_mindAbove 15 = .ok (.aload_n 0, 1) := by decide +kernel
theorem dX10_mindAbove_16 : decode cX10_mindAbove 16 = .ok (.getfield 184, 3) := by decide +kernel
theorem dX10_mindAbove_19 : decode cX10_mindAbove 19 = .ok (.if_icmp .ge 21, 3) := by decide +kernel
theorem dX10_mindAbove_22 : decode cX10_mindAbove 22 = .ok (.aload_n 0, 1) := by decide +kernel
theorem dX10_mindAbove_23 : decode cX10_mindAbove 23 = .ok (.getfield 106, 3) := by decide +kernel
theorem dX10_mindAbove_26 : decode cX10_mindAbove 26 = .ok (.iload_n 2, 1) := by decide +kernel
theorem dX10_mindAbove_27 : decode cX10_mindAbove 27 = .ok (.iaload, 1) := by decide +kernel
theorem dX10_mindAbove_28 : decode cX10_mindAbove 28 = .ok (.iload_n 1, 1) := by decide +kernel
theorem dX10_mindAbove_29 : decode cX10_mindAbove 29 = .ok (.if_icmp .ne 5, 3) := by decide +kernel
theorem dX10_mindAbove_32 : decode cX10_mindAbove 32 = .ok (.iload_n 2, 1) := by decide +kernel
theorem dX10_mindAbove_33 : decode cX10_mindAbove 33 = .ok (.ireturn, 1) := by decide +kernel
theorem dX10_mindAbove_34 : decode cX10_mindAbove 34 = .ok (.iinc 2 1, 3) := by decide +kernel
theorem dX10_mindAbove_37 : decode cX10_mindAbove 37 = .ok (.goto (-23), 3) := by decide +kernel
theorem dX10_mindAbove_40 : decode cX10_mindAbove 40 = .ok (.iconst (-1), 1) := by decide +kernel
theorem dX10_mindAbove_41 : decode cX10_mindAbove 41 = .ok (.ireturn, 1) := by decide +kernel
theorem dX10_mindHeld_0 : decode cX10_mindHeld 0 = .ok (.iconst 0, 1) := by decide +kernel
theorem dX10_mindHeld_1 : decode cX10_mindHeld 1 = .ok (.istore_n 1, 1) := by decide +kernel
theorem dX10_mindHeld_2 : decode cX10_mindHeld 2 = .ok (.iload_n 1, 1) := by decide +kernel
theorem dX10_mindHeld_3 : decode cX10_mindHeld 3 = .ok (.aload_n 0, 1) := by decide +kernel
theorem dX10_mindHeld_4 : decode cX10_mindHeld 4 = .ok (.getfield 184, 3) := by decide +kernel
theorem dX10_mindHeld_7 : decode cX10_mindHeld 7 = .ok (.if_icmp .ge 22, 3) := by decide +kernel
theorem dX10_mindHeld_10 : decode cX10_mindHeld 10 = .ok (.aload_n 0, 1) := by decide +kernel
theorem dX10_mindHeld_11 : decode cX10_mindHeld 11 = .ok (.getfield 106, 3) := by decide +kernel
theorem dX10_mindHeld_14 : decode cX10_mindHeld 14 = .ok (.iload_n 1, 1) := by decide +kernel
theorem dX10_mindHeld_15 : decode cX10_mindHeld 15 = .ok (.iaload, 1) := by decide +kernel
theorem dX10_mindHeld_16 : decode cX10_mindHeld 16 = .ok (.bipush 17, 2) := by decide +kernel
theorem dX10_mindHeld_18 : decode cX10_mindHeld 18 = .ok (.if_icmp .ne 5, 3) := by decide +kernel
theorem dX10_mindHeld_21 : decode cX10_mindHeld 21 = .ok (.iload_n 1, 1) := by decide +kernel
theorem dX10_mindHeld_22 : decode cX10_mindHeld 22 = .ok (.ireturn, 1) := by decide +kernel
theorem dX10_mindHeld_23 : decode cX10_mindHeld 23 = .ok (.iinc 1 1, 3) := by decide +kernel
theorem dX10_mindHeld_26 : decode cX10_mindHeld 26 = .ok (.goto (-24), 3) := by decide +kernel
theorem dX10_mindHeld_29 : decode cX10_mindHeld 29 = .ok (.iconst (-1), 1) := by decide +kernel
theorem dX10_mindHeld_30 : decode cX10_mindHeld 30 = .ok (.ireturn, 1) := by decide +kernel
theorem dX10_thinks_0 : decode cX10_thinks 0 = .ok (.aload_n 0, 1) := by decide +kernel
theorem dX10_thinks_1 : decode cX10_thinks 1 = .ok (.getfield 109, 3) := by decide +kernel
theorem dX10_thinks_4 : decode cX10_thinks 4 = .ok (.aload_n 0, 1) := by decide +kernel
theorem dX10_thinks_5 : decode cX10_thinks 5 = .ok (.getfield 414, 3) := by decide +kernel
theorem dX10_thinks_8 : decode cX10_thinks 8 = .ok (.iload_n 1, 1) := by decide +kernel
theorem dX10_thinks_9 : decode cX10_thinks 9 = .ok (.iastore, 1) := by decide +kernel
theorem dX10_thinks_10 : decode cX10_thinks 10 = .ok (.aload_n 0, 1) := by decide +kernel
theorem dX10_thinks_11 : decode cX10_thinks 11 = .ok (.getfield 112, 3) := by decide +kernel
theorem dX10_thinks_14 : decode cX10_thinks 14 = .ok (.aload_n 0, 1) := by decide +kernel
theorem dX10_thinks_15 : decode cX10_thinks 15 = .ok (.getfield 414, 3) := by decide +kernel
theorem dX10_thinks_18 : decode cX10_thinks 18 = .ok (.iload_n 2, 1) := by decide +kernel
theorem dX10_thinks_19 : decode cX10_thinks 19 = .ok (.iastore, 1) := by decide +kernel
theorem dX10_thinks_20 : decode cX10_thinks 20 = .ok (.aload_n 0, 1) := by decide +kernel
theorem dX10_thinks_21 : decode cX10_thinks 21 = .ok (.getfield 115, 3) := by decide +kernel
theorem dX10_thinks_24 : decode cX10_thinks 24 = .ok (.aload_n 0, 1) := by decide +kernel
theorem dX10_thinks_25 : decode cX10_thinks 25 = .ok (.getfield 414, 3) := by decide +kernel
theorem dX10_thinks_28 : decode cX10_thinks 28 = .ok (.iload_n 3, 1) := by decide +kernel
theorem dX10_thinks_29 : decode cX10_thinks 29 = .ok (.iastore, 1) := by decide +kernel
theorem dX10_thinks_30 : decode cX10_thinks 30 = .ok (.aload_n 0, 1) := by decide +kernel
theorem dX10_thinks_31 : decode cX10_thinks 31 = .ok (.aload_n 0, 1) := by decide +kernel
theorem dX10_thinks_32 : decode cX10_thinks 32 = .ok (.getfield 414, 3) := by decide +kernel
theorem dX10_thinks_35 : decode cX10_thinks 35 = .ok (.iconst 1, 1) := by decide +kernel
theorem dX10_thinks_36 : decode cX10_thinks 36 = .ok (.iadd, 1) := by decide +kernel
theorem dX10_thinks_37 : decode cX10_thinks 37 = .ok (.putfield 414, 3) := by decide +kernel
theorem dX10_thinks_40 : decode cX10_thinks 40 = .ok (.iload_n 1, 1) := by decide +kernel
theorem dX10_thinks_41 : decode cX10_thinks 41 = .ok (.ifCond .ne 14, 3) := by decide +kernel
theorem dX10_thinks_44 : decode cX10_thinks 44 = .ok (.aload_n 0, 1) := by decide +kernel
theorem dX10_thinks_45 : decode cX10_thinks 45 = .ok (.getfield 106, 3) := by decide +kernel
theorem dX10_thinks_48 : decode cX10_thinks 48 = .ok (.iload_n 2, 1) := by decide +kernel
theorem dX10_thinks_49 : decode cX10_thinks 49 = .ok (.bipush 17, 2) := by decide +kernel
theorem dX10_thinks_51 : decode cX10_thinks 51 = .ok (.iastore, 1) := by decide +kernel
theorem dX10_thinks_52 : decode cX10_thinks 52 = .ok (.goto 23, 3) := by decide +kernel
theorem dX10_thinks_55 : decode cX10_thinks 55 = .ok (.aload_n 0, 1) := by decide +kernel
theorem dX10_thinks_56 : decode cX10_thinks 56 = .ok (.getfield 106, 3) := by decide +kernel
theorem dX10_thinks_59 : decode cX10_thinks 59 = .ok (.aload_n 0, 1) := by decide +kernel
theorem dX10_thinks_60 : decode cX10_thinks 60 = .ok (.invokevirtual 417, 3) := by decide +kernel
theorem dX10_thinks_63 : decode cX10_thinks 63 = .ok (.iload_n 1, 1) := by decide +kernel
theorem dX10_thinks_64 : decode cX10_thinks 64 = .ok (.iconst 2, 1) := by decide +kernel
theorem dX10_thinks_65 : decode cX10_thinks 65 = .ok (.if_icmp .ne 8, 3) := by decide +kernel
theorem dX10_thinks_68 : decode cX10_thinks 68 = .ok (.bipush 16, 2) := by decide +kernel
theorem dX10_thinks_70 : decode cX10_thinks 70 = .ok (.goto 4, 3) := by decide +kernel
theorem dX10_thinks_73 : decode cX10_thinks 73 = .ok (.iload_n 2, 1) := by decide +kernel
theorem dX10_thinks_74 : decode cX10_thinks 74 = .ok (.iastore, 1) := by decide +kernel
theorem dX10_thinks_75 : decode cX10_thinks 75 = .ok (.return_, 1) := by decide +kernel
theorem dX10_clears_0 : decode cX10_clears 0 = .ok (.aload_n 0, 1) := by decide +kernel
theorem dX10_clears_1 : decode cX10_clears 1 = .ok (.iload_n 1, 1) := by decide +kernel
theorem dX10_clears_2 : decode cX10_clears 2 = .ok (.invokevirtual 420, 3) := by decide +kernel
theorem dX10_clears_5 : decode cX10_clears 5 = .ok (.iconst (-1), 1) := by decide +kernel
theorem dX10_clears_6 : decode cX10_clears 6 = .ok (.if_icmp .eq 44, 3) := by decide +kernel
theorem dX10_clears_9 : decode cX10_clears 9 = .ok (.aload_n 0, 1) := by decide +kernel
theorem dX10_clears_10 : decode cX10_clears 10 = .ok (.iload_n 1, 1) := by decide +kernel
theorem dX10_clears_11 : decode cX10_clears 11 = .ok (.invokevirtual 420, 3) := by decide +kernel
theorem dX10_clears_14 : decode cX10_clears 14 = .ok (.istore_n 2, 1) := by decide +kernel
theorem dX10_clears_15 : decode cX10_clears 15 = .ok (.aload_n 0, 1) := by decide +kernel
theorem dX10_clears_16 : decode cX10_clears 16 = .ok (.iload_n 2, 1) := by decide +kernel
theorem dX10_clears_17 : decode cX10_clears 17 = .ok (.invokevirtual 420, 3) := by decide +kernel
theorem dX10_clears_20 : decode cX10_clears 20 = .ok (.iconst (-1), 1) := by decide +kernel
theorem dX10_clears_21 : decode cX10_clears 21 = .ok (.if_icmp .eq 12, 3) := by decide +kernel
theorem dX10_clears_24 : decode cX10_clears 24 = .ok (.aload_n 0, 1) := by decide +kernel
theorem dX10_clears_25 : decode cX10_clears 25 = .ok (.iload_n 2, 1) := by decide +kernel
theorem dX10_clears_26 : decode cX10_clears 26 = .ok (.invokevirtual 420, 3) := by decide +kernel
theorem dX10_clears_29 : decode cX10_clears 29 = .ok (.istore_n 2, 1) := by decide +kernel
theorem dX10_clears_30 : decode cX10_clears 30 = .ok (.goto (-15), 3) := by decide +kernel
theorem dX10_clears_33 : decode cX10_clears 33 = .ok (.aload_n 0, 1) := by decide +kernel
theorem dX10_clears_34 : decode cX10_clears 34 = .ok (.iconst 0, 1) := by decide +kernel
theorem dX10_clears_35 : decode cX10_clears 35 = .ok (.iload_n 2, 1) := by decide +kernel
theorem dX10_clears_36 : decode cX10_clears 36 = .ok (.iload_n 1, 1) := by decide +kernel
theorem dX10_clears_37 : decode cX10_clears 37 = .ok (.invokevirtual 423, 3) := by decide +kernel
theorem dX10_clears_40 : decode cX10_clears 40 = .ok (.aload_n 0, 1) := by decide +kernel
theorem dX10_clears_41 : decode cX10_clears 41 = .ok (.iconst 2, 1) := by decide +kernel
theorem dX10_clears_42 : decode cX10_clears 42 = .ok (.iconst (-1), 1) := by decide +kernel
theorem dX10_clears_43 : decode cX10_clears 43 = .ok (.iload_n 1, 1) := by decide +kernel
theorem dX10_clears_44 : decode cX10_clears 44 = .ok (.invokevirtual 423, 3) := by decide +kernel
theorem dX10_clears_47 : decode cX10_clears 47 = .ok (.goto (-47), 3) := by decide +kernel
theorem dX10_clears_50 : decode cX10_clears 50 = .ok (.return_, 1) := by decide +kernel
theorem dX10_isThereAlready_0 : decode cX10_isThereAlready 0 = .ok (.aload_n 0, 1) := by decide +kernel
theorem dX10_isThereAlready_1 : decode cX10_isThereAlready 1 = .ok (.getfield 268, 3) := by decide +kernel
theorem dX10_isThereAlready_4 : decode cX10_isThereAlready 4 = .ok (.iconst 1, 1) := by decide +kernel
theorem dX10_isThereAlready_5 : decode cX10_isThereAlready 5 = .ok (.if_icmp .ne 23, 3) := by decide +kernel
theorem dX10_isThereAlready_8 : decode cX10_isThereAlready 8 = .ok (.aload_n 0, 1) := by decide +kernel
theorem dX10_isThereAlready_9 : decode cX10_isThereAlready 9 = .ok (.getfield 19, 3) := by decide +kernel
theorem dX10_isThereAlready_12 : decode cX10_isThereAlready 12 = .ok (.aload_n 0, 1) := by decide +kernel
theorem dX10_isThereAlready_13 : decode cX10_isThereAlready 13 = .ok (.getfield 363, 3) := by decide +kernel
theorem dX10_isThereAlready_16 : decode cX10_isThereAlready 16 = .ok (.iaload, 1) := by decide +kernel
theorem dX10_isThereAlready_17 : decode cX10_isThereAlready 17 = .ok (.bipush 17, 2) := by decide +kernel
theorem dX10_isThereAlready_19 : decode cX10_isThereAlready 19 = .ok (.if_icmp .ne 7, 3) := by decide +kernel
theorem dX10_isThereAlready_22 : decode cX10_isThereAlready 22 = .ok (.iconst 1, 1) := by decide +kernel
theorem dX10_isThereAlready_23 : decode cX10_isThereAlready 23 = .ok (.goto 4, 3) := by decide +kernel
theorem dX10_isThereAlready_26 : decode cX10_isThereAlready 26 = .ok (.iconst 0, 1) := by decide +kernel
theorem dX10_isThereAlready_27 : decode cX10_isThereAlready 27 = .ok (.ireturn, 1) := by decide +kernel
theorem dX10_isThereAlready_28 : decode cX10_isThereAlready 28 = .ok (.aload_n 0, 1) := by decide +kernel
theorem dX10_isThereAlready_29 : decode cX10_isThereAlready 29 = .ok (.getfield 19, 3) := by decide +kernel
theorem dX10_isThereAlready_32 : decode cX10_isThereAlready 32 = .ok (.aload_n 0, 1) := by decide +kernel
theorem dX10_isThereAlready_33 : decode cX10_isThereAlready 33 = .ok (.getfield 363, 3) := by decide +kernel
theorem dX10_isThereAlready_36 : decode cX10_isThereAlready 36 = .ok (.iaload, 1) := by decide +kernel
theorem dX10_isThereAlready_37 : decode cX10_isThereAlready 37 = .ok (.aload_n 0, 1) := by decide +kernel
theorem dX10_isThereAlready_38 : decode cX10_isThereAlready 38 = .ok (.getfield 372, 3) := by decide +kernel
theorem dX10_isThereAlready_41 : decode cX10_isThereAlready 41 = .ok (.iconst (-1), 1) := by decide +kernel
theorem dX10_isThereAlready_42 : decode cX10_isThereAlready 42 = .ok (.if_icmp .ne 8, 3) := by decide +kernel
theorem dX10_isThereAlready_45 : decode cX10_isThereAlready 45 = .ok (.bipush 16, 2) := by decide +kernel
theorem dX10_isThereAlready_47 : decode cX10_isThereAlready 47 = .ok (.goto 7, 3) := by decide +kernel
theorem dX10_isThereAlready_50 : decode cX10_isThereAlready 50 = .ok (.aload_n 0, 1) := by decide +kernel
theorem dX10_isThereAlready_51 : decode cX10_isThereAlready 51 = .ok (.getfield 372, 3) := by decide +kernel
theorem dX10_isThereAlready_54 : decode cX10_isThereAlready 54 = .ok (.if_icmp .ne 7, 3) := by decide +kernel
theorem dX10_isThereAlready_57 : decode cX10_isThereAlready 57 = .ok (.iconst 1, 1) := by decide +kernel
theorem dX10_isThereAlready_58 : decode cX10_isThereAlready 58 = .ok (.goto 4, 3) := by decide +kernel
theorem dX10_isThereAlready_61 : decode cX10_isThereAlready 61 = .ok (.iconst 0, 1) := by decide +kernel
theorem dX10_isThereAlready_62 : decode cX10_isThereAlready 62 = .ok (.ireturn, 1) := by decide +kernel
theorem dX10_thinksAll_0 : decode cX10_thinksAll 0 = .ok (.aload_n 0, 1) := by decide +kernel
theorem dX10_thinksAll_1 : decode cX10_thinksAll 1 = .ok (.iconst 0, 1) := by decide +kernel
theorem dX10_thinksAll_2 : decode cX10_thinksAll 2 = .ok (.putfield 414, 3) := by decide +kernel
theorem dX10_thinksAll_5 : decode cX10_thinksAll 5 = .ok (.iconst 0, 1) := by decide +kernel
theorem dX10_thinksAll_6 : decode cX10_thinksAll 6 = .ok (.istore_n 1, 1) := by decide +kernel
theorem dX10_thinksAll_7 : decode cX10_thinksAll 7 = .ok (.iload_n 1, 1) := by decide +kernel
theorem dX10_thinksAll_8 : decode cX10_thinksAll 8 = .ok (.aload_n 0, 1) := by decide +kernel
theorem dX10_thinksAll_9 : decode cX10_thinksAll 9 = .ok (.getfield 184, 3) := by decide +kernel
theorem dX10_thinksAll_12 : decode cX10_thinksAll 12 = .ok (.if_icmp .ge 21, 3) := by decide +kernel
theorem dX10_thinksAll_15 : decode cX10_thinksAll 15 = .ok (.aload_n 0, 1) := by decide +kernel
theorem dX10_thinksAll_16 : decode cX10_thinksAll 16 = .ok (.getfield 106, 3) := by decide +kernel
theorem dX10_thinksAll_19 : decode cX10_thinksAll 19 = .ok (.iload_n 1, 1) := by decide +kernel
theorem dX10_thinksAll_20 : decode cX10_thinksAll 20 = .ok (.aload_n 0, 1) := by decide +kernel
theorem dX10_thinksAll_21 : decode cX10_thinksAll 21 = .ok (.getfield 19, 3) := by decide +kernel
theorem dX10_thinksAll_24 : decode cX10_thinksAll 24 = .ok (.iload_n 1, 1) := by decide +kernel
theorem dX10_thinksAll_25 : decode cX10_thinksAll 25 = .ok (.iaload, 1) := by decide +kernel
theorem dX10_thinksAll_26 : decode cX10_thinksAll 26 = .ok (.iastore, 1) := by decide +kernel
theorem dX10_thinksAll_27 : decode cX10_thinksAll 27 = .ok (.iinc 1 1, 3) := by decide +kernel
theorem dX10_thinksAll_30 : decode cX10_thinksAll 30 = .ok (.goto (-23), 3) := by decide +kernel
theorem dX10_thinksAll_33 : decode cX10_thinksAll 33 = .ok (.aload_n 0, 1) := by decide +kernel
theorem dX10_thinksAll_34 : decode cX10_thinksAll 34 = .ok (.getfield 268, 3) := by decide +kernel
theorem dX10_thinksAll_37 : decode cX10_thinksAll 37 = .ok (.iconst 2, 1) := by decide +kernel
theorem dX10_thinksAll_38 : decode cX10_thinksAll 38 = .ok (.if_icmp .ne 11, 3) := by decide +kernel
theorem dX10_thinksAll_41 : decode cX10_thinksAll 41 = .ok (.aload_n 0, 1) := by decide +kernel
theorem dX10_thinksAll_42 : decode cX10_thinksAll 42 = .ok (.iconst 2, 1) := by decide +kernel
theorem dX10_thinksAll_43 : decode cX10_thinksAll 43 = .ok (.iconst (-1), 1) := by decide +kernel
theorem dX10_thinksAll_44 : decode cX10_thinksAll 44 = .ok (.iconst (-1), 1) := by decide +kernel
theorem dX10_thinksAll_45 : decode cX10_thinksAll 45 = .ok (.invokevirtual 423, 3) := by decide +kernel
theorem dX10_thinksAll_48 : decode cX10_thinksAll 48 = .ok (.return_, 1) := by decide +kernel
theorem dX10_thinksAll_49 : decode cX10_thinksAll 49 = .ok (.aload_n 0, 1) := by decide +kernel
theorem dX10_thinksAll_50 : decode cX10_thinksAll 50 = .ok (.invokevirtual 426, 3) := by decide +kernel
theorem dX10_thinksAll_53 : decode cX10_thinksAll 53 = .ok (.ifCond .eq 4, 3) := by decide +kernel
theorem dX10_thinksAll_56 : decode cX10_thinksAll 56 = .ok (.return_, 1) := by decide +kernel
theorem dX10_thinksAll_57 : decode cX10_thinksAll 57 = .ok (.aload_n 0, 1) := by decide +kernel
theorem dX10_thinksAll_58 : decode cX10_thinksAll 58 = .ok (.getfield 268, 3) := by decide +kernel
theorem dX10_thinksAll_61 : decode cX10_thinksAll 61 = .ok (.ifCond .ne 14, 3) := by decide +kernel
theorem dX10_thinksAll_64 : decode cX10_thinksAll 64 = .ok (.aload_n 0, 1) := by decide +kernel
theorem dX10_thinksAll_65 : decode cX10_thinksAll 65 = .ok (.getfield 369, 3) := by decide +kernel
theorem dX10_thinksAll_68 : decode cX10_thinksAll 68 = .ok (.ifCond .ne 7, 3) := by decide +kernel
theorem dX10_thinksAll_71 : decode cX10_thinksAll 71 = .ok (.iconst 1, 1) := by decide +kernel
theorem dX10_thinksAll_72 : decode cX10_thinksAll 72 = .ok (.goto 4, 3) := by decide +kernel
theorem dX10_thinksAll_75 : decode cX10_thinksAll 75 = .ok (.iconst 0, 1) := by decide +kernel
theorem dX10_thinksAll_76 : decode cX10_thinksAll 76 = .ok (.istore_n 1, 1) := by decide +kernel
theorem dX10_thinksAll_77 : decode cX10_thinksAll 77 = .ok (.aload_n 0, 1) := by decide +kernel
theorem dX10_thinksAll_78 : decode cX10_thinksAll 78 = .ok (.invokevirtual 417, 3) := by decide +kernel
theorem dX10_thinksAll_81 : decode cX10_thinksAll 81 = .ok (.istore_n 2, 1) := by decide +kernel
theorem dX10_thinksAll_82 : decode cX10_thinksAll 82 = .ok (.iload_n 2, 1) := by decide +kernel
theorem dX10_thinksAll_83 : decode cX10_thinksAll 83 = .ok (.iconst (-1), 1) := by decide +kernel
theorem dX10_thinksAll_84 : decode cX10_thinksAll 84 = .ok (.if_icmp .eq 35, 3) := by decide +kernel
theorem dX10_thinksAll_87 : decode cX10_thinksAll 87 = .ok (.iload_n 2, 1) := by decide +kernel
theorem dX10_thinksAll_88 : decode cX10_thinksAll 88 = .ok (.aload_n 0, 1) := by decide +kernel
theorem dX10_thinksAll_89 : decode cX10_thinksAll 89 = .ok (.getfield 363, 3) := by decide +kernel
theorem dX10_thinksAll_92 : decode cX10_thinksAll 92 = .ok (.if_icmp .ne 19, 3) := by decide +kernel
theorem dX10_thinksAll_95 : decode cX10_thinksAll 95 = .ok (.iload_n 1, 1) := by decide +kernel
theorem dX10_thinksAll_96 : decode cX10_thinksAll 96 = .ok (.ifCond .eq 23, 3) := by decide +kernel
theorem dX10_thinksAll_99 : decode cX10_thinksAll 99 = .ok (.aload_n 0, 1) := by decide +kernel
theorem dX10_thinksAll_100 : decode cX10_thinksAll 100 = .ok (.aload_n 0, 1) := by decide +kernel
theorem dX10_thinksAll_101 : decode cX10_thinksAll 101 = .ok (.getfield 372, 3) := by decide +kernel
theorem dX10_thinksAll_104 : decode cX10_thinksAll 104 = .ok (.invokevirtual 420, 3) := by decide +kernel
theorem dX10_thinksAll_107 : decode cX10_thinksAll 107 = .ok (.iconst (-1), 1) := by decide +kernel
theorem dX10_thinksAll_108 : decode cX10_thinksAll 108 = .ok (.if_icmp .eq 11, 3) := by decide +kernel
theorem dX10_thinksAll_111 : decode cX10_thinksAll 111 = .ok (.aload_n 0, 1) := by decide +kernel
theorem dX10_thinksAll_112 : decode cX10_thinksAll 112 = .ok (.iconst 2, 1) := by decide +kernel
theorem dX10_thinksAll_113 : decode cX10_thinksAll 113 = .ok (.iconst (-1), 1) := by decide +kernel
theorem dX10_thinksAll_114 : decode cX10_thinksAll 114 = .ok (.bipush 20, 2) := by decide +kernel
theorem dX10_thinksAll_116 : decode cX10_thinksAll 116 = .ok (.invokevirtual 423, 3) := by decide +kernel
theorem dX10_thinksAll_119 : decode cX10_thinksAll 119 = .ok (.aload_n 0, 1) := by decide +kernel
theorem dX10_thinksAll_120 : decode cX10_thinksAll 120 = .ok (.aload_n 0, 1) := by decide +kernel
theorem dX10_thinksAll_121 : decode cX10_thinksAll 121 = .ok (.getfield 363, 3) := by decide +kernel
theorem dX10_thinksAll_124 : decode cX10_thinksAll 124 = .ok (.invokevirtual 429, 3) := by decide +kernel
theorem dX10_thinksAll_127 : decode cX10_thinksAll 127 = .ok (.iload_n 1, 1) := by decide +kernel
theorem dX10_thinksAll_128 : decode cX10_thinksAll 128 = .ok (.ifCond .eq 11, 3) := by decide +kernel
theorem dX10_thinksAll_131 : decode cX10_thinksAll 131 = .ok (.aload_n 0, 1) := by decide +kernel
theorem dX10_thinksAll_132 : decode cX10_thinksAll 132 = .ok (.aload_n 0, 1) := by decide +kernel
theorem dX10_thinksAll_133 : decode cX10_thinksAll 133 = .ok (.getfield 372, 3) := by decide +kernel
theorem dX10_thinksAll_136 : decode cX10_thinksAll 136 = .ok (.invokevirtual 429, 3) := by decide +kernel
theorem dX10_thinksAll_139 : decode cX10_thinksAll 139 = .ok (.aload_n 0, 1) := by decide +kernel
theorem dX10_thinksAll_140 : decode cX10_thinksAll 140 = .ok (.invokevirtual 417, 3) := by decide +kernel
theorem dX10_thinksAll_143 : decode cX10_thinksAll 143 = .ok (.aload_n 0, 1) := by decide +kernel
theorem dX10_thinksAll_144 : decode cX10_thinksAll 144 = .ok (.getfield 363, 3) := by decide +kernel
theorem dX10_thinksAll_147 : decode cX10_thinksAll 147 = .ok (.if_icmp .eq 13, 3) := by decide +kernel
theorem dX10_thinksAll_150 : decode cX10_thinksAll 150 = .ok (.aload_n 0, 1) := by decide +kernel
theorem dX10_thinksAll_151 : decode cX10_thinksAll 151 = .ok (.iconst 0, 1) := by decide +kernel
theorem dX10_thinksAll_152 : decode cX10_thinksAll 152 = .ok (.aload_n 0, 1) := by decide +kernel
theorem dX10_thinksAll_153 : decode cX10_thinksAll 153 = .ok (.getfield 363, 3) := by decide +kernel
theorem dX10_thinksAll_156 : decode cX10_thinksAll 156 = .ok (.iconst (-1), 1) := by decide +kernel
theorem dX10_thinksAll_157 : decode cX10_thinksAll 157 = .ok (.invokevirtual 423, 3) := by decide +kernel
theorem dX10_thinksAll_160 : decode cX10_thinksAll 160 = .ok (.aload_n 0, 1) := by decide +kernel
theorem dX10_thinksAll_161 : decode cX10_thinksAll 161 = .ok (.getfield 268, 3) := by decide +kernel
theorem dX10_thinksAll_164 : decode cX10_thinksAll 164 = .ok (.ifCond .ne 33, 3) := by decide +kernel
theorem dX10_thinksAll_167 : decode cX10_thinksAll 167 = .ok (.aload_n 0, 1) := by decide +kernel
theorem dX10_thinksAll_168 : decode cX10_thinksAll 168 = .ok (.iload_n 1, 1) := by decide +kernel
theorem dX10_thinksAll_169 : decode cX10_thinksAll 169 = .ok (.ifCond .eq 7, 3) := by decide +kernel
theorem dX10_thinksAll_172 : decode cX10_thinksAll 172 = .ok (.iconst 1, 1) := by decide +kernel
theorem dX10_thinksAll_173 : decode cX10_thinksAll 173 = .ok (.goto 16, 3) := by decide +kernel
theorem dX10_thinksAll_176 : decode cX10_thinksAll 176 = .ok (.aload_n 0, 1) := by decide +kernel
theorem dX10_thinksAll_177 : decode cX10_thinksAll 177 = .ok (.getfield 372, 3) := by decide +kernel
theorem dX10_thinksAll_180 : decode cX10_thinksAll 180 = .ok (.iconst (-1), 1) := by decide +kernel
theorem dX10_thinksAll_181 : decode cX10_thinksAll 181 = .ok (.if_icmp .ne 7, 3) := by decide +kernel
theorem dX10_thinksAll_184 : decode cX10_thinksAll 184 = .ok (.iconst 2, 1) := by decide +kernel
theorem dX10_thinksAll_185 : decode cX10_thinksAll 185 = .ok (.goto 4, 3) := by decide +kernel
theorem dX10_thinksAll_188 : decode cX10_thinksAll 188 = .ok (.iconst 3, 1) := by decide +kernel
theorem dX10_thinksAll_189 : decode cX10_thinksAll 189 = .ok (.aload_n 0, 1) := by decide +kernel
theorem dX10_thinksAll_190 : decode cX10_thinksAll 190 = .ok (.getfield 372, 3) := by decide +kernel
theorem dX10_thinksAll_193 : decode cX10_thinksAll 193 = .ok (.iconst (-1), 1) := by decide +kernel
theorem dX10_thinksAll_194 : decode cX10_thinksAll 194 = .ok (.invokevirtual 423, 3) := by decide +kernel
theorem dX10_thinksAll_197 : decode cX10_thinksAll 197 = .ok (.return_, 1) := by decide +kernel
