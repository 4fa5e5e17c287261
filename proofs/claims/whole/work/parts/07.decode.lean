theorem dX10_isBidden_0 : decode cX10_isBidden 0 = .ok (.iload_n 0, 1) := by decide +kernel
theorem dX10_isBidden_1 : decode cX10_isBidden 1 = .ok (.iconst 2, 1) := by decide +kernel
theorem dX10_isBidden_2 : decode cX10_isBidden 2 = .ok (.if_icmp .gt 7, 3) := by decide +kernel
theorem dX10_isBidden_5 : decode cX10_isBidden 5 = .ok (.iconst 1, 1) := by decide +kernel
theorem dX10_isBidden_6 : decode cX10_isBidden 6 = .ok (.goto 4, 3) := by decide +kernel
theorem dX10_isBidden_9 : decode cX10_isBidden 9 = .ok (.iconst 0, 1) := by decide +kernel
theorem dX10_isBidden_10 : decode cX10_isBidden 10 = .ok (.ireturn, 1) := by decide +kernel
theorem dX10_plan_0 : decode cX10_plan 0 = .ok (.aload_n 0, 1) := by decide +kernel
theorem dX10_plan_1 : decode cX10_plan 1 = .ok (.getfield 320, 3) := by decide +kernel
theorem dX10_plan_4 : decode cX10_plan 4 = .ok (.ifCond .eq 13, 3) := by decide +kernel
theorem dX10_plan_7 : decode cX10_plan 7 = .ok (.aload_n 0, 1) := by decide +kernel
theorem dX10_plan_8 : decode cX10_plan 8 = .ok (.getfield 268, 3) := by decide +kernel
theorem dX10_plan_11 : decode cX10_plan 11 = .ok (.invokestatic 432, 3) := by decide +kernel
theorem dX10_plan_14 : decode cX10_plan 14 = .ok (.ifCond .ne 5, 3) := by decide +kernel
theorem dX10_plan_17 : decode cX10_plan 17 = .ok (.iconst (-1), 1) := by decide +kernel
theorem dX10_plan_18 : decode cX10_plan 18 = .ok (.ireturn, 1) := by decide +kernel
theorem dX10_plan_19 : decode cX10_plan 19 = .ok (.aload_n 0, 1) := by decide +kernel
theorem dX10_plan_20 : decode cX10_plan 20 = .ok (.invokevirtual 411, 3) := by decide +kernel
theorem dX10_plan_23 : decode cX10_plan 23 = .ok (.ifCond .ge 6, 3) := by decide +kernel
theorem dX10_plan_26 : decode cX10_plan 26 = .ok (.bipush (-2), 2) := by decide +kernel
theorem dX10_plan_28 : decode cX10_plan 28 = .ok (.ireturn, 1) := by decide +kernel
theorem dX10_plan_29 : decode cX10_plan 29 = .ok (.aload_n 0, 1) := by decide +kernel
theorem dX10_plan_30 : decode cX10_plan 30 = .ok (.invokevirtual 435, 3) := by decide +kernel
theorem dX10_plan_33 : decode cX10_plan 33 = .ok (.iload_n 1, 1) := by decide +kernel
theorem dX10_plan_34 : decode cX10_plan 34 = .ok (.iconst (-1), 1) := by decide +kernel
theorem dX10_plan_35 : decode cX10_plan 35 = .ok (.if_icmp .ne 8, 3) := by decide +kernel
theorem dX10_plan_38 : decode cX10_plan 38 = .ok (.aload_n 0, 1) := by decide +kernel
theorem dX10_plan_39 : decode cX10_plan 39 = .ok (.getfield 414, 3) := by decide +kernel
theorem dX10_plan_42 : decode cX10_plan 42 = .ok (.ireturn, 1) := by decide +kernel
theorem dX10_plan_43 : decode cX10_plan 43 = .ok (.iload_n 1, 1) := by decide +kernel
theorem dX10_plan_44 : decode cX10_plan 44 = .ok (.ifCond .lt 13, 3) := by decide +kernel
theorem dX10_plan_47 : decode cX10_plan 47 = .ok (.iload_n 1, 1) := by decide +kernel
theorem dX10_plan_48 : decode cX10_plan 48 = .ok (.iconst 3, 1) := by decide +kernel
theorem dX10_plan_49 : decode cX10_plan 49 = .ok (.aload_n 0, 1) := by decide +kernel
theorem dX10_plan_50 : decode cX10_plan 50 = .ok (.getfield 414, 3) := by decide +kernel
theorem dX10_plan_53 : decode cX10_plan 53 = .ok (.imul, 1) := by decide +kernel
theorem dX10_plan_54 : decode cX10_plan 54 = .ok (.if_icmp .lt 5, 3) := by decide +kernel
theorem dX10_plan_57 : decode cX10_plan 57 = .ok (.iconst (-1), 1) := by decide +kernel
theorem dX10_plan_58 : decode cX10_plan 58 = .ok (.ireturn, 1) := by decide +kernel
theorem dX10_plan_59 : decode cX10_plan 59 = .ok (.iload_n 1, 1) := by decide +kernel
theorem dX10_plan_60 : decode cX10_plan 60 = .ok (.iconst 3, 1) := by decide +kernel
theorem dX10_plan_61 : decode cX10_plan 61 = .ok (.irem, 1) := by decide +kernel
theorem dX10_plan_62 : decode cX10_plan 62 = .ok (.ifCond .ne 14, 3) := by decide +kernel
theorem dX10_plan_65 : decode cX10_plan 65 = .ok (.aload_n 0, 1) := by decide +kernel
theorem dX10_plan_66 : decode cX10_plan 66 = .ok (.getfield 109, 3) := by decide +kernel
theorem dX10_plan_69 : decode cX10_plan 69 = .ok (.iload_n 1, 1) := by decide +kernel
theorem dX10_plan_70 : decode cX10_plan 70 = .ok (.iconst 3, 1) := by decide +kernel
theorem dX10_plan_71 : decode cX10_plan 71 = .ok (.idiv, 1) := by decide +kernel
theorem dX10_plan_72 : decode cX10_plan 72 = .ok (.iaload, 1) := by decide +kernel
theorem dX10_plan_73 : decode cX10_plan 73 = .ok (.goto 29, 3) := by decide +kernel
theorem dX10_plan_76 : decode cX10_plan 76 = .ok (.iload_n 1, 1) := by decide +kernel
theorem dX10_plan_77 : decode cX10_plan 77 = .ok (.iconst 3, 1) := by decide +kernel
theorem dX10_plan_78 : decode cX10_plan 78 = .ok (.irem, 1) := by decide +kernel
theorem dX10_plan_79 : decode cX10_plan 79 = .ok (.iconst 1, 1) := by decide +kernel
theorem dX10_plan_80 : decode cX10_plan 80 = .ok (.if_icmp .ne 14, 3) := by decide +kernel
theorem dX10_plan_83 : decode cX10_plan 83 = .ok (.aload_n 0, 1) := by decide +kernel
theorem dX10_plan_84 : decode cX10_plan 84 = .ok (.getfield 112, 3) := by decide +kernel
theorem dX10_plan_87 : decode cX10_plan 87 = .ok (.iload_n 1, 1) := by decide +kernel
theorem dX10_plan_88 : decode cX10_plan 88 = .ok (.iconst 3, 1) := by decide +kernel
theorem dX10_plan_89 : decode cX10_plan 89 = .ok (.idiv, 1) := by decide +kernel
theorem dX10_plan_90 : decode cX10_plan 90 = .ok (.iaload, 1) := by decide +kernel
theorem dX10_plan_91 : decode cX10_plan 91 = .ok (.goto 11, 3) := by decide +kernel
theorem dX10_plan_94 : decode cX10_plan 94 = .ok (.aload_n 0, 1) := by decide +kernel
theorem dX10_plan_95 : decode cX10_plan 95 = .ok (.getfield 115, 3) := by decide +kernel
theorem dX10_plan_98 : decode cX10_plan 98 = .ok (.iload_n 1, 1) := by decide +kernel
theorem dX10_plan_99 : decode cX10_plan 99 = .ok (.iconst 3, 1) := by decide +kernel
theorem dX10_plan_100 : decode cX10_plan 100 = .ok (.idiv, 1) := by decide +kernel
theorem dX10_plan_101 : decode cX10_plan 101 = .ok (.iaload, 1) := by decide +kernel
theorem dX10_plan_102 : decode cX10_plan 102 = .ok (.ireturn, 1) := by decide +kernel
theorem dX10_tellsNoun_0 : decode cX10_tellsNoun 0 = .ok (.iconst 1, 1) := by decide +kernel
theorem dX10_tellsNoun_1 : decode cX10_tellsNoun 1 = .ok (.aload_n 0, 1) := by decide +kernel
theorem dX10_tellsNoun_2 : decode cX10_tellsNoun 2 = .ok (.getfield 256, 3) := by decide +kernel
theorem dX10_tellsNoun_5 : decode cX10_tellsNoun 5 = .ok (.iadd, 1) := by decide +kernel
theorem dX10_tellsNoun_6 : decode cX10_tellsNoun 6 = .ok (.istore_n 2, 1) := by decide +kernel
theorem dX10_tellsNoun_7 : decode cX10_tellsNoun 7 = .ok (.aload_n 0, 1) := by decide +kernel
theorem dX10_tellsNoun_8 : decode cX10_tellsNoun 8 = .ok (.getfield 48, 3) := by decide +kernel
theorem dX10_tellsNoun_11 : decode cX10_tellsNoun 11 = .ok (.aload_n 0, 1) := by decide +kernel
theorem dX10_tellsNoun_12 : decode cX10_tellsNoun 12 = .ok (.getfield 256, 3) := by decide +kernel
theorem dX10_tellsNoun_15 : decode cX10_tellsNoun 15 = .ok (.aload_n 0, 1) := by decide +kernel
theorem dX10_tellsNoun_16 : decode cX10_tellsNoun 16 = .ok (.getfield 299, 3) := by decide +kernel
theorem dX10_tellsNoun_19 : decode cX10_tellsNoun 19 = .ok (.lastore, 1) := by decide +kernel
theorem dX10_tellsNoun_20 : decode cX10_tellsNoun 20 = .ok (.aload_n 0, 1) := by decide +kernel
theorem dX10_tellsNoun_21 : decode cX10_tellsNoun 21 = .ok (.getfield 51, 3) := by decide +kernel
theorem dX10_tellsNoun_24 : decode cX10_tellsNoun 24 = .ok (.iload_n 2, 1) := by decide +kernel
theorem dX10_tellsNoun_25 : decode cX10_tellsNoun 25 = .ok (.aload_n 0, 1) := by decide +kernel
theorem dX10_tellsNoun_26 : decode cX10_tellsNoun 26 = .ok (.getfield 51, 3) := by decide +kernel
theorem dX10_tellsNoun_29 : decode cX10_tellsNoun 29 = .ok (.iconst 0, 1) := by decide +kernel
theorem dX10_tellsNoun_30 : decode cX10_tellsNoun 30 = .ok (.iaload, 1) := by decide +kernel
theorem dX10_tellsNoun_31 : decode cX10_tellsNoun 31 = .ok (.iastore, 1) := by decide +kernel
theorem dX10_tellsNoun_32 : decode cX10_tellsNoun 32 = .ok (.aload_n 0, 1) := by decide +kernel
theorem dX10_tellsNoun_33 : decode cX10_tellsNoun 33 = .ok (.getfield 54, 3) := by decide +kernel
theorem dX10_tellsNoun_36 : decode cX10_tellsNoun 36 = .ok (.iload_n 2, 1) := by decide +kernel
theorem dX10_tellsNoun_37 : decode cX10_tellsNoun 37 = .ok (.aload_n 0, 1) := by decide +kernel
theorem dX10_tellsNoun_38 : decode cX10_tellsNoun 38 = .ok (.getfield 54, 3) := by decide +kernel
theorem dX10_tellsNoun_41 : decode cX10_tellsNoun 41 = .ok (.iconst 0, 1) := by decide +kernel
theorem dX10_tellsNoun_42 : decode cX10_tellsNoun 42 = .ok (.iaload, 1) := by decide +kernel
theorem dX10_tellsNoun_43 : decode cX10_tellsNoun 43 = .ok (.iastore, 1) := by decide +kernel
theorem dX10_tellsNoun_44 : decode cX10_tellsNoun 44 = .ok (.iconst 0, 1) := by decide +kernel
theorem dX10_tellsNoun_45 : decode cX10_tellsNoun 45 = .ok (.istore_n 3, 1) := by decide +kernel
theorem dX10_tellsNoun_46 : decode cX10_tellsNoun 46 = .ok (.iload_n 3, 1) := by decide +kernel
theorem dX10_tellsNoun_47 : decode cX10_tellsNoun 47 = .ok (.aload_n 0, 1) := by decide +kernel
theorem dX10_tellsNoun_48 : decode cX10_tellsNoun 48 = .ok (.getfield 51, 3) := by decide +kernel
theorem dX10_tellsNoun_51 : decode cX10_tellsNoun 51 = .ok (.iconst 0, 1) := by decide +kernel
theorem dX10_tellsNoun_52 : decode cX10_tellsNoun 52 = .ok (.iaload, 1) := by decide +kernel
theorem dX10_tellsNoun_53 : decode cX10_tellsNoun 53 = .ok (.if_icmp .ge 60, 3) := by decide +kernel
theorem dX10_tellsNoun_56 : decode cX10_tellsNoun 56 = .ok (.aload_n 0, 1) := by decide +kernel
theorem dX10_tellsNoun_57 : decode cX10_tellsNoun 57 = .ok (.getfield 57, 3) := by decide +kernel
theorem dX10_tellsNoun_60 : decode cX10_tellsNoun 60 = .ok (.bipush 7, 2) := by decide +kernel
theorem dX10_tellsNoun_62 : decode cX10_tellsNoun 62 = .ok (.iload_n 2, 1) := by decide +kernel
theorem dX10_tellsNoun_63 : decode cX10_tellsNoun 63 = .ok (.imul, 1) := by decide +kernel
theorem dX10_tellsNoun_64 : decode cX10_tellsNoun 64 = .ok (.iload_n 3, 1) := by decide +kernel
theorem dX10_tellsNoun_65 : decode cX10_tellsNoun 65 = .ok (.iadd, 1) := by decide +kernel
theorem dX10_tellsNoun_66 : decode cX10_tellsNoun 66 = .ok (.aload_n 0, 1) := by decide +kernel
theorem dX10_tellsNoun_67 : decode cX10_tellsNoun 67 = .ok (.getfield 57, 3) := by decide +kernel
theorem dX10_tellsNoun_70 : decode cX10_tellsNoun 70 = .ok (.iload_n 3, 1) := by decide +kernel
theorem dX10_tellsNoun_71 : decode cX10_tellsNoun 71 = .ok (.iaload, 1) := by decide +kernel
theorem dX10_tellsNoun_72 : decode cX10_tellsNoun 72 = .ok (.iastore, 1) := by decide +kernel
theorem dX10_tellsNoun_73 : decode cX10_tellsNoun 73 = .ok (.aload_n 0, 1) := by decide +kernel
theorem dX10_tellsNoun_74 : decode cX10_tellsNoun 74 = .ok (.getfield 60, 3) := by decide +kernel
theorem dX10_tellsNoun_77 : decode cX10_tellsNoun 77 = .ok (.bipush 7, 2) := by decide +kernel
theorem dX10_tellsNoun_79 : decode cX10_tellsNoun 79 = .ok (.iload_n 2, 1) := by decide +kernel
theorem dX10_tellsNoun_80 : decode cX10_tellsNoun 80 = .ok (.imul, 1) := by decide +kernel
theorem dX10_tellsNoun_81 : decode cX10_tellsNoun 81 = .ok (.iload_n 3, 1) := by decide +kernel
theorem dX10_tellsNoun_82 : decode cX10_tellsNoun 82 = .ok (.iadd, 1) := by decide +kernel
theorem dX10_tellsNoun_83 : decode cX10_tellsNoun 83 = .ok (.aload_n 0, 1) := by decide +kernel
theorem dX10_tellsNoun_84 : decode cX10_tellsNoun 84 = .ok (.getfield 60, 3) := by decide +kernel
theorem dX10_tellsNoun_87 : decode cX10_tellsNoun 87 = .ok (.iload_n 3, 1) := by decide +kernel
theorem dX10_tellsNoun_88 : decode cX10_tellsNoun 88 = .ok (.iaload, 1) := by decide +kernel
theorem dX10_tellsNoun_89 : decode cX10_tellsNoun 89 = .ok (.iastore, 1) := by decide +kernel
theorem dX10_tellsNoun_90 : decode cX10_tellsNoun 90 = .ok (.aload_n 0, 1) := by decide +kernel
theorem dX10_tellsNoun_91 : decode cX10_tellsNoun 91 = .ok (.getfield 63, 3) := by decide +kernel
theorem dX10_tellsNoun_94 : decode cX10_tellsNoun 94 = .ok (.bipush 7, 2) := by decide +kernel
theorem dX10_tellsNoun_96 : decode cX10_tellsNoun 96 = .ok (.iload_n 2, 1) := by decide +kernel
theorem dX10_tellsNoun_97 : decode cX10_tellsNoun 97 = .ok (.imul, 1) := by decide +kernel
theorem dX10_tellsNoun_98 : decode cX10_tellsNoun 98 = .ok (.iload_n 3, 1) := by decide +kernel
theorem dX10_tellsNoun_99 : decode cX10_tellsNoun 99 = .ok (.iadd, 1) := by decide +kernel
theorem dX10_tellsNoun_100 : decode cX10_tellsNoun 100 = .ok (.aload_n 0, 1) := by decide +kernel
theorem dX10_tellsNoun_101 : decode cX10_tellsNoun 101 = .ok (.getfield 63, 3) := by decide +kernel
theorem dX10_tellsNoun_104 : decode cX10_tellsNoun 104 = .ok (.iload_n 3, 1) := by decide +kernel
theorem dX10_tellsNoun_105 : decode cX10_tellsNoun 105 = .ok (.iaload, 1) := by decide +kernel
theorem dX10_tellsNoun_106 : decode cX10_tellsNoun 106 = .ok (.iastore, 1) := by decide +kernel
theorem dX10_tellsNoun_107 : decode cX10_tellsNoun 107 = .ok (.iinc 3 1, 3) := by decide +kernel
theorem dX10_tellsNoun_110 : decode cX10_tellsNoun 110 = .ok (.goto (-64), 3) := by decide +kernel
theorem dX10_tellsNoun_113 : decode cX10_tellsNoun 113 = .ok (.iconst 0, 1) := by decide +kernel
theorem dX10_tellsNoun_114 : decode cX10_tellsNoun 114 = .ok (.istore_n 3, 1) := by decide +kernel
theorem dX10_tellsNoun_115 : decode cX10_tellsNoun 115 = .ok (.iload_n 3, 1) := by decide +kernel
theorem dX10_tellsNoun_116 : decode cX10_tellsNoun 116 = .ok (.aload_n 0, 1) := by decide +kernel
theorem dX10_tellsNoun_117 : decode cX10_tellsNoun 117 = .ok (.getfield 54, 3) := by decide +kernel
theorem dX10_tellsNoun_120 : decode cX10_tellsNoun 120 = .ok (.iconst 0, 1) := by decide +kernel
theorem dX10_tellsNoun_121 : decode cX10_tellsNoun 121 = .ok (.iaload, 1) := by decide +kernel
theorem dX10_tellsNoun_122 : decode cX10_tellsNoun 122 = .ok (.if_icmp .ge 26, 3) := by decide +kernel
theorem dX10_tellsNoun_125 : decode cX10_tellsNoun 125 = .ok (.aload_n 0, 1) := by decide +kernel
theorem dX10_tellsNoun_126 : decode cX10_tellsNoun 126 = .ok (.getfield 66, 3) := by decide +kernel
theorem dX10_tellsNoun_129 : decode cX10_tellsNoun 129 = .ok (.bipush 6, 2) := by decide +kernel
theorem dX10_tellsNoun_131 : decode cX10_tellsNoun 131 = .ok (.iload_n 2, 1) := by decide +kernel
theorem dX10_tellsNoun_132 : decode cX10_tellsNoun 132 = .ok (.imul, 1) := by decide +kernel
theorem dX10_tellsNoun_133 : decode cX10_tellsNoun 133 = .ok (.iload_n 3, 1) := by decide +kernel
theorem dX10_tellsNoun_134 : decode cX10_tellsNoun 134 = .ok (.iadd, 1) := by decide +kernel
theorem dX10_tellsNoun_135 : decode cX10_tellsNoun 135 = .ok (.aload_n 0, 1) := by decide +kernel
theorem dX10_tellsNoun_136 : decode cX10_tellsNoun 136 = .ok (.getfield 66, 3) := by decide +kernel
theorem dX10_tellsNoun_139 : decode cX10_tellsNoun 139 = .ok (.iload_n 3, 1) := by decide +kernel
theorem dX10_tellsNoun_140 : decode cX10_tellsNoun 140 = .ok (.iaload, 1) := by decide +kernel
theorem dX10_tellsNoun_141 : decode cX10_tellsNoun 141 = .ok (.iastore, 1) := by decide +kernel
theorem dX10_tellsNoun_142 : decode cX10_tellsNoun 142 = .ok (.iinc 3 1, 3) := by decide +kernel
theorem dX10_tellsNoun_145 : decode cX10_tellsNoun 145 = .ok (.goto (-30), 3) := by decide +kernel
theorem dX10_tellsNoun_148 : decode cX10_tellsNoun 148 = .ok (.aload_n 0, 1) := by decide +kernel
theorem dX10_tellsNoun_149 : decode cX10_tellsNoun 149 = .ok (.getfield 69, 3) := by decide +kernel
theorem dX10_tellsNoun_152 : decode cX10_tellsNoun 152 = .ok (.iload_n 2, 1) := by decide +kernel
theorem dX10_tellsNoun_153 : decode cX10_tellsNoun 153 = .ok (.aload_n 0, 1) := by decide +kernel
theorem dX10_tellsNoun_154 : decode cX10_tellsNoun 154 = .ok (.getfield 75, 3) := by decide +kernel
theorem dX10_tellsNoun_157 : decode cX10_tellsNoun 157 = .ok (.iload_n 1, 1) := by decide +kernel
theorem dX10_tellsNoun_158 : decode cX10_tellsNoun 158 = .ok (.iaload, 1) := by decide +kernel
theorem dX10_tellsNoun_159 : decode cX10_tellsNoun 159 = .ok (.iastore, 1) := by decide +kernel
theorem dX10_tellsNoun_160 : decode cX10_tellsNoun 160 = .ok (.aload_n 0, 1) := by decide +kernel
theorem dX10_tellsNoun_161 : decode cX10_tellsNoun 161 = .ok (.getfield 72, 3) := by decide +kernel
theorem dX10_tellsNoun_164 : decode cX10_tellsNoun 164 = .ok (.iload_n 2, 1) := by decide +kernel
theorem dX10_tellsNoun_165 : decode cX10_tellsNoun 165 = .ok (.aload_n 0, 1) := by decide +kernel
theorem dX10_tellsNoun_166 : decode cX10_tellsNoun 166 = .ok (.getfield 180, 3) := by decide +kernel
theorem dX10_tellsNoun_169 : decode cX10_tellsNoun 169 = .ok (.iastore, 1) := by decide +kernel
theorem dX10_tellsNoun_170 : decode cX10_tellsNoun 170 = .ok (.aload_n 0, 1) := by decide +kernel
theorem dX10_tellsNoun_171 : decode cX10_tellsNoun 171 = .ok (.aload_n 0, 1) := by decide +kernel
theorem dX10_tellsNoun_172 : decode cX10_tellsNoun 172 = .ok (.getfield 256, 3) := by decide +kernel
theorem dX10_tellsNoun_175 : decode cX10_tellsNoun 175 = .ok (.iconst 1, 1) := by decide +kernel
theorem dX10_tellsNoun_176 : decode cX10_tellsNoun 176 = .ok (.iadd, 1) := by decide +kernel
theorem dX10_tellsNoun_177 : decode cX10_tellsNoun 177 = .ok (.putfield 256, 3) := by decide +kernel
theorem dX10_tellsNoun_180 : decode cX10_tellsNoun 180 = .ok (.return_, 1) := by decide +kernel
theorem dX10_keepsNoun_0 : decode cX10_keepsNoun 0 = .ok (.iconst 0, 1) := by decide +kernel
theorem dX10_keepsNoun_1 : decode cX10_keepsNoun 1 = .ok (.istore_n 1, 1) := by decide +kernel
theorem dX10_keepsNoun_2 : decode cX10_keepsNoun 2 = .ok (.iload_n 1, 1) := by decide +kernel
theorem dX10_keepsNoun_3 : decode cX10_keepsNoun 3 = .ok (.aload_n 0, 1) := by decide +kernel
theorem dX10_keepsNoun_4 : decode cX10_keepsNoun 4 = .ok (.getfield 51, 3) := by decide +kernel
theorem dX10_keepsNoun_7 : decode cX10_keepsNoun 7 = .ok (.iconst 0, 1) := by decide +kernel
theorem dX10_keepsNoun_8 : decode cX10_keepsNoun 8 = .ok (.iaload, 1) := by decide +kernel
theorem dX10_keepsNoun_9 : decode cX10_keepsNoun 9 = .ok (.if_icmp .ge 47, 3) := by decide +kernel
theorem dX10_keepsNoun_12 : decode cX10_keepsNoun 12 = .ok (.aload_n 0, 1) := by decide +kernel
theorem dX10_keepsNoun_13 : decode cX10_keepsNoun 13 = .ok (.aload_n 0, 1) := by decide +kernel
theorem dX10_keepsNoun_14 : decode cX10_keepsNoun 14 = .ok (.getfield 57, 3) := by decide +kernel
theorem dX10_keepsNoun_17 : decode cX10_keepsNoun 17 = .ok (.iload_n 1, 1) := by decide +kernel
theorem dX10_keepsNoun_18 : decode cX10_keepsNoun 18 = .ok (.iaload, 1) := by decide +kernel
theorem dX10_keepsNoun_19 : decode cX10_keepsNoun 19 = .ok (.iconst 2, 1) := by decide +kernel
theorem dX10_keepsNoun_20 : decode cX10_keepsNoun 20 = .ok (.if_icmp .lt 23, 3) := by decide +kernel
theorem dX10_keepsNoun_23 : decode cX10_keepsNoun 23 = .ok (.aload_n 0, 1) := by decide +kernel
theorem dX10_keepsNoun_24 : decode cX10_keepsNoun 24 = .ok (.getfield 60, 3) := by decide +kernel
theorem dX10_keepsNoun_27 : decode cX10_keepsNoun 27 = .ok (.iload_n 1, 1) := by decide +kernel
theorem dX10_keepsNoun_28 : decode cX10_keepsNoun 28 = .ok (.iaload, 1) := by decide +kernel
theorem dX10_keepsNoun_29 : decode cX10_keepsNoun 29 = .ok (.bipush 28, 2) := by decide +kernel
theorem dX10_keepsNoun_31 : decode cX10_keepsNoun 31 = .ok (.if_icmp .eq 12, 3) := by decide +kernel
theorem dX10_keepsNoun_34 : decode cX10_keepsNoun 34 = .ok (.aload_n 0, 1) := by decide +kernel
theorem dX10_keepsNoun_35 : decode cX10_keepsNoun 35 = .ok (.getfield 60, 3) := by decide +kernel
theorem dX10_keepsNoun_38 : decode cX10_keepsNoun 38 = .ok (.iload_n 1, 1) := by decide +kernel
theorem dX10_keepsNoun_39 : decode cX10_keepsNoun 39 = .ok (.iaload, 1) := by decide +kernel
theorem dX10_keepsNoun_40 : decode cX10_keepsNoun 40 = .ok (.goto 7, 3) := by decide +kernel
theorem dX10_keepsNoun_43 : decode cX10_keepsNoun 43 = .ok (.aload_n 0, 1) := by decide +kernel
theorem dX10_keepsNoun_44 : decode cX10_keepsNoun 44 = .ok (.getfield 180, 3) := by decide +kernel
theorem dX10_keepsNoun_47 : decode cX10_keepsNoun 47 = .ok (.putfield 180, 3) := by decide +kernel
theorem dX10_keepsNoun_50 : decode cX10_keepsNoun 50 = .ok (.iinc 1 1, 3) := by decide +kernel
theorem dX10_keepsNoun_53 : decode cX10_keepsNoun 53 = .ok (.goto (-51), 3) := by decide +kernel
theorem dX10_keepsNoun_56 : decode cX10_keepsNoun 56 = .ok (.return_, 1) := by decide +kernel
theorem dX10_hasRoom_0 : decode cX10_hasRoom 0 = .ok (.aload_n 0, 1) := by decide +kernel
theorem dX10_hasRoom_1 : decode cX10_hasRoom 1 = .ok (.getfield 268, 3) := by decide +kernel
theorem dX10_hasRoom_4 : decode cX10_hasRoom 4 = .ok (.bipush 6, 2) := by decide +kernel
theorem dX10_hasRoom_6 : decode cX10_hasRoom 6 = .ok (.if_icmp .ne 18, 3) := by decide +kernel
theorem dX10_hasRoom_9 : decode cX10_hasRoom 9 = .ok (.aload_n 0, 1) := by decide +kernel
theorem dX10_hasRoom_10 : decode cX10_hasRoom 10 = .ok (.getfield 256, 3) := by decide +kernel
theorem dX10_hasRoom_13 : decode cX10_hasRoom 13 = .ok (.bipush 8, 2) := by decide +kernel
theorem dX10_hasRoom_15 : decode cX10_hasRoom 15 = .ok (.if_icmp .ge 7, 3) := by decide +kernel
theorem dX10_hasRoom_18 : decode cX10_hasRoom 18 = .ok (.iconst 1, 1) := by decide +kernel
theorem dX10_hasRoom_19 : decode cX10_hasRoom 19 = .ok (.goto 4, 3) := by decide +kernel
theorem dX10_hasRoom_22 : decode cX10_hasRoom 22 = .ok (.iconst 0, 1) := by decide +kernel
theorem dX10_hasRoom_23 : decode cX10_hasRoom 23 = .ok (.ireturn, 1) := by decide +kernel
theorem dX10_hasRoom_24 : decode cX10_hasRoom 24 = .ok (.aload_n 0, 1) := by decide +kernel
theorem dX10_hasRoom_25 : decode cX10_hasRoom 25 = .ok (.getfield 268, 3) := by decide +kernel
theorem dX10_hasRoom_28 : decode cX10_hasRoom 28 = .ok (.bipush 7, 2) := by decide +kernel
theorem dX10_hasRoom_30 : decode cX10_hasRoom 30 = .ok (.if_icmp .eq 12, 3) := by decide +kernel
theorem dX10_hasRoom_33 : decode cX10_hasRoom 33 = .ok (.aload_n 0, 1) := by decide +kernel
theorem dX10_hasRoom_34 : decode cX10_hasRoom 34 = .ok (.getfield 268, 3) := by decide +kernel
theorem dX10_hasRoom_37 : decode cX10_hasRoom 37 = .ok (.bipush 8, 2) := by decide +kernel
theorem dX10_hasRoom_39 : decode cX10_hasRoom 39 = .ok (.if_icmp .ne 18, 3) := by decide +kernel
theorem dX10_hasRoom_42 : decode cX10_hasRoom 42 = .ok (.aload_n 0, 1) := by decide +kernel
theorem dX10_hasRoom_43 : decode cX10_hasRoom 43 = .ok (.getfield 438, 3) := by decide +kernel
theorem dX10_hasRoom_46 : decode cX10_hasRoom 46 = .ok (.bipush 20, 2) := by decide +kernel
theorem dX10_hasRoom_48 : decode cX10_hasRoom 48 = .ok (.if_icmp .ge 7, 3) := by decide +kernel
theorem dX10_hasRoom_51 : decode cX10_hasRoom 51 = .ok (.iconst 1, 1) := by decide +kernel
theorem dX10_hasRoom_52 : decode cX10_hasRoom 52 = .ok (.goto 4, 3) := by decide +kernel
theorem dX10_hasRoom_55 : decode cX10_hasRoom 55 = .ok (.iconst 0, 1) := by decide +kernel
theorem dX10_hasRoom_56 : decode cX10_hasRoom 56 = .ok (.ireturn, 1) := by decide +kernel
theorem dX10_hasRoom_57 : decode cX10_hasRoom 57 = .ok (.aload_n 0, 1) := by decide +kernel
theorem dX10_hasRoom_58 : decode cX10_hasRoom 58 = .ok (.getfield 268, 3) := by decide +kernel
theorem dX10_hasRoom_61 : decode cX10_hasRoom 61 = .ok (.invokestatic 432, 3) := by decide +kernel
theorem dX10_hasRoom_64 : decode cX10_hasRoom 64 = .ok (.ifCond .eq 18, 3) := by decide +kernel
theorem dX10_hasRoom_67 : decode cX10_hasRoom 67 = .ok (.aload_n 0, 1) := by decide +kernel
theorem dX10_hasRoom_68 : decode cX10_hasRoom 68 = .ok (.getfield 203, 3) := by decide +kernel
theorem dX10_hasRoom_71 : decode cX10_hasRoom 71 = .ok (.aload_n 0, 1) := by decide +kernel
theorem dX10_hasRoom_72 : decode cX10_hasRoom 72 = .ok (.getfield 414, 3) := by decide +kernel
theorem dX10_hasRoom_75 : decode cX10_hasRoom 75 = .ok (.iadd, 1) := by decide +kernel
theorem dX10_hasRoom_76 : decode cX10_hasRoom 76 = .ok (.sipush 200, 3) := by decide +kernel
theorem dX10_hasRoom_79 : decode cX10_hasRoom 79 = .ok (.if_icmp .gt 7, 3) := by decide +kernel
theorem dX10_hasRoom_82 : decode cX10_hasRoom 82 = .ok (.iconst 1, 1) := by decide +kernel
theorem dX10_hasRoom_83 : decode cX10_hasRoom 83 = .ok (.goto 4, 3) := by decide +kernel
theorem dX10_hasRoom_86 : decode cX10_hasRoom 86 = .ok (.iconst 0, 1) := by decide +kernel
theorem dX10_hasRoom_87 : decode cX10_hasRoom 87 = .ok (.ireturn, 1) := by decide +kernel
theorem dX10_done_0 : decode cX10_done 0 = .ok (.aload_n 0, 1) := by decide +kernel
theorem dX10_done_1 : decode cX10_done 1 = .ok (.getfield 320, 3) := by decide +kernel
theorem dX10_done_4 : decode cX10_done 4 = .ok (.ifCond .ne 5, 3) := by decide +kernel
theorem dX10_done_7 : decode cX10_done 7 = .ok (.iconst (-1), 1) := by decide +kernel
theorem dX10_done_8 : decode cX10_done 8 = .ok (.ireturn, 1) := by decide +kernel
theorem dX10_done_9 : decode cX10_done 9 = .ok (.aload_n 0, 1) := by decide +kernel
theorem dX10_done_10 : decode cX10_done 10 = .ok (.invokevirtual 411, 3) := by decide +kernel
theorem dX10_done_13 : decode cX10_done 13 = .ok (.istore_n 1, 1) := by decide +kernel
theorem dX10_done_14 : decode cX10_done 14 = .ok (.iload_n 1, 1) := by decide +kernel
theorem dX10_done_15 : decode cX10_done 15 = .ok (.ifCond .ge 6, 3) := by decide +kernel
theorem dX10_done_18 : decode cX10_done 18 = .ok (.bipush (-2), 2) := by decide +kernel
theorem dX10_done_20 : decode cX10_done 20 = .ok (.ireturn, 1) := by decide +kernel
theorem dX10_done_21 : decode cX10_done 21 = .ok (.aload_n 0, 1) := by decide +kernel
theorem dX10_done_22 : decode cX10_done 22 = .ok (.getfield 268, 3) := by decide +kernel
theorem dX10_done_25 : decode cX10_done 25 = .ok (.invokestatic 432, 3) := by decide +kernel
theorem dX10_done_28 : decode cX10_done 28 = .ok (.ifCond .eq 7, 3) := by decide +kernel
theorem dX10_done_31 : decode cX10_done 31 = .ok (.aload_n 0, 1) := by decide +kernel
theorem dX10_done_32 : decode cX10_done 32 = .ok (.invokevirtual 435, 3) := by decide +kernel
theorem dX10_done_35 : decode cX10_done 35 = .ok (.aload_n 0, 1) := by decide +kernel
theorem dX10_done_36 : decode cX10_done 36 = .ok (.getfield 441, 3) := by decide +kernel
theorem dX10_done_39 : decode cX10_done 39 = .ok (.bipush 60, 2) := by decide +kernel
theorem dX10_done_41 : decode cX10_done 41 = .ok (.if_icmp .eq 10, 3) := by decide +kernel
theorem dX10_done_44 : decode cX10_done 44 = .ok (.aload_n 0, 1) := by decide +kernel
theorem dX10_done_45 : decode cX10_done 45 = .ok (.invokevirtual 444, 3) := by decide +kernel
theorem dX10_done_48 : decode cX10_done 48 = .ok (.ifCond .ne 6, 3) := by decide +kernel
theorem dX10_done_51 : decode cX10_done 51 = .ok (.bipush (-3), 2) := by decide +kernel
theorem dX10_done_53 : decode cX10_done 53 = .ok (.ireturn, 1) := by decide +kernel
theorem dX10_done_54 : decode cX10_done 54 = .ok (.iconst 0, 1) := by decide +kernel
theorem dX10_done_55 : decode cX10_done 55 = .ok (.istore_n 2, 1) := by decide +kernel
theorem dX10_done_56 : decode cX10_done 56 = .ok (.iload_n 2, 1) := by decide +kernel
theorem dX10_done_57 : decode cX10_done 57 = .ok (.aload_n 0, 1) := by decide +kernel
theorem dX10_done_58 : decode cX10_done 58 = .ok (.getfield 51, 3) := by decide +kernel
theorem dX10_done_61 : decode cX10_done 61 = .ok (.iconst 0, 1) := by decide +kernel
theorem dX10_done_62 : decode cX10_done 62 = .ok (.iaload, 1) := by decide +kernel
theorem dX10_done_63 : decode cX10_done 63 = .ok (.if_icmp .ge 53, 3) := by decide +kernel
theorem dX10_done_66 : decode cX10_done 66 = .ok (.aload_n 0, 1) := by decide +kernel
theorem dX10_done_67 : decode cX10_done 67 = .ok (.getfield 100, 3) := by decide +kernel
theorem dX10_done_70 : decode cX10_done 70 = .ok (.iload_n 2, 1) := by decide +kernel
theorem dX10_done_71 : decode cX10_done 71 = .ok (.iaload, 1) := by decide +kernel
theorem dX10_done_72 : decode cX10_done 72 = .ok (.invokestatic 390, 3) := by decide +kernel
theorem dX10_done_75 : decode cX10_done 75 = .ok (.iconst 1, 1) := by decide +kernel
theorem dX10_done_76 : decode cX10_done 76 = .ok (.if_icmp .eq 6, 3) := by decide +kernel
theorem dX10_done_79 : decode cX10_done 79 = .ok (.goto 31, 3) := by decide +kernel
theorem dX10_done_82 : decode cX10_done 82 = .ok (.aload_n 0, 1) := by decide +kernel
theorem dX10_done_83 : decode cX10_done 83 = .ok (.getfield 97, 3) := by decide +kernel
theorem dX10_done_86 : decode cX10_done 86 = .ok (.aload_n 0, 1) := by decide +kernel
theorem dX10_done_87 : decode cX10_done 87 = .ok (.getfield 332, 3) := by decide +kernel
theorem dX10_done_90 : decode cX10_done 90 = .ok (.aload_n 0, 1) := by decide +kernel
theorem dX10_done_91 : decode cX10_done 91 = .ok (.getfield 100, 3) := by decide +kernel
theorem dX10_done_94 : decode cX10_done 94 = .ok (.iload_n 2, 1) := by decide +kernel
theorem dX10_done_95 : decode cX10_done 95 = .ok (.iaload, 1) := by decide +kernel
theorem dX10_done_96 : decode cX10_done 96 = .ok (.invokestatic 360, 3) := by decide +kernel
theorem dX10_done_99 : decode cX10_done 99 = .ok (.iastore, 1) := by decide +kernel
theorem dX10_done_100 : decode cX10_done 100 = .ok (.aload_n 0, 1) := by decide +kernel
theorem dX10_done_101 : decode cX10_done 101 = .ok (.aload_n 0, 1) := by decide +kernel
theorem dX10_done_102 : decode cX10_done 102 = .ok (.getfield 332, 3) := by decide +kernel
theorem dX10_done_105 : decode cX10_done 105 = .ok (.iconst 1, 1) := by decide +kernel
theorem dX10_done_106 : decode cX10_done 106 = .ok (.iadd, 1) := by decide +kernel
theorem dX10_done_107 : decode cX10_done 107 = .ok (.putfield 332, 3) := by decide +kernel
theorem dX10_done_110 : decode cX10_done 110 = .ok (.iinc 2 1, 3) := by decide +kernel
theorem dX10_done_113 : decode cX10_done 113 = .ok (.goto (-57), 3) := by decide +kernel
theorem dX10_done_116 : decode cX10_done 116 = .ok (.aload_n 0, 1) := by decide +kernel
theorem dX10_done_117 : decode cX10_done 117 = .ok (.getfield 268, 3) := by decide +kernel
theorem dX10_done_120 : decode cX10_done 120 = .ok (.bipush 6, 2) := by decide +kernel
theorem dX10_done_122 : decode cX10_done 122 = .ok (.if_icmp .ne 8, 3) := by decide +kernel
theorem dX10_done_125 : decode cX10_done 125 = .ok (.aload_n 0, 1) := by decide +kernel
theorem dX10_done_126 : decode cX10_done 126 = .ok (.iconst 0, 1) := by decide +kernel
theorem dX10_done_127 : decode cX10_done 127 = .ok (.invokevirtual 447, 3) := by decide +kernel
theorem dX10_done_130 : decode cX10_done 130 = .ok (.aload_n 0, 1) := by decide +kernel
theorem dX10_done_131 : decode cX10_done 131 = .ok (.getfield 268, 3) := by decide +kernel
theorem dX10_done_134 : decode cX10_done 134 = .ok (.bipush 7, 2) := by decide +kernel
theorem dX10_done_136 : decode cX10_done 136 = .ok (.if_icmp .eq 12, 3) := by decide +kernel
theorem dX10_done_139 : decode cX10_done 139 = .ok (.aload_n 0, 1) := by decide +kernel
theorem dX10_done_140 : decode cX10_done 140 = .ok (.getfield 268, 3) := by decide +kernel
theorem dX10_done_143 : decode cX10_done 143 = .ok (.bipush 8, 2) := by decide +kernel
theorem dX10_done_145 : decode cX10_done 145 = .ok (.if_icmp .ne 51, 3) := by decide +kernel
theorem dX10_done_148 : decode cX10_done 148 = .ok (.aload_n 0, 1) := by decide +kernel
theorem dX10_done_149 : decode cX10_done 149 = .ok (.getfield 118, 3) := by decide +kernel
theorem dX10_done_152 : decode cX10_done 152 = .ok (.aload_n 0, 1) := by decide +kernel
theorem dX10_done_153 : decode cX10_done 153 = .ok (.getfield 438, 3) := by decide +kernel
theorem dX10_done_156 : decode cX10_done 156 = .ok (.aload_n 0, 1) := by decide +kernel
theorem dX10_done_157 : decode cX10_done 157 = .ok (.getfield 100, 3) := by decide +kernel
theorem dX10_done_160 : decode cX10_done 160 = .ok (.iconst 0, 1) := by decide +kernel
theorem dX10_done_161 : decode cX10_done 161 = .ok (.iaload, 1) := by decide +kernel
theorem dX10_done_162 : decode cX10_done 162 = .ok (.iastore, 1) := by decide +kernel
theorem dX10_done_163 : decode cX10_done 163 = .ok (.aload_n 0, 1) := by decide +kernel
theorem dX10_done_164 : decode cX10_done 164 = .ok (.getfield 121, 3) := by decide +kernel
theorem dX10_done_167 : decode cX10_done 167 = .ok (.aload_n 0, 1) := by decide +kernel
theorem dX10_done_168 : decode cX10_done 168 = .ok (.getfield 438, 3) := by decide +kernel
theorem dX10_done_171 : decode cX10_done 171 = .ok (.aload_n 0, 1) := by decide +kernel
theorem dX10_done_172 : decode cX10_done 172 = .ok (.getfield 268, 3) := by decide +kernel
theorem dX10_done_175 : decode cX10_done 175 = .ok (.bipush 7, 2) := by decide +kernel
theorem dX10_done_177 : decode cX10_done 177 = .ok (.if_icmp .ne 7, 3) := by decide +kernel
theorem dX10_done_180 : decode cX10_done 180 = .ok (.iconst 1, 1) := by decide +kernel
theorem dX10_done_181 : decode cX10_done 181 = .ok (.goto 4, 3) := by decide +kernel
theorem dX10_done_184 : decode cX10_done 184 = .ok (.iconst 0, 1) := by decide +kernel
theorem dX10_done_185 : decode cX10_done 185 = .ok (.bastore, 1) := by decide +kernel
theorem dX10_done_186 : decode cX10_done 186 = .ok (.aload_n 0, 1) := by decide +kernel
theorem dX10_done_187 : decode cX10_done 187 = .ok (.aload_n 0, 1) := by decide +kernel
theorem dX10_done_188 : decode cX10_done 188 = .ok (.getfield 438, 3) := by decide +kernel
theorem dX10_done_191 : decode cX10_done 191 = .ok (.iconst 1, 1) := by decide +kernel
theorem dX10_done_192 : decode cX10_done 192 = .ok (.iadd, 1) := by decide +kernel
theorem dX10_done_193 : decode cX10_done 193 = .ok (.putfield 438, 3) := by decide +kernel
theorem dX10_done_196 : decode cX10_done 196 = .ok (.iconst 0, 1) := by decide +kernel
theorem dX10_done_197 : decode cX10_done 197 = .ok (.istore_n 2, 1) := by decide +kernel
theorem dX10_done_198 : decode cX10_done 198 = .ok (.iload_n 2, 1) := by decide +kernel
theorem dX10_done_199 : decode cX10_done 199 = .ok (.aload_n 0, 1) := by decide +kernel
theorem dX10_done_200 : decode cX10_done 200 = .ok (.getfield 414, 3) := by decide +kernel
theorem dX10_done_203 : decode cX10_done 203 = .ok (.if_icmp .ge 45, 3) := by decide +kernel
theorem dX10_done_206 : decode cX10_done 206 = .ok (.aload_n 0, 1) := by decide +kernel
theorem dX10_done_207 : decode cX10_done 207 = .ok (.getfield 268, 3) := by decide +kernel
theorem dX10_done_210 : decode cX10_done 210 = .ok (.invokestatic 432, 3) := by decide +kernel
theorem dX10_done_213 : decode cX10_done 213 = .ok (.ifCond .eq 35, 3) := by decide +kernel
theorem dX10_done_216 : decode cX10_done 216 = .ok (.aload_n 0, 1) := by decide +kernel
theorem dX10_done_217 : decode cX10_done 217 = .ok (.aload_n 0, 1) := by decide +kernel
theorem dX10_done_218 : decode cX10_done 218 = .ok (.getfield 109, 3) := by decide +kernel
theorem dX10_done_221 : decode cX10_done 221 = .ok (.iload_n 2, 1) := by decide +kernel
theorem dX10_done_222 : decode cX10_done 222 = .ok (.iaload, 1) := by decide +kernel
theorem dX10_done_223 : decode cX10_done 223 = .ok (.aload_n 0, 1) := by decide +kernel
theorem dX10_done_224 : decode cX10_done 224 = .ok (.getfield 112, 3) := by decide +kernel
theorem dX10_done_227 : decode cX10_done 227 = .ok (.iload_n 2, 1) := by decide +kernel
theorem dX10_done_228 : decode cX10_done 228 = .ok (.iaload, 1) := by decide +kernel
theorem dX10_done_229 : decode cX10_done 229 = .ok (.aload_n 0, 1) := by decide +kernel
theorem dX10_done_230 : decode cX10_done 230 = .ok (.getfield 115, 3) := by decide +kernel
theorem dX10_done_233 : decode cX10_done 233 = .ok (.iload_n 2, 1) := by decide +kernel
theorem dX10_done_234 : decode cX10_done 234 = .ok (.iaload, 1) := by decide +kernel
theorem dX10_done_235 : decode cX10_done 235 = .ok (.aload_n 0, 1) := by decide +kernel
theorem dX10_done_236 : decode cX10_done 236 = .ok (.getfield 441, 3) := by decide +kernel
theorem dX10_done_239 : decode cX10_done 239 = .ok (.invokevirtual 210, 3) := by decide +kernel
theorem dX10_done_242 : decode cX10_done 242 = .ok (.iinc 2 1, 3) := by decide +kernel
theorem dX10_done_245 : decode cX10_done 245 = .ok (.goto (-47), 3) := by decide +kernel
theorem dX10_done_248 : decode cX10_done 248 = .ok (.aload_n 0, 1) := by decide +kernel
theorem dX10_done_249 : decode cX10_done 249 = .ok (.invokevirtual 450, 3) := by decide +kernel
theorem dX10_done_252 : decode cX10_done 252 = .ok (.aload_n 0, 1) := by decide +kernel
theorem dX10_done_253 : decode cX10_done 253 = .ok (.iconst 0, 1) := by decide +kernel
theorem dX10_done_254 : decode cX10_done 254 = .ok (.putfield 320, 3) := by decide +kernel
theorem dX10_done_257 : decode cX10_done 257 = .ok (.aload_n 0, 1) := by decide +kernel
theorem dX10_done_258 : decode cX10_done 258 = .ok (.aload_n 0, 1) := by decide +kernel
theorem dX10_done_259 : decode cX10_done 259 = .ok (.getfield 441, 3) := by decide +kernel
theorem dX10_done_262 : decode cX10_done 262 = .ok (.iconst 1, 1) := by decide +kernel
theorem dX10_done_263 : decode cX10_done 263 = .ok (.iadd, 1) := by decide +kernel
theorem dX10_done_264 : decode cX10_done 264 = .ok (.putfield 441, 3) := by decide +kernel
theorem dX10_done_267 : decode cX10_done 267 = .ok (.aload_n 0, 1) := by decide +kernel
theorem dX10_done_268 : decode cX10_done 268 = .ok (.getfield 441, 3) := by decide +kernel
theorem dX10_done_271 : decode cX10_done 271 = .ok (.iconst 1, 1) := by decide +kernel
theorem dX10_done_272 : decode cX10_done 272 = .ok (.isub, 1) := by decide +kernel
theorem dX10_done_273 : decode cX10_done 273 = .ok (.ireturn, 1) := by decide +kernel
theorem dX10_mentioned_0 : decode cX10_mentioned 0 = .ok (.iload_n 1, 1) := by decide +kernel
theorem dX10_mentioned_1 : decode cX10_mentioned 1 = .ok (.ifCond .lt 27, 3) := by decide +kernel
theorem dX10_mentioned_4 : decode cX10_mentioned 4 = .ok (.iload_n 1, 1) := by decide +kernel
theorem dX10_mentioned_5 : decode cX10_mentioned 5 = .ok (.aload_n 0, 1) := by decide +kernel
theorem dX10_mentioned_6 : decode cX10_mentioned 6 = .ok (.getfield 332, 3) := by decide +kernel
theorem dX10_mentioned_9 : decode cX10_mentioned 9 = .ok (.if_icmp .ge 19, 3) := by decide +kernel
theorem dX10_mentioned_12 : decode cX10_mentioned 12 = .ok (.aload_n 0, 1) := by decide +kernel
theorem dX10_mentioned_13 : decode cX10_mentioned 13 = .ok (.getfield 97, 3) := by decide +kernel
theorem dX10_mentioned_16 : decode cX10_mentioned 16 = .ok (.aload_n 0, 1) := by decide +kernel
theorem dX10_mentioned_17 : decode cX10_mentioned 17 = .ok (.getfield 332, 3) := by decide +kernel
theorem dX10_mentioned_20 : decode cX10_mentioned 20 = .ok (.iconst 1, 1) := by decide +kernel
theorem dX10_mentioned_21 : decode cX10_mentioned 21 = .ok (.isub, 1) := by decide +kernel
theorem dX10_mentioned_22 : decode cX10_mentioned 22 = .ok (.iload_n 1, 1) := by decide +kernel
theorem dX10_mentioned_23 : decode cX10_mentioned 23 = .ok (.isub, 1) := by decide +kernel
theorem dX10_mentioned_24 : decode cX10_mentioned 24 = .ok (.iaload, 1) := by decide +kernel
theorem dX10_mentioned_25 : decode cX10_mentioned 25 = .ok (.goto 4, 3) := by decide +kernel
theorem dX10_mentioned_28 : decode cX10_mentioned 28 = .ok (.iconst (-1), 1) := by decide +kernel
theorem dX10_mentioned_29 : decode cX10_mentioned 29 = .ok (.ireturn, 1) := by decide +kernel
theorem dX10_owned_0 : decode cX10_owned 0 = .ok (.aload_n 0, 1) := by decide +kernel
theorem dX10_owned_1 : decode cX10_owned 1 = .ok (.iload_n 1, 1) := by decide +kernel
theorem dX10_owned_2 : decode cX10_owned 2 = .ok (.invokevirtual 199, 3) := by decide +kernel
theorem dX10_owned_5 : decode cX10_owned 5 = .ok (.ifCond .ne 5, 3) := by decide +kernel
theorem dX10_owned_8 : decode cX10_owned 8 = .ok (.iconst (-1), 1) := by decide +kernel
theorem dX10_owned_9 : decode cX10_owned 9 = .ok (.ireturn, 1) := by decide +kernel
theorem dX10_owned_10 : decode cX10_owned 10 = .ok (.iconst 0, 1) := by decide +kernel
theorem dX10_owned_11 : decode cX10_owned 11 = .ok (.istore_n 2, 1) := by decide +kernel
theorem dX10_owned_12 : decode cX10_owned 12 = .ok (.iconst 0, 1) := by decide +kernel
theorem dX10_owned_13 : decode cX10_owned 13 = .ok (.istore_n 3, 1) := by decide +kernel
theorem dX10_owned_14 : decode cX10_owned 14 = .ok (.iconst 0, 1) := by decide +kernel
theorem dX10_owned_15 : decode cX10_owned 15 = .ok (.istore 4, 2) := by decide +kernel
theorem dX10_owned_17 : decode cX10_owned 17 = .ok (.iload 4, 2) := by decide +kernel
theorem dX10_owned_19 : decode cX10_owned 19 = .ok (.aload_n 0, 1) := by decide +kernel
theorem dX10_owned_20 : decode cX10_owned 20 = .ok (.getfield 438, 3) := by decide +kernel
theorem dX10_owned_23 : decode cX10_owned 23 = .ok (.if_icmp .ge 66, 3) := by decide +kernel
theorem dX10_owned_26 : decode cX10_owned 26 = .ok (.aload_n 0, 1) := by decide +kernel
theorem dX10_owned_27 : decode cX10_owned 27 = .ok (.getfield 118, 3) := by decide +kernel
theorem dX10_owned_30 : decode cX10_owned 30 = .ok (.iload 4, 2) := by decide +kernel
theorem dX10_owned_32 : decode cX10_owned 32 = .ok (.iaload, 1) := by decide +kernel
theorem dX10_owned_33 : decode cX10_owned 33 = .ok (.iload_n 1, 1) := by decide +kernel
theorem dX10_owned_34 : decode cX10_owned 34 = .ok (.ishr, 1) := by decide +kernel
theorem dX10_owned_35 : decode cX10_owned 35 = .ok (.iconst 1, 1) := by decide +kernel
theorem dX10_owned_36 : decode cX10_owned 36 = .ok (.iand, 1) := by decide +kernel
theorem dX10_owned_37 : decode cX10_owned 37 = .ok (.ifCond .ne 6, 3) := by decide +kernel
theorem dX10_owned_40 : decode cX10_owned 40 = .ok (.goto 43, 3) := by decide +kernel
theorem dX10_owned_43 : decode cX10_owned 43 = .ok (.iload_n 2, 1) := by decide +kernel
theorem dX10_owned_44 : decode cX10_owned 44 = .ok (.ifCond .ne 13, 3) := by decide +kernel
theorem dX10_owned_47 : decode cX10_owned 47 = .ok (.aload_n 0, 1) := by decide +kernel
theorem dX10_owned_48 : decode cX10_owned 48 = .ok (.getfield 121, 3) := by decide +kernel
theorem dX10_owned_51 : decode cX10_owned 51 = .ok (.iload 4, 2) := by decide +kernel
theorem dX10_owned_53 : decode cX10_owned 53 = .ok (.baload, 1) := by decide +kernel
theorem dX10_owned_54 : decode cX10_owned 54 = .ok (.ifCond .eq 7, 3) := by decide +kernel
theorem dX10_owned_57 : decode cX10_owned 57 = .ok (.iconst 1, 1) := by decide +kernel
theorem dX10_owned_58 : decode cX10_owned 58 = .ok (.goto 4, 3) := by decide +kernel
theorem dX10_owned_61 : decode cX10_owned 61 = .ok (.iconst 0, 1) := by decide +kernel
theorem dX10_owned_62 : decode cX10_owned 62 = .ok (.istore_n 2, 1) := by decide +kernel
theorem dX10_owned_63 : decode cX10_owned 63 = .ok (.iload_n 3, 1) := by decide +kernel
theorem dX10_owned_64 : decode cX10_owned 64 = .ok (.ifCond .ne 13, 3) := by decide +kernel
theorem dX10_owned_67 : decode cX10_owned 67 = .ok (.aload_n 0, 1) := by decide +kernel
theorem dX10_owned_68 : decode cX10_owned 68 = .ok (.getfield 121, 3) := by decide +kernel
theorem dX10_owned_71 : decode cX10_owned 71 = .ok (.iload 4, 2) := by decide +kernel
theorem dX10_owned_73 : decode cX10_owned 73 = .ok (.baload, 1) := by decide +kernel
theorem dX10_owned_74 : decode cX10_owned 74 = .ok (.ifCond .ne 7, 3) := by decide +kernel
theorem dX10_owned_77 : decode cX10_owned 77 = .ok (.iconst 1, 1) := by decide +kernel
theorem dX10_owned_78 : decode cX10_owned 78 = .ok (.goto 4, 3) := by decide +kernel
theorem dX10_owned_81 : decode cX10_owned 81 = .ok (.iconst 0, 1) := by decide +kernel
theorem dX10_owned_82 : decode cX10_owned 82 = .ok (.istore_n 3, 1) := by decide +kernel
theorem dX10_owned_83 : decode cX10_owned 83 = .ok (.iinc 4 1, 3) := by decide +kernel
theorem dX10_owned_86 : decode cX10_owned 86 = .ok (.goto (-69), 3) := by decide +kernel
theorem dX10_owned_89 : decode cX10_owned 89 = .ok (.iload_n 2, 1) := by decide +kernel
theorem dX10_owned_90 : decode cX10_owned 90 = .ok (.ifCond .eq 11, 3) := by decide +kernel
theorem dX10_owned_93 : decode cX10_owned 93 = .ok (.iload_n 3, 1) := by decide +kernel
theorem dX10_owned_94 : decode cX10_owned 94 = .ok (.ifCond .eq 7, 3) := by decide +kernel
theorem dX10_owned_97 : decode cX10_owned 97 = .ok (.iconst 3, 1) := by decide +kernel
theorem dX10_owned_98 : decode cX10_owned 98 = .ok (.goto 20, 3) := by decide +kernel
theorem dX10_owned_101 : decode cX10_owned 101 = .ok (.iload_n 2, 1) := by decide +kernel
theorem dX10_owned_102 : decode cX10_owned 102 = .ok (.ifCond .eq 7, 3) := by decide +kernel
theorem dX10_owned_105 : decode cX10_owned 105 = .ok (.iconst 1, 1) := by decide +kernel
theorem dX10_owned_106 : decode cX10_owned 106 = .ok (.goto 12, 3) := by decide +kernel
theorem dX10_owned_109 : decode cX10_owned 109 = .ok (.iload_n 3, 1) := by decide +kernel
theorem dX10_owned_110 : decode cX10_owned 110 = .ok (.ifCond .eq 7, 3) := by decide +kernel
theorem dX10_owned_113 : decode cX10_owned 113 = .ok (.iconst 0, 1) := by decide +kernel
theorem dX10_owned_114 : decode cX10_owned 114 = .ok (.goto 4, 3) := by decide +kernel
theorem dX10_owned_117 : decode cX10_owned 117 = .ok (.iconst 2, 1) := by decide +kernel
theorem dX10_owned_118 : decode cX10_owned 118 = .ok (.ireturn, 1) := by decide +kernel
theorem dX10_judge_0 : decode cX10_judge 0 = .ok (.aload_n 0, 1) := by decide +kernel
theorem dX10_judge_1 : decode cX10_judge 1 = .ok (.iload_n 1, 1) := by decide +kernel
theorem dX10_judge_2 : decode cX10_judge 2 = .ok (.invokevirtual 408, 3) := by decide +kernel
theorem dX10_judge_5 : decode cX10_judge 5 = .ok (.ifCond .eq 12, 3) := by decide +kernel
theorem dX10_judge_8 : decode cX10_judge 8 = .ok (.aload_n 0, 1) := by decide +kernel
theorem dX10_judge_9 : decode cX10_judge 9 = .ok (.getfield 453, 3) := by decide +kernel
theorem dX10_judge_12 : decode cX10_judge 12 = .ok (.bipush 60, 2) := by decide +kernel
theorem dX10_judge_14 : decode cX10_judge 14 = .ok (.if_icmp .ne 5, 3) := by decide +kernel
theorem dX10_judge_17 : decode cX10_judge 17 = .ok (.iconst (-1), 1) := by decide +kernel
theorem dX10_judge_18 : decode cX10_judge 18 = .ok (.ireturn, 1) := by decide +kernel
theorem dX10_judge_19 : decode cX10_judge 19 = .ok (.aload_n 0, 1) := by decide +kernel
theorem dX10_judge_20 : decode cX10_judge 20 = .ok (.invokevirtual 411, 3) := by decide +kernel
theorem dX10_judge_23 : decode cX10_judge 23 = .ok (.iload_n 1, 1) := by decide +kernel
theorem dX10_judge_24 : decode cX10_judge 24 = .ok (.if_icmp .ne 7, 3) := by decide +kernel
theorem dX10_judge_27 : decode cX10_judge 27 = .ok (.iconst 1, 1) := by decide +kernel
theorem dX10_judge_28 : decode cX10_judge 28 = .ok (.goto 4, 3) := by decide +kernel
theorem dX10_judge_31 : decode cX10_judge 31 = .ok (.iconst 0, 1) := by decide +kernel
theorem dX10_judge_32 : decode cX10_judge 32 = .ok (.istore_n 2, 1) := by decide +kernel
theorem dX10_judge_33 : decode cX10_judge 33 = .ok (.iload_n 2, 1) := by decide +kernel
theorem dX10_judge_34 : decode cX10_judge 34 = .ok (.ifCond .ne 35, 3) := by decide +kernel
theorem dX10_judge_37 : decode cX10_judge 37 = .ok (.aload_n 0, 1) := by decide +kernel
theorem dX10_judge_38 : decode cX10_judge 38 = .ok (.aload_n 0, 1) := by decide +kernel
theorem dX10_judge_39 : decode cX10_judge 39 = .ok (.getfield 456, 3) := by decide +kernel
theorem dX10_judge_42 : decode cX10_judge 42 = .ok (.ifCond .ne 10, 3) := by decide +kernel
theorem dX10_judge_45 : decode cX10_judge 45 = .ok (.aload_n 0, 1) := by decide +kernel
theorem dX10_judge_46 : decode cX10_judge 46 = .ok (.getfield 453, 3) := by decide +kernel
theorem dX10_judge_49 : decode cX10_judge 49 = .ok (.goto 7, 3) := by decide +kernel
theorem dX10_judge_52 : decode cX10_judge 52 = .ok (.aload_n 0, 1) := by decide +kernel
theorem dX10_judge_53 : decode cX10_judge 53 = .ok (.getfield 459, 3) := by decide +kernel
theorem dX10_judge_56 : decode cX10_judge 56 = .ok (.putfield 459, 3) := by decide +kernel
theorem dX10_judge_59 : decode cX10_judge 59 = .ok (.aload_n 0, 1) := by decide +kernel
theorem dX10_judge_60 : decode cX10_judge 60 = .ok (.aload_n 0, 1) := by decide +kernel
theorem dX10_judge_61 : decode cX10_judge 61 = .ok (.getfield 456, 3) := by decide +kernel
theorem dX10_judge_64 : decode cX10_judge 64 = .ok (.iconst 1, 1) := by decide +kernel
theorem dX10_judge_65 : decode cX10_judge 65 = .ok (.iadd, 1) := by decide +kernel
theorem dX10_judge_66 : decode cX10_judge 66 = .ok (.putfield 456, 3) := by decide +kernel
theorem dX10_judge_69 : decode cX10_judge 69 = .ok (.aload_n 0, 1) := by decide +kernel
theorem dX10_judge_70 : decode cX10_judge 70 = .ok (.aload_n 0, 1) := by decide +kernel
theorem dX10_judge_71 : decode cX10_judge 71 = .ok (.getfield 453, 3) := by decide +kernel
theorem dX10_judge_74 : decode cX10_judge 74 = .ok (.iconst 1, 1) := by decide +kernel
theorem dX10_judge_75 : decode cX10_judge 75 = .ok (.iadd, 1) := by decide +kernel
theorem dX10_judge_76 : decode cX10_judge 76 = .ok (.putfield 453, 3) := by decide +kernel
theorem dX10_judge_79 : decode cX10_judge 79 = .ok (.iload_n 2, 1) := by decide +kernel
theorem dX10_judge_80 : decode cX10_judge 80 = .ok (.ifCond .eq 7, 3) := by decide +kernel
theorem dX10_judge_83 : decode cX10_judge 83 = .ok (.iconst 1, 1) := by decide +kernel
theorem dX10_judge_84 : decode cX10_judge 84 = .ok (.goto 4, 3) := by decide +kernel
theorem dX10_judge_87 : decode cX10_judge 87 = .ok (.iconst 0, 1) := by decide +kernel
theorem dX10_judge_88 : decode cX10_judge 88 = .ok (.ireturn, 1) := by decide +kernel
theorem dX10_breaks_0 : decode cX10_breaks 0 = .ok (.iload_n 1, 1) := by decide +kernel
theorem dX10_breaks_1 : decode cX10_breaks 1 = .ok (.ifCond .ne 10, 3) := by decide +kernel
theorem dX10_breaks_4 : decode cX10_breaks 4 = .ok (.aload_n 0, 1) := by decide +kernel
theorem dX10_breaks_5 : decode cX10_breaks 5 = .ok (.getfield 456, 3) := by decide +kernel
theorem dX10_breaks_8 : decode cX10_breaks 8 = .ok (.goto 23, 3) := by decide +kernel
theorem dX10_breaks_11 : decode cX10_breaks 11 = .ok (.iload_n 1, 1) := by decide +kernel
theorem dX10_breaks_12 : decode cX10_breaks 12 = .ok (.iconst 1, 1) := by decide +kernel
theorem dX10_breaks_13 : decode cX10_breaks 13 = .ok (.if_icmp .ne 17, 3) := by decide +kernel
theorem dX10_breaks_16 : decode cX10_breaks 16 = .ok (.aload_n 0, 1) := by decide +kernel
theorem dX10_breaks_17 : decode cX10_breaks 17 = .ok (.getfield 456, 3) := by decide +kernel
theorem dX10_breaks_20 : decode cX10_breaks 20 = .ok (.ifCond .le 10, 3) := by decide +kernel
theorem dX10_breaks_23 : decode cX10_breaks 23 = .ok (.aload_n 0, 1) := by decide +kernel
theorem dX10_breaks_24 : decode cX10_breaks 24 = .ok (.getfield 459, 3) := by decide +kernel
theorem dX10_breaks_27 : decode cX10_breaks 27 = .ok (.goto 4, 3) := by decide +kernel
theorem dX10_breaks_30 : decode cX10_breaks 30 = .ok (.iconst (-1), 1) := by decide +kernel
theorem dX10_breaks_31 : decode cX10_breaks 31 = .ok (.ireturn, 1) := by decide +kernel
theorem dX10_acts_0 : decode cX10_acts 0 = .ok (.iload_n 1, 1) := by decide +kernel
theorem dX10_acts_1 : decode cX10_acts 1 = .ok (.ifCond .lt 11, 3) := by decide +kernel
theorem dX10_acts_4 : decode cX10_acts 4 = .ok (.iload_n 1, 1) := by decide +kernel
theorem dX10_acts_5 : decode cX10_acts 5 = .ok (.aload_n 0, 1) := by decide +kernel
theorem dX10_acts_6 : decode cX10_acts 6 = .ok (.getfield 441, 3) := by decide +kernel
theorem dX10_acts_9 : decode cX10_acts 9 = .ok (.if_icmp .lt 5, 3) := by decide +kernel
theorem dX10_acts_12 : decode cX10_acts 12 = .ok (.iconst (-1), 1) := by decide +kernel
theorem dX10_acts_13 : decode cX10_acts 13 = .ok (.ireturn, 1) := by decide +kernel
theorem dX10_acts_14 : decode cX10_acts 14 = .ok (.iconst 0, 1) := by decide +kernel
theorem dX10_acts_15 : decode cX10_acts 15 = .ok (.istore_n 2, 1) := by decide +kernel
theorem dX10_acts_16 : decode cX10_acts 16 = .ok (.iconst 0, 1) := by decide +kernel
theorem dX10_acts_17 : decode cX10_acts 17 = .ok (.istore_n 3, 1) := by decide +kernel
theorem dX10_acts_18 : decode cX10_acts 18 = .ok (.iload_n 3, 1) := by decide +kernel
theorem dX10_acts_19 : decode cX10_acts 19 = .ok (.aload_n 0, 1) := by decide +kernel
theorem dX10_acts_20 : decode cX10_acts 20 = .ok (.getfield 203, 3) := by decide +kernel
theorem dX10_acts_23 : decode cX10_acts 23 = .ok (.if_icmp .ge 27, 3) := by decide +kernel
theorem dX10_acts_26 : decode cX10_acts 26 = .ok (.iload_n 2, 1) := by decide +kernel
theorem dX10_acts_27 : decode cX10_acts 27 = .ok (.aload_n 0, 1) := by decide +kernel
theorem dX10_acts_28 : decode cX10_acts 28 = .ok (.getfield 34, 3) := by decide +kernel
theorem dX10_acts_31 : decode cX10_acts 31 = .ok (.iload_n 3, 1) := by decide +kernel
theorem dX10_acts_32 : decode cX10_acts 32 = .ok (.iaload, 1) := by decide +kernel
theorem dX10_acts_33 : decode cX10_acts 33 = .ok (.iload_n 1, 1) := by decide +kernel
theorem dX10_acts_34 : decode cX10_acts 34 = .ok (.if_icmp .ne 7, 3) := by decide +kernel
theorem dX10_acts_37 : decode cX10_acts 37 = .ok (.iconst 1, 1) := by decide +kernel
theorem dX10_acts_38 : decode cX10_acts 38 = .ok (.goto 4, 3) := by decide +kernel
theorem dX10_acts_41 : decode cX10_acts 41 = .ok (.iconst 0, 1) := by decide +kernel
theorem dX10_acts_42 : decode cX10_acts 42 = .ok (.iadd, 1) := by decide +kernel
theorem dX10_acts_43 : decode cX10_acts 43 = .ok (.istore_n 2, 1) := by decide +kernel
theorem dX10_acts_44 : decode cX10_acts 44 = .ok (.iinc 3 1, 3) := by decide +kernel
theorem dX10_acts_47 : decode cX10_acts 47 = .ok (.goto (-29), 3) := by decide +kernel
theorem dX10_acts_50 : decode cX10_acts 50 = .ok (.iload_n 2, 1) := by decide +kernel
theorem dX10_acts_51 : decode cX10_acts 51 = .ok (.ireturn, 1) := by decide +kernel
theorem dX10_noun_0 : decode cX10_noun 0 = .ok (.iload_n 1, 1) := by decide +kernel
theorem dX10_noun_1 : decode cX10_noun 1 = .ok (.ifCond .lt 11, 3) := by decide +kernel
theorem dX10_noun_4 : decode cX10_noun 4 = .ok (.iload_n 1, 1) := by decide +kernel
theorem dX10_noun_5 : decode cX10_noun 5 = .ok (.aload_n 0, 1) := by decide +kernel
theorem dX10_noun_6 : decode cX10_noun 6 = .ok (.getfield 256, 3) := by decide +kernel
theorem dX10_noun_9 : decode cX10_noun 9 = .ok (.if_icmp .lt 5, 3) := by decide +kernel
theorem dX10_noun_12 : decode cX10_noun 12 = .ok (.iconst (-1), 1) := by decide +kernel
theorem dX10_noun_13 : decode cX10_noun 13 = .ok (.ireturn, 1) := by decide +kernel
theorem dX10_noun_14 : decode cX10_noun 14 = .ok (.aload_n 0, 1) := by decide +kernel
theorem dX10_noun_15 : decode cX10_noun 15 = .ok (.invokevirtual 357, 3) := by decide +kernel
theorem dX10_noun_18 : decode cX10_noun 18 = .ok (.aload_n 0, 1) := by decide +kernel
theorem dX10_noun_19 : decode cX10_noun 19 = .ok (.getfield 103, 3) := by decide +kernel
theorem dX10_noun_22 : decode cX10_noun 22 = .ok (.iload_n 1, 1) := by decide +kernel
theorem dX10_noun_23 : decode cX10_noun 23 = .ok (.iaload, 1) := by decide +kernel
theorem dX10_noun_24 : decode cX10_noun 24 = .ok (.ireturn, 1) := by decide +kernel
theorem dX10_tapeNumber_0 : decode cX10_tapeNumber 0 = .ok (.iconst 0, 1) := by decide +kernel
theorem dX10_tapeNumber_1 : decode cX10_tapeNumber 1 = .ok (.istore_n 2, 1) := by decide +kernel
theorem dX10_tapeNumber_2 : decode cX10_tapeNumber 2 = .ok (.iconst 4, 1) := by decide +kernel
theorem dX10_tapeNumber_3 : decode cX10_tapeNumber 3 = .ok (.iload_n 1, 1) := by decide +kernel
theorem dX10_tapeNumber_4 : decode cX10_tapeNumber 4 = .ok (.imul, 1) := by decide +kernel
theorem dX10_tapeNumber_5 : decode cX10_tapeNumber 5 = .ok (.istore_n 3, 1) := by decide +kernel
theorem dX10_tapeNumber_6 : decode cX10_tapeNumber 6 = .ok (.iload_n 3, 1) := by decide +kernel
theorem dX10_tapeNumber_7 : decode cX10_tapeNumber 7 = .ok (.iconst 4, 1) := by decide +kernel
theorem dX10_tapeNumber_8 : decode cX10_tapeNumber 8 = .ok (.iload_n 1, 1) := by decide +kernel
theorem dX10_tapeNumber_9 : decode cX10_tapeNumber 9 = .ok (.imul, 1) := by decide +kernel
theorem dX10_tapeNumber_10 : decode cX10_tapeNumber 10 = .ok (.iconst 4, 1) := by decide +kernel
theorem dX10_tapeNumber_11 : decode cX10_tapeNumber 11 = .ok (.iadd, 1) := by decide +kernel
theorem dX10_tapeNumber_12 : decode cX10_tapeNumber 12 = .ok (.if_icmp .ge 25, 3) := by decide +kernel
theorem dX10_tapeNumber_15 : decode cX10_tapeNumber 15 = .ok (.iload_n 2, 1) := by decide +kernel
theorem dX10_tapeNumber_16 : decode cX10_tapeNumber 16 = .ok (.bipush 8, 2) := by decide +kernel
theorem dX10_tapeNumber_18 : decode cX10_tapeNumber 18 = .ok (.ishl, 1) := by decide +kernel
theorem dX10_tapeNumber_19 : decode cX10_tapeNumber 19 = .ok (.aload_n 0, 1) := by decide +kernel
theorem dX10_tapeNumber_20 : decode cX10_tapeNumber 20 = .ok (.getfield 40, 3) := by decide +kernel
theorem dX10_tapeNumber_23 : decode cX10_tapeNumber 23 = .ok (.iload_n 3, 1) := by decide +kernel
theorem dX10_tapeNumber_24 : decode cX10_tapeNumber 24 = .ok (.baload, 1) := by decide +kernel
theorem dX10_tapeNumber_25 : decode cX10_tapeNumber 25 = .ok (.sipush 255, 3) := by decide +kernel
theorem dX10_tapeNumber_28 : decode cX10_tapeNumber 28 = .ok (.iand, 1) := by decide +kernel
theorem dX10_tapeNumber_29 : decode cX10_tapeNumber 29 = .ok (.ior, 1) := by decide +kernel
theorem dX10_tapeNumber_30 : decode cX10_tapeNumber 30 = .ok (.istore_n 2, 1) := by decide +kernel
theorem dX10_tapeNumber_31 : decode cX10_tapeNumber 31 = .ok (.iinc 3 1, 3) := by decide +kernel
theorem dX10_tapeNumber_34 : decode cX10_tapeNumber 34 = .ok (.goto (-28), 3) := by decide +kernel
theorem dX10_tapeNumber_37 : decode cX10_tapeNumber 37 = .ok (.iload_n 2, 1) := by decide +kernel
theorem dX10_tapeNumber_38 : decode cX10_tapeNumber 38 = .ok (.ireturn, 1) := by decide +kernel
theorem dX10_check_0 : decode cX10_check 0 = .ok (.iload_n 1, 1) := by decide +kernel
theorem dX10_check_1 : decode cX10_check 1 = .ok (.ifCond .lt 14, 3) := by decide +kernel
theorem dX10_check_4 : decode cX10_check 4 = .ok (.iload_n 1, 1) := by decide +kernel
theorem dX10_check_5 : decode cX10_check 5 = .ok (.aload_n 0, 1) := by decide +kernel
theorem dX10_check_6 : decode cX10_check 6 = .ok (.getfield 220, 3) := by decide +kernel
theorem dX10_check_9 : decode cX10_check 9 = .ok (.bipush 8, 2) := by decide +kernel
theorem dX10_check_11 : decode cX10_check 11 = .ok (.idiv, 1) := by decide +kernel
theorem dX10_check_12 : decode cX10_check 12 = .ok (.if_icmp .le 6, 3) := by decide +kernel
theorem dX10_check_15 : decode cX10_check 15 = .ok (.bipush (-2), 2) := by decide +kernel
theorem dX10_check_17 : decode cX10_check 17 = .ok (.ireturn, 1) := by decide +kernel
theorem dX10_check_18 : decode cX10_check 18 = .ok (.aload_n 0, 1) := by decide +kernel
theorem dX10_check_19 : decode cX10_check 19 = .ok (.iconst 0, 1) := by decide +kernel
theorem dX10_check_20 : decode cX10_check 20 = .ok (.putfield 220, 3) := by decide +kernel
theorem dX10_check_23 : decode cX10_check 23 = .ok (.iconst 0, 1) := by decide +kernel
theorem dX10_check_24 : decode cX10_check 24 = .ok (.istore_n 2, 1) := by decide +kernel
theorem dX10_check_25 : decode cX10_check 25 = .ok (.iload_n 2, 1) := by decide +kernel
theorem dX10_check_26 : decode cX10_check 26 = .ok (.aload_n 0, 1) := by decide +kernel
theorem dX10_check_27 : decode cX10_check 27 = .ok (.getfield 184, 3) := by decide +kernel
theorem dX10_check_30 : decode cX10_check 30 = .ok (.if_icmp .ge 53, 3) := by decide +kernel
theorem dX10_check_33 : decode cX10_check 33 = .ok (.iload_n 2, 1) := by decide +kernel
theorem dX10_check_34 : decode cX10_check 34 = .ok (.iload_n 1, 1) := by decide +kernel
theorem dX10_check_35 : decode cX10_check 35 = .ok (.if_icmp .ge 14, 3) := by decide +kernel
theorem dX10_check_38 : decode cX10_check 38 = .ok (.aload_n 0, 1) := by decide +kernel
theorem dX10_check_39 : decode cX10_check 39 = .ok (.iconst 2, 1) := by decide +kernel
theorem dX10_check_40 : decode cX10_check 40 = .ok (.iload_n 2, 1) := by decide +kernel
theorem dX10_check_41 : decode cX10_check 41 = .ok (.imul, 1) := by decide +kernel
theorem dX10_check_42 : decode cX10_check 42 = .ok (.invokevirtual 462, 3) := by decide +kernel
theorem dX10_check_45 : decode cX10_check 45 = .ok (.iload_n 2, 1) := by decide +kernel
theorem dX10_check_46 : decode cX10_check 46 = .ok (.if_icmp .eq 7, 3) := by decide +kernel
theorem dX10_check_49 : decode cX10_check 49 = .ok (.iconst 2, 1) := by decide +kernel
theorem dX10_check_50 : decode cX10_check 50 = .ok (.iload_n 2, 1) := by decide +kernel
theorem dX10_check_51 : decode cX10_check 51 = .ok (.imul, 1) := by decide +kernel
theorem dX10_check_52 : decode cX10_check 52 = .ok (.ireturn, 1) := by decide +kernel
theorem dX10_check_53 : decode cX10_check 53 = .ok (.aload_n 0, 1) := by decide +kernel
theorem dX10_check_54 : decode cX10_check 54 = .ok (.iconst 2, 1) := by decide +kernel
theorem dX10_check_55 : decode cX10_check 55 = .ok (.iload_n 2, 1) := by decide +kernel
theorem dX10_check_56 : decode cX10_check 56 = .ok (.imul, 1) := by decide +kernel
theorem dX10_check_57 : decode cX10_check 57 = .ok (.iconst 1, 1) := by decide +kernel
theorem dX10_check_58 : decode cX10_check 58 = .ok (.iadd, 1) := by decide +kernel
theorem dX10_check_59 : decode cX10_check 59 = .ok (.invokevirtual 462, 3) := by decide +kernel
theorem dX10_check_62 : decode cX10_check 62 = .ok (.aload_n 0, 1) := by decide +kernel
theorem dX10_check_63 : decode cX10_check 63 = .ok (.getfield 19, 3) := by decide +kernel
theorem dX10_check_66 : decode cX10_check 66 = .ok (.iload_n 2, 1) := by decide +kernel
theorem dX10_check_67 : decode cX10_check 67 = .ok (.iaload, 1) := by decide +kernel
theorem dX10_check_68 : decode cX10_check 68 = .ok (.if_icmp .eq 9, 3) := by decide +kernel
theorem dX10_check_71 : decode cX10_check 71 = .ok (.iconst 2, 1) := by decide +kernel
theorem dX10_check_72 : decode cX10_check 72 = .ok (.iload_n 2, 1) := by decide +kernel
theorem dX10_check_73 : decode cX10_check 73 = .ok (.imul, 1) := by decide +kernel
theorem dX10_check_74 : decode cX10_check 74 = .ok (.iconst 1, 1) := by decide +kernel
theorem dX10_check_75 : decode cX10_check 75 = .ok (.iadd, 1) := by decide +kernel
theorem dX10_check_76 : decode cX10_check 76 = .ok (.ireturn, 1) := by decide +kernel
theorem dX10_check_77 : decode cX10_check 77 = .ok (.iinc 2 1, 3) := by decide +kernel
theorem dX10_check_80 : decode cX10_check 80 = .ok (.goto (-55), 3) := by decide +kernel
theorem dX10_check_83 : decode cX10_check 83 = .ok (.aload_n 0, 1) := by decide +kernel
theorem dX10_check_84 : decode cX10_check 84 = .ok (.getfield 184, 3) := by decide +kernel
theorem dX10_check_87 : decode cX10_check 87 = .ok (.iload_n 1, 1) := by decide +kernel
theorem dX10_check_88 : decode cX10_check 88 = .ok (.if_icmp .ge 12, 3) := by decide +kernel
theorem dX10_check_91 : decode cX10_check 91 = .ok (.iconst 2, 1) := by decide +kernel
theorem dX10_check_92 : decode cX10_check 92 = .ok (.aload_n 0, 1) := by decide +kernel
theorem dX10_check_93 : decode cX10_check 93 = .ok (.getfield 184, 3) := by decide +kernel
theorem dX10_check_96 : decode cX10_check 96 = .ok (.imul, 1) := by decide +kernel
theorem dX10_check_97 : decode cX10_check 97 = .ok (.goto 4, 3) := by decide +kernel
theorem dX10_check_100 : decode cX10_check 100 = .ok (.iconst (-1), 1) := by decide +kernel
theorem dX10_check_101 : decode cX10_check 101 = .ok (.ireturn, 1) := by decide +kernel
theorem dX10_count_0 : decode cX10_count 0 = .ok (.iload_n 1, 1) := by decide +kernel
theorem dX10_count_1 : decode cX10_count 1 = .ok (.tableswitch 159 0 10 #[59, 64, 69, 74, 79, 84, 89, 94, 107, 125, 143], 59) := by decide +kernel
theorem dX10_count_60 : decode cX10_count 60 = .ok (.aload_n 0, 1) := by decide +kernel
theorem dX10_count_61 : decode cX10_count 61 = .ok (.getfield 184, 3) := by decide +kernel
theorem dX10_count_64 : decode cX10_count 64 = .ok (.ireturn, 1) := by decide +kernel
theorem dX10_count_65 : decode cX10_count 65 = .ok (.aload_n 0, 1) := by decide +kernel
theorem dX10_count_66 : decode cX10_count 66 = .ok (.getfield 203, 3) := by decide +kernel
theorem dX10_count_69 : decode cX10_count 69 = .ok (.ireturn, 1) := by decide +kernel
theorem dX10_count_70 : decode cX10_count 70 = .ok (.aload_n 0, 1) := by decide +kernel
theorem dX10_count_71 : decode cX10_count 71 = .ok (.getfield 441, 3) := by decide +kernel
theorem dX10_count_74 : decode cX10_count 74 = .ok (.ireturn, 1) := by decide +kernel
theorem dX10_count_75 : decode cX10_count 75 = .ok (.aload_n 0, 1) := by decide +kernel
theorem dX10_count_76 : decode cX10_count 76 = .ok (.getfield 256, 3) := by decide +kernel
theorem dX10_count_79 : decode cX10_count 79 = .ok (.ireturn, 1) := by decide +kernel
theorem dX10_count_80 : decode cX10_count 80 = .ok (.aload_n 0, 1) := by decide +kernel
theorem dX10_count_81 : decode cX10_count 81 = .ok (.getfield 438, 3) := by decide +kernel
theorem dX10_count_84 : decode cX10_count 84 = .ok (.ireturn, 1) := by decide +kernel
theorem dX10_count_85 : decode cX10_count 85 = .ok (.aload_n 0, 1) := by decide +kernel
theorem dX10_count_86 : decode cX10_count 86 = .ok (.getfield 453, 3) := by decide +kernel
theorem dX10_count_89 : decode cX10_count 89 = .ok (.ireturn, 1) := by decide +kernel
theorem dX10_count_90 : decode cX10_count 90 = .ok (.aload_n 0, 1) := by decide +kernel
theorem dX10_count_91 : decode cX10_count 91 = .ok (.getfield 220, 3) := by decide +kernel
theorem dX10_count_94 : decode cX10_count 94 = .ok (.ireturn, 1) := by decide +kernel
theorem dX10_count_95 : decode cX10_count 95 = .ok (.aload_n 0, 1) := by decide +kernel
theorem dX10_count_96 : decode cX10_count 96 = .ok (.getfield 320, 3) := by decide +kernel
theorem dX10_count_99 : decode cX10_count 99 = .ok (.ifCond .eq 7, 3) := by decide +kernel
theorem dX10_count_102 : decode cX10_count 102 = .ok (.iconst 1, 1) := by decide +kernel
theorem dX10_count_103 : decode cX10_count 103 = .ok (.goto 4, 3) := by decide +kernel
theorem dX10_count_106 : decode cX10_count 106 = .ok (.iconst 0, 1) := by decide +kernel
theorem dX10_count_107 : decode cX10_count 107 = .ok (.ireturn, 1) := by decide +kernel
theorem dX10_count_108 : decode cX10_count 108 = .ok (.aload_n 0, 1) := by decide +kernel
theorem dX10_count_109 : decode cX10_count 109 = .ok (.getfield 320, 3) := by decide +kernel
theorem dX10_count_112 : decode cX10_count 112 = .ok (.ifCond .eq 12, 3) := by decide +kernel
theorem dX10_count_115 : decode cX10_count 115 = .ok (.aload_n 0, 1) := by decide +kernel
theorem dX10_count_116 : decode cX10_count 116 = .ok (.getfield 51, 3) := by decide +kernel
theorem dX10_count_119 : decode cX10_count 119 = .ok (.iconst 0, 1) := by decide +kernel
theorem dX10_count_120 : decode cX10_count 120 = .ok (.iaload, 1) := by decide +kernel
theorem dX10_count_121 : decode cX10_count 121 = .ok (.goto 4, 3) := by decide +kernel
theorem dX10_count_124 : decode cX10_count 124 = .ok (.iconst (-1), 1) := by decide +kernel
theorem dX10_count_125 : decode cX10_count 125 = .ok (.ireturn, 1) := by decide +kernel
theorem dX10_count_126 : decode cX10_count 126 = .ok (.aload_n 0, 1) := by decide +kernel
theorem dX10_count_127 : decode cX10_count 127 = .ok (.getfield 320, 3) := by decide +kernel
theorem dX10_count_130 : decode cX10_count 130 = .ok (.ifCond .eq 12, 3) := by decide +kernel
theorem dX10_count_133 : decode cX10_count 133 = .ok (.aload_n 0, 1) := by decide +kernel
theorem dX10_count_134 : decode cX10_count 134 = .ok (.getfield 54, 3) := by decide +kernel
theorem dX10_count_137 : decode cX10_count 137 = .ok (.iconst 0, 1) := by decide +kernel
theorem dX10_count_138 : decode cX10_count 138 = .ok (.iaload, 1) := by decide +kernel
theorem dX10_count_139 : decode cX10_count 139 = .ok (.goto 4, 3) := by decide +kernel
theorem dX10_count_142 : decode cX10_count 142 = .ok (.iconst (-1), 1) := by decide +kernel
theorem dX10_count_143 : decode cX10_count 143 = .ok (.ireturn, 1) := by decide +kernel
theorem dX10_count_144 : decode cX10_count 144 = .ok (.aload_n 0, 1) := by decide +kernel
theorem dX10_count_145 : decode cX10_count 145 = .ok (.getfield 320, 3) := by decide +kernel
theorem dX10_count_148 : decode cX10_count 148 = .ok (.ifCond .eq 10, 3) := by decide +kernel
theorem dX10_count_151 : decode cX10_count 151 = .ok (.aload_n 0, 1) := by decide +kernel
theorem dX10_count_152 : decode cX10_count 152 = .ok (.getfield 323, 3) := by decide +kernel
theorem dX10_count_155 : decode cX10_count 155 = .ok (.goto 4, 3) := by decide +kernel
theorem dX10_count_158 : decode cX10_count 158 = .ok (.iconst (-1), 1) := by decide +kernel
theorem dX10_count_159 : decode cX10_count 159 = .ok (.ireturn, 1) := by decide +kernel
theorem dX10_count_160 : decode cX10_count 160 = .ok (.iconst (-1), 1) := by decide +kernel
theorem dX10_count_161 : decode cX10_count 161 = .ok (.ireturn, 1) := by decide +kernel
theorem dJ6_numberOfTrailingZeros_0f7a4_0 : decode cJ6_numberOfTrailingZeros_0f7a4 0 = .ok (.iload_n 0, 1) := by decide +kernel
theorem dJ6_numberOfTrailingZeros_0f7a4_1 : decode cJ6_numberOfTrailingZeros_0f7a4 1 = .ok (.iconst (-1), 1) := by decide +kernel
theorem dJ6_numberOfTrailingZeros_0f7a4_2 : decode cJ6_numberOfTrailingZeros_0f7a4 2 = .ok (.ixor, 1) := by decide +kernel
theorem dJ6_numberOfTrailingZeros_0f7a4_3 : decode cJ6_numberOfTrailingZeros_0f7a4 3 = .ok (.iload_n 0, 1) := by decide +kernel
theorem dJ6_numberOfTrailingZeros_0f7a4_4 : decode cJ6_numberOfTrailingZeros_0f7a4 4 = .ok (.iconst 1, 1) := by decide +kernel
theorem dJ6_numberOfTrailingZeros_0f7a4_5 : decode cJ6_numberOfTrailingZeros_0f7a4 5 = .ok (.isub, 1) := by decide +kernel
theorem dJ6_numberOfTrailingZeros_0f7a4_6 : decode cJ6_numberOfTrailingZeros_0f7a4 6 = .ok (.iand, 1) := by decide +kernel
theorem dJ6_numberOfTrailingZeros_0f7a4_7 : decode cJ6_numberOfTrailingZeros_0f7a4 7 = .ok (.istore_n 0, 1) := by decide +kernel
theorem dJ6_numberOfTrailingZeros_0f7a4_8 : decode cJ6_numberOfTrailingZeros_0f7a4 8 = .ok (.iload_n 0, 1) := by decide +kernel
theorem dJ6_numberOfTrailingZeros_0f7a4_9 : decode cJ6_numberOfTrailingZeros_0f7a4 9 = .ok (.ifCond .gt 8, 3) := by decide +kernel
theorem dJ6_numberOfTrailingZeros_0f7a4_12 : decode cJ6_numberOfTrailingZeros_0f7a4 12 = .ok (.iload_n 0, 1) := by decide +kernel
theorem dJ6_numberOfTrailingZeros_0f7a4_13 : decode cJ6_numberOfTrailingZeros_0f7a4 13 = .ok (.bipush 32, 2) := by decide +kernel
theorem dJ6_numberOfTrailingZeros_0f7a4_15 : decode cJ6_numberOfTrailingZeros_0f7a4 15 = .ok (.iand, 1) := by decide +kernel
theorem dJ6_numberOfTrailingZeros_0f7a4_16 : decode cJ6_numberOfTrailingZeros_0f7a4 16 = .ok (.ireturn, 1) := by decide +kernel
theorem dJ6_numberOfTrailingZeros_0f7a4_17 : decode cJ6_numberOfTrailingZeros_0f7a4 17 = .ok (.iconst 1, 1) := by decide +kernel
theorem dJ6_numberOfTrailingZeros_0f7a4_18 : decode cJ6_numberOfTrailingZeros_0f7a4 18 = .ok (.istore_n 1, 1) := by decide +kernel
theorem dJ6_numberOfTrailingZeros_0f7a4_19 : decode cJ6_numberOfTrailingZeros_0f7a4 19 = .ok (.iload_n 0, 1) := by decide +kernel
theorem dJ6_numberOfTrailingZeros_0f7a4_20 : decode cJ6_numberOfTrailingZeros_0f7a4 20 = .ok (.ldc_w 264, 3) := by decide +kernel
theorem dJ6_numberOfTrailingZeros_0f7a4_23 : decode cJ6_numberOfTrailingZeros_0f7a4 23 = .ok (.if_icmp .le 11, 3) := by decide +kernel
theorem dJ6_numberOfTrailingZeros_0f7a4_26 : decode cJ6_numberOfTrailingZeros_0f7a4 26 = .ok (.iinc 1 16, 3) := by decide +kernel
theorem dJ6_numberOfTrailingZeros_0f7a4_29 : decode cJ6_numberOfTrailingZeros_0f7a4 29 = .ok (.iload_n 0, 1) := by decide +kernel
theorem dJ6_numberOfTrailingZeros_0f7a4_30 : decode cJ6_numberOfTrailingZeros_0f7a4 30 = .ok (.bipush 16, 2) := by decide +kernel
theorem dJ6_numberOfTrailingZeros_0f7a4_32 : decode cJ6_numberOfTrailingZeros_0f7a4 32 = .ok (.iushr, 1) := by decide +kernel
theorem dJ6_numberOfTrailingZeros_0f7a4_33 : decode cJ6_numberOfTrailingZeros_0f7a4 33 = .ok (.istore_n 0, 1) := by decide +kernel
theorem dJ6_numberOfTrailingZeros_0f7a4_34 : decode cJ6_numberOfTrailingZeros_0f7a4 34 = .ok (.iload_n 0, 1) := by decide +kernel
theorem dJ6_numberOfTrailingZeros_0f7a4_35 : decode cJ6_numberOfTrailingZeros_0f7a4 35 = .ok (.sipush 256, 3) := by decide +kernel
theorem dJ6_numberOfTrailingZeros_0f7a4_38 : decode cJ6_numberOfTrailingZeros_0f7a4 38 = .ok (.if_icmp .le 11, 3) := by decide +kernel
theorem dJ6_numberOfTrailingZeros_0f7a4_41 : decode cJ6_numberOfTrailingZeros_0f7a4 41 = .ok (.iinc 1 8, 3) := by decide +kernel
theorem dJ6_numberOfTrailingZeros_0f7a4_44 : decode cJ6_numberOfTrailingZeros_0f7a4 44 = .ok (.iload_n 0, 1) := by decide +kernel
theorem dJ6_numberOfTrailingZeros_0f7a4_45 : decode cJ6_numberOfTrailingZeros_0f7a4 45 = .ok (.bipush 8, 2) := by decide +kernel
theorem dJ6_numberOfTrailingZeros_0f7a4_47 : decode cJ6_numberOfTrailingZeros_0f7a4 47 = .ok (.iushr, 1) := by decide +kernel
theorem dJ6_numberOfTrailingZeros_0f7a4_48 : decode cJ6_numberOfTrailingZeros_0f7a4 48 = .ok (.istore_n 0, 1) := by decide +kernel
theorem dJ6_numberOfTrailingZeros_0f7a4_49 : decode cJ6_numberOfTrailingZeros_0f7a4 49 = .ok (.iload_n 0, 1) := by decide +kernel
theorem dJ6_numberOfTrailingZeros_0f7a4_50 : decode cJ6_numberOfTrailingZeros_0f7a4 50 = .ok (.bipush 16, 2) := by decide +kernel
theorem dJ6_numberOfTrailingZeros_0f7a4_52 : decode cJ6_numberOfTrailingZeros_0f7a4 52 = .ok (.if_icmp .le 10, 3) := by decide +kernel
theorem dJ6_numberOfTrailingZeros_0f7a4_55 : decode cJ6_numberOfTrailingZeros_0f7a4 55 = .ok (.iinc 1 4, 3) := by decide +kernel
theorem dJ6_numberOfTrailingZeros_0f7a4_58 : decode cJ6_numberOfTrailingZeros_0f7a4 58 = .ok (.iload_n 0, 1) := by decide +kernel
theorem dJ6_numberOfTrailingZeros_0f7a4_59 : decode cJ6_numberOfTrailingZeros_0f7a4 59 = .ok (.iconst 4, 1) := by decide +kernel
theorem dJ6_numberOfTrailingZeros_0f7a4_60 : decode cJ6_numberOfTrailingZeros_0f7a4 60 = .ok (.iushr, 1) := by decide +kernel
theorem dJ6_numberOfTrailingZeros_0f7a4_61 : decode cJ6_numberOfTrailingZeros_0f7a4 61 = .ok (.istore_n 0, 1) := by decide +kernel
theorem dJ6_numberOfTrailingZeros_0f7a4_62 : decode cJ6_numberOfTrailingZeros_0f7a4 62 = .ok (.iload_n 0, 1) := by decide +kernel
theorem dJ6_numberOfTrailingZeros_0f7a4_63 : decode cJ6_numberOfTrailingZeros_0f7a4 63 = .ok (.iconst 4, 1) := by decide +kernel
theorem dJ6_numberOfTrailingZeros_0f7a4_64 : decode cJ6_numberOfTrailingZeros_0f7a4 64 = .ok (.if_icmp .le 10, 3) := by decide +kernel
theorem dJ6_numberOfTrailingZeros_0f7a4_67 : decode cJ6_numberOfTrailingZeros_0f7a4 67 = .ok (.iinc 1 2, 3) := by decide +kernel
theorem dJ6_numberOfTrailingZeros_0f7a4_70 : decode cJ6_numberOfTrailingZeros_0f7a4 70 = .ok (.iload_n 0, 1) := by decide +kernel
theorem dJ6_numberOfTrailingZeros_0f7a4_71 : decode cJ6_numberOfTrailingZeros_0f7a4 71 = .ok (.iconst 2, 1) := by decide +kernel
theorem dJ6_numberOfTrailingZeros_0f7a4_72 : decode cJ6_numberOfTrailingZeros_0f7a4 72 = .ok (.iushr, 1) := by decide +kernel
theorem dJ6_numberOfTrailingZeros_0f7a4_73 : decode cJ6_numberOfTrailingZeros_0f7a4 73 = .ok (.istore_n 0, 1) := by decide +kernel
theorem dJ6_numberOfTrailingZeros_0f7a4_74 : decode cJ6_numberOfTrailingZeros_0f7a4 74 = .ok (.iload_n 1, 1) := by decide +kernel
theorem dJ6_numberOfTrailingZeros_0f7a4_75 : decode cJ6_numberOfTrailingZeros_0f7a4 75 = .ok (.iload_n 0, 1) := by decide +kernel
theorem dJ6_numberOfTrailingZeros_0f7a4_76 : decode cJ6_numberOfTrailingZeros_0f7a4 76 = .ok (.iconst 1, 1) := by decide +kernel
theorem dJ6_numberOfTrailingZeros_0f7a4_77 : decode cJ6_numberOfTrailingZeros_0f7a4 77 = .ok (.iushr, 1) := by decide +kernel
theorem dJ6_numberOfTrailingZeros_0f7a4_78 : decode cJ6_numberOfTrailingZeros_0f7a4 78 = .ok (.iadd, 1) := by decide +kernel
theorem dJ6_numberOfTrailingZeros_0f7a4_79 : decode cJ6_numberOfTrailingZeros_0f7a4 79 = .ok (.ireturn, 1) := by decide +kernel
theorem dJ6_bitCount_0f7a4_0 : decode cJ6_bitCount_0f7a4 0 = .ok (.iload_n 0, 1) := by decide +kernel
theorem dJ6_bitCount_0f7a4_1 : decode cJ6_bitCount_0f7a4 1 = .ok (.iload_n 0, 1) := by decide +kernel
theorem dJ6_bitCount_0f7a4_2 : decode cJ6_bitCount_0f7a4 2 = .ok (.iconst 1, 1) := by decide +kernel
theorem dJ6_bitCount_0f7a4_3 : decode cJ6_bitCount_0f7a4 3 = .ok (.iushr, 1) := by decide +kernel
theorem dJ6_bitCount_0f7a4_4 : decode cJ6_bitCount_0f7a4 4 = .ok (.ldc_w 265, 3) := by decide +kernel
theorem dJ6_bitCount_0f7a4_7 : decode cJ6_bitCount_0f7a4 7 = .ok (.iand, 1) := by decide +kernel
theorem dJ6_bitCount_0f7a4_8 : decode cJ6_bitCount_0f7a4 8 = .ok (.isub, 1) := by decide +kernel
theorem dJ6_bitCount_0f7a4_9 : decode cJ6_bitCount_0f7a4 9 = .ok (.istore_n 0, 1) := by decide +kernel
theorem dJ6_bitCount_0f7a4_10 : decode cJ6_bitCount_0f7a4 10 = .ok (.iload_n 0, 1) := by decide +kernel
theorem dJ6_bitCount_0f7a4_11 : decode cJ6_bitCount_0f7a4 11 = .ok (.ldc_w 266, 3) := by decide +kernel
theorem dJ6_bitCount_0f7a4_14 : decode cJ6_bitCount_0f7a4 14 = .ok (.iand, 1) := by decide +kernel
theorem dJ6_bitCount_0f7a4_15 : decode cJ6_bitCount_0f7a4 15 = .ok (.iload_n 0, 1) := by decide +kernel
theorem dJ6_bitCount_0f7a4_16 : decode cJ6_bitCount_0f7a4 16 = .ok (.iconst 2, 1) := by decide +kernel
theorem dJ6_bitCount_0f7a4_17 : decode cJ6_bitCount_0f7a4 17 = .ok (.iushr, 1) := by decide +kernel
theorem dJ6_bitCount_0f7a4_18 : decode cJ6_bitCount_0f7a4 18 = .ok (.ldc_w 266, 3) := by decide +kernel
theorem dJ6_bitCount_0f7a4_21 : decode cJ6_bitCount_0f7a4 21 = .ok (.iand, 1) := by decide +kernel
theorem dJ6_bitCount_0f7a4_22 : decode cJ6_bitCount_0f7a4 22 = .ok (.iadd, 1) := by decide +kernel
theorem dJ6_bitCount_0f7a4_23 : decode cJ6_bitCount_0f7a4 23 = .ok (.istore_n 0, 1) := by decide +kernel
theorem dJ6_bitCount_0f7a4_24 : decode cJ6_bitCount_0f7a4 24 = .ok (.iload_n 0, 1) := by decide +kernel
theorem dJ6_bitCount_0f7a4_25 : decode cJ6_bitCount_0f7a4 25 = .ok (.iload_n 0, 1) := by decide +kernel
theorem dJ6_bitCount_0f7a4_26 : decode cJ6_bitCount_0f7a4 26 = .ok (.iconst 4, 1) := by decide +kernel
theorem dJ6_bitCount_0f7a4_27 : decode cJ6_bitCount_0f7a4 27 = .ok (.iushr, 1) := by decide +kernel
theorem dJ6_bitCount_0f7a4_28 : decode cJ6_bitCount_0f7a4 28 = .ok (.iadd, 1) := by decide +kernel
theorem dJ6_bitCount_0f7a4_29 : decode cJ6_bitCount_0f7a4 29 = .ok (.ldc_w 267, 3) := by decide +kernel
theorem dJ6_bitCount_0f7a4_32 : decode cJ6_bitCount_0f7a4 32 = .ok (.iand, 1) := by decide +kernel
theorem dJ6_bitCount_0f7a4_33 : decode cJ6_bitCount_0f7a4 33 = .ok (.istore_n 0, 1) := by decide +kernel
theorem dJ6_bitCount_0f7a4_34 : decode cJ6_bitCount_0f7a4 34 = .ok (.iload_n 0, 1) := by decide +kernel
theorem dJ6_bitCount_0f7a4_35 : decode cJ6_bitCount_0f7a4 35 = .ok (.iload_n 0, 1) := by decide +kernel
theorem dJ6_bitCount_0f7a4_36 : decode cJ6_bitCount_0f7a4 36 = .ok (.bipush 8, 2) := by decide +kernel
theorem dJ6_bitCount_0f7a4_38 : decode cJ6_bitCount_0f7a4 38 = .ok (.iushr, 1) := by decide +kernel
theorem dJ6_bitCount_0f7a4_39 : decode cJ6_bitCount_0f7a4 39 = .ok (.iadd, 1) := by decide +kernel
theorem dJ6_bitCount_0f7a4_40 : decode cJ6_bitCount_0f7a4 40 = .ok (.istore_n 0, 1) := by decide +kernel
theorem dJ6_bitCount_0f7a4_41 : decode cJ6_bitCount_0f7a4 41 = .ok (.iload_n 0, 1) := by decide +kernel
theorem dJ6_bitCount_0f7a4_42 : decode cJ6_bitCount_0f7a4 42 = .ok (.iload_n 0, 1) := by decide +kernel
theorem dJ6_bitCount_0f7a4_43 : decode cJ6_bitCount_0f7a4 43 = .ok (.bipush 16, 2) := by decide +kernel
theorem dJ6_bitCount_0f7a4_45 : decode cJ6_bitCount_0f7a4 45 = .ok (.iushr, 1) := by decide +kernel
theorem dJ6_bitCount_0f7a4_46 : decode cJ6_bitCount_0f7a4 46 = .ok (.iadd, 1) := by decide +kernel
theorem dJ6_bitCount_0f7a4_47 : decode cJ6_bitCount_0f7a4 47 = .ok (.istore_n 0, 1) := by decide +kernel
theorem dJ6_bitCount_0f7a4_48 : decode cJ6_bitCount_0f7a4 48 = .ok (.iload_n 0, 1) := by decide +kernel
theorem dJ6_bitCount_0f7a4_49 : decode cJ6_bitCount_0f7a4 49 = .ok (.bipush 63, 2) := by decide +kernel
theorem dJ6_bitCount_0f7a4_51 : decode cJ6_bitCount_0f7a4 51 = .ok (.iand, 1) := by decide +kernel
theorem dJ6_bitCount_0f7a4_52 : decode cJ6_bitCount_0f7a4 52 = .ok (.ireturn, 1) := by decide +kernel
theorem dJ9_min_7cf53_0 : decode cJ9_min_7cf53 0 = .ok (.iload_n 0, 1) := by decide +kernel
theorem dJ9_min_7cf53_1 : decode cJ9_min_7cf53 1 = .ok (.iload_n 1, 1) := by decide +kernel
theorem dJ9_min_7cf53_2 : decode cJ9_min_7cf53 2 = .ok (.if_icmp .gt 7, 3) := by decide +kernel
theorem dJ9_min_7cf53_5 : decode cJ9_min_7cf53 5 = .ok (.iload_n 0, 1) := by decide +kernel
theorem dJ9_min_7cf53_6 : decode cJ9_min_7cf53 6 = .ok (.goto 4, 3) := by decide +kernel
theorem dJ9_min_7cf53_9 : decode cJ9_min_7cf53 9 = .ok (.iload_n 1, 1) := by decide +kernel
theorem dJ9_min_7cf53_10 : decode cJ9_min_7cf53 10 = .ok (.ireturn, 1) := by decide +kernel
theorem dJ0_length_8abf5_0 : decode cJ0_length_8abf5 0 = .ok (.aload_n 0, 1) := by decide +kernel
theorem dJ0_length_8abf5_1 : decode cJ0_length_8abf5 1 = .ok (.getfield 9, 3) := by decide +kernel
theorem dJ0_length_8abf5_4 : decode cJ0_length_8abf5 4 = .ok (.arraylength, 1) := by decide +kernel
theorem dJ0_length_8abf5_5 : decode cJ0_length_8abf5 5 = .ok (.aload_n 0, 1) := by decide +kernel
theorem dJ0_length_8abf5_6 : decode cJ0_length_8abf5 6 = .ok (.invokevirtual 335, 3) := by decide +kernel
theorem dJ0_length_8abf5_9 : decode cJ0_length_8abf5 9 = .ok (.ishr, 1) := by decide +kernel
theorem dJ0_length_8abf5_10 : decode cJ0_length_8abf5 10 = .ok (.ireturn, 1) := by decide +kernel
theorem dJ0_charAt_5068e_0 : decode cJ0_charAt_5068e 0 = .ok (.aload_n 0, 1) := by decide +kernel
theorem dJ0_charAt_5068e_1 : decode cJ0_charAt_5068e 1 = .ok (.invokevirtual 492, 3) := by decide +kernel
theorem dJ0_charAt_5068e_4 : decode cJ0_charAt_5068e 4 = .ok (.ifCond .eq 12, 3) := by decide +kernel
theorem dJ0_charAt_5068e_7 : decode cJ0_charAt_5068e 7 = .ok (.aload_n 0, 1) := by decide +kernel
theorem dJ0_charAt_5068e_8 : decode cJ0_charAt_5068e 8 = .ok (.getfield 9, 3) := by decide +kernel
theorem dJ0_charAt_5068e_11 : decode cJ0_charAt_5068e 11 = .ok (.iload_n 1, 1) := by decide +kernel
theorem dJ0_charAt_5068e_12 : decode cJ0_charAt_5068e 12 = .ok (.invokestatic 495, 3) := by decide +kernel
theorem dJ0_charAt_5068e_15 : decode cJ0_charAt_5068e 15 = .ok (.ireturn, 1) := by decide +kernel
theorem dJ0_charAt_5068e_16 : decode cJ0_charAt_5068e 16 = .ok (.aload_n 0, 1) := by decide +kernel
theorem dJ0_charAt_5068e_17 : decode cJ0_charAt_5068e 17 = .ok (.getfield 9, 3) := by decide +kernel
theorem dJ0_charAt_5068e_20 : decode cJ0_charAt_5068e 20 = .ok (.iload_n 1, 1) := by decide +kernel
theorem dJ0_charAt_5068e_21 : decode cJ0_charAt_5068e 21 = .ok (.invokestatic 498, 3) := by decide +kernel
theorem dJ0_charAt_5068e_24 : decode cJ0_charAt_5068e 24 = .ok (.ireturn, 1) := by decide +kernel
theorem dJ0_coder_7d493_0 : decode cJ0_coder_7d493 0 = .ok (.getstatic 38, 3) := by decide +kernel
theorem dJ0_coder_7d493_3 : decode cJ0_coder_7d493 3 = .ok (.ifCond .eq 10, 3) := by decide +kernel
theorem dJ0_coder_7d493_6 : decode cJ0_coder_7d493 6 = .ok (.aload_n 0, 1) := by decide +kernel
theorem dJ0_coder_7d493_7 : decode cJ0_coder_7d493 7 = .ok (.getfield 15, 3) := by decide +kernel
theorem dJ0_coder_7d493_10 : decode cJ0_coder_7d493 10 = .ok (.goto 4, 3) := by decide +kernel
theorem dJ0_coder_7d493_13 : decode cJ0_coder_7d493 13 = .ok (.iconst 1, 1) := by decide +kernel
theorem dJ0_coder_7d493_14 : decode cJ0_coder_7d493 14 = .ok (.ireturn, 1) := by decide +kernel
theorem dJ0_isLatin1_aae02_0 : decode cJ0_isLatin1_aae02 0 = .ok (.getstatic 38, 3) := by decide +kernel
theorem dJ0_isLatin1_aae02_3 : decode cJ0_isLatin1_aae02 3 = .ok (.ifCond .eq 14, 3) := by decide +kernel
theorem dJ0_isLatin1_aae02_6 : decode cJ0_isLatin1_aae02 6 = .ok (.aload_n 0, 1) := by decide +kernel
theorem dJ0_isLatin1_aae02_7 : decode cJ0_isLatin1_aae02 7 = .ok (.getfield 15, 3) := by decide +kernel
theorem dJ0_isLatin1_aae02_10 : decode cJ0_isLatin1_aae02 10 = .ok (.ifCond .ne 7, 3) := by decide +kernel
theorem dJ0_isLatin1_aae02_13 : decode cJ0_isLatin1_aae02 13 = .ok (.iconst 1, 1) := by decide +kernel
theorem dJ0_isLatin1_aae02_14 : decode cJ0_isLatin1_aae02 14 = .ok (.goto 4, 3) := by decide +kernel
theorem dJ0_isLatin1_aae02_17 : decode cJ0_isLatin1_aae02 17 = .ok (.iconst 0, 1) := by decide +kernel
theorem dJ0_isLatin1_aae02_18 : decode cJ0_isLatin1_aae02 18 = .ok (.ireturn, 1) := by decide +kernel
theorem dJ0_checkIndex_df160_0 : decode cJ0_checkIndex_df160 0 = .ok (.iload_n 0, 1) := by decide +kernel
theorem dJ0_checkIndex_df160_1 : decode cJ0_checkIndex_df160 1 = .ok (.iload_n 1, 1) := by decide +kernel
theorem dJ0_checkIndex_df160_2 : decode cJ0_checkIndex_df160 2 = .ok (.getstatic 1053, 3) := by decide +kernel
theorem dJ0_checkIndex_df160_5 : decode cJ0_checkIndex_df160 5 = .ok (.invokestatic 1059, 3) := by decide +kernel
theorem dJ0_checkIndex_df160_8 : decode cJ0_checkIndex_df160 8 = .ok (.pop, 1) := by decide +kernel
theorem dJ0_checkIndex_df160_9 : decode cJ0_checkIndex_df160 9 = .ok (.return_, 1) := by decide +kernel
theorem dJ1_charAt_3b067_0 : decode cJ1_charAt_3b067 0 = .ok (.iload_n 1, 1) := by decide +kernel
theorem dJ1_charAt_3b067_1 : decode cJ1_charAt_3b067 1 = .ok (.aload_n 0, 1) := by decide +kernel
theorem dJ1_charAt_3b067_2 : decode cJ1_charAt_3b067 2 = .ok (.arraylength, 1) := by decide +kernel
theorem dJ1_charAt_3b067_3 : decode cJ1_charAt_3b067 3 = .ok (.invokestatic 9, 3) := by decide +kernel
theorem dJ1_charAt_3b067_6 : decode cJ1_charAt_3b067 6 = .ok (.aload_n 0, 1) := by decide +kernel
theorem dJ1_charAt_3b067_7 : decode cJ1_charAt_3b067 7 = .ok (.iload_n 1, 1) := by decide +kernel
theorem dJ1_charAt_3b067_8 : decode cJ1_charAt_3b067 8 = .ok (.baload, 1) := by decide +kernel
theorem dJ1_charAt_3b067_9 : decode cJ1_charAt_3b067 9 = .ok (.sipush 255, 3) := by decide +kernel
theorem dJ1_charAt_3b067_12 : decode cJ1_charAt_3b067 12 = .ok (.iand, 1) := by decide +kernel
theorem dJ1_charAt_3b067_13 : decode cJ1_charAt_3b067 13 = .ok (.i2c, 1) := by decide +kernel
theorem dJ1_charAt_3b067_14 : decode cJ1_charAt_3b067 14 = .ok (.ireturn, 1) := by decide +kernel
theorem dJ2_getChar_3b067_0 : decode cJ2_getChar_3b067 0 = .ok (.getstatic 44, 3) := by decide +kernel
theorem dJ2_getChar_3b067_3 : decode cJ2_getChar_3b067 3 = .ok (.ifCond .ne 25, 3) := by decide +kernel
theorem dJ2_getChar_3b067_6 : decode cJ2_getChar_3b067 6 = .ok (.iload_n 1, 1) := by decide +kernel
theorem dJ2_getChar_3b067_7 : decode cJ2_getChar_3b067 7 = .ok (.ifCond .lt 11, 3) := by decide +kernel
theorem dJ2_getChar_3b067_10 : decode cJ2_getChar_3b067 10 = .ok (.iload_n 1, 1) := by decide +kernel
theorem dJ2_getChar_3b067_11 : decode cJ2_getChar_3b067 11 = .ok (.aload_n 0, 1) := by decide +kernel
theorem dJ2_getChar_3b067_12 : decode cJ2_getChar_3b067 12 = .ok (.invokestatic 48, 3) := by decide +kernel
theorem dJ2_getChar_3b067_15 : decode cJ2_getChar_3b067 15 = .ok (.if_icmp .lt 13, 3) := by decide +kernel
theorem dJ2_getChar_3b067_18 : decode cJ2_getChar_3b067 18 = .ok (.new 52, 3) := by decide +kernel
theorem dJ2_getChar_3b067_21 : decode cJ2_getChar_3b067 21 = .ok (.dup, 1) := by decide +kernel
theorem dJ2_getChar_3b067_22 : decode cJ2_getChar_3b067 22 = .ok (.ldc 54, 2) := by decide +kernel
theorem dJ2_getChar_3b067_24 : decode cJ2_getChar_3b067 24 = .ok (.invokespecial 56, 3) := by decide +kernel
theorem dJ2_getChar_3b067_27 : decode cJ2_getChar_3b067 27 = .ok (.athrow, 1) := by decide +kernel
theorem dJ2_getChar_3b067_28 : decode cJ2_getChar_3b067 28 = .ok (.iload_n 1, 1) := by decide +kernel
theorem dJ2_getChar_3b067_29 : decode cJ2_getChar_3b067 29 = .ok (.iconst 1, 1) := by decide +kernel
theorem dJ2_getChar_3b067_30 : decode cJ2_getChar_3b067 30 = .ok (.ishl, 1) := by decide +kernel
theorem dJ2_getChar_3b067_31 : decode cJ2_getChar_3b067 31 = .ok (.istore_n 1, 1) := by decide +kernel
theorem dJ2_getChar_3b067_32 : decode cJ2_getChar_3b067 32 = .ok (.aload_n 0, 1) := by decide +kernel
theorem dJ2_getChar_3b067_33 : decode cJ2_getChar_3b067 33 = .ok (.iload_n 1, 1) := by decide +kernel
theorem dJ2_getChar_3b067_34 : decode cJ2_getChar_3b067 34 = .ok (.iinc 1 1, 3) := by decide +kernel
theorem dJ2_getChar_3b067_37 : decode cJ2_getChar_3b067 37 = .ok (.baload, 1) := by decide +kernel
theorem dJ2_getChar_3b067_38 : decode cJ2_getChar_3b067 38 = .ok (.sipush 255, 3) := by decide +kernel
theorem dJ2_getChar_3b067_41 : decode cJ2_getChar_3b067 41 = .ok (.iand, 1) := by decide +kernel
theorem dJ2_getChar_3b067_42 : decode cJ2_getChar_3b067 42 = .ok (.getstatic 59, 3) := by decide +kernel
theorem dJ2_getChar_3b067_45 : decode cJ2_getChar_3b067 45 = .ok (.ishl, 1) := by decide +kernel
theorem dJ2_getChar_3b067_46 : decode cJ2_getChar_3b067 46 = .ok (.aload_n 0, 1) := by decide +kernel
theorem dJ2_getChar_3b067_47 : decode cJ2_getChar_3b067 47 = .ok (.iload_n 1, 1) := by decide +kernel
theorem dJ2_getChar_3b067_48 : decode cJ2_getChar_3b067 48 = .ok (.baload, 1) := by decide +kernel
theorem dJ2_getChar_3b067_49 : decode cJ2_getChar_3b067 49 = .ok (.sipush 255, 3) := by decide +kernel
theorem dJ2_getChar_3b067_52 : decode cJ2_getChar_3b067 52 = .ok (.iand, 1) := by decide +kernel
theorem dJ2_getChar_3b067_53 : decode cJ2_getChar_3b067 53 = .ok (.getstatic 63, 3) := by decide +kernel
theorem dJ2_getChar_3b067_56 : decode cJ2_getChar_3b067 56 = .ok (.ishl, 1) := by decide +kernel
theorem dJ2_getChar_3b067_57 : decode cJ2_getChar_3b067 57 = .ok (.ior, 1) := by decide +kernel
theorem dJ2_getChar_3b067_58 : decode cJ2_getChar_3b067 58 = .ok (.i2c, 1) := by decide +kernel
theorem dJ2_getChar_3b067_59 : decode cJ2_getChar_3b067 59 = .ok (.ireturn, 1) := by decide +kernel
theorem dJ2_length_9d52b_0 : decode cJ2_length_9d52b 0 = .ok (.aload_n 0, 1) := by decide +kernel
theorem dJ2_length_9d52b_1 : decode cJ2_length_9d52b 1 = .ok (.arraylength, 1) := by decide +kernel
theorem dJ2_length_9d52b_2 : decode cJ2_length_9d52b 2 = .ok (.iconst 1, 1) := by decide +kernel
theorem dJ2_length_9d52b_3 : decode cJ2_length_9d52b 3 = .ok (.ishr, 1) := by decide +kernel
theorem dJ2_length_9d52b_4 : decode cJ2_length_9d52b 4 = .ok (.ireturn, 1) := by decide +kernel
theorem dJ2_charAt_3b067_0 : decode cJ2_charAt_3b067 0 = .ok (.iload_n 1, 1) := by decide +kernel
theorem dJ2_charAt_3b067_1 : decode cJ2_charAt_3b067 1 = .ok (.aload_n 0, 1) := by decide +kernel
theorem dJ2_charAt_3b067_2 : decode cJ2_charAt_3b067 2 = .ok (.invokestatic 67, 3) := by decide +kernel
theorem dJ2_charAt_3b067_5 : decode cJ2_charAt_3b067 5 = .ok (.aload_n 0, 1) := by decide +kernel
theorem dJ2_charAt_3b067_6 : decode cJ2_charAt_3b067 6 = .ok (.iload_n 1, 1) := by decide +kernel
theorem dJ2_charAt_3b067_7 : decode cJ2_charAt_3b067 7 = .ok (.invokestatic 71, 3) := by decide +kernel
theorem dJ2_charAt_3b067_10 : decode cJ2_charAt_3b067 10 = .ok (.ireturn, 1) := by decide +kernel
theorem dJ2_checkIndex_2214a_0 : decode cJ2_checkIndex_2214a 0 = .ok (.iload_n 0, 1) := by decide +kernel
theorem dJ2_checkIndex_2214a_1 : decode cJ2_checkIndex_2214a 1 = .ok (.aload_n 1, 1) := by decide +kernel
theorem dJ2_checkIndex_2214a_2 : decode cJ2_checkIndex_2214a 2 = .ok (.invokestatic 48, 3) := by decide +kernel
theorem dJ2_checkIndex_2214a_5 : decode cJ2_checkIndex_2214a 5 = .ok (.invokestatic 414, 3) := by decide +kernel
theorem dJ2_checkIndex_2214a_8 : decode cJ2_checkIndex_2214a 8 = .ok (.return_, 1) := by decide +kernel
theorem dJ3_checkIndex_8e157_0 : decode cJ3_checkIndex_8e157 0 = .ok (.iload_n 0, 1) := by decide +kernel
theorem dJ3_checkIndex_8e157_1 : decode cJ3_checkIndex_8e157 1 = .ok (.ifCond .lt 8, 3) := by decide +kernel
theorem dJ3_checkIndex_8e157_4 : decode cJ3_checkIndex_8e157 4 = .ok (.iload_n 0, 1) := by decide +kernel
theorem dJ3_checkIndex_8e157_5 : decode cJ3_checkIndex_8e157 5 = .ok (.iload_n 1, 1) := by decide +kernel
theorem dJ3_checkIndex_8e157_6 : decode cJ3_checkIndex_8e157 6 = .ok (.if_icmp .lt 10, 3) := by decide +kernel
theorem dJ3_checkIndex_8e157_9 : decode cJ3_checkIndex_8e157 9 = .ok (.aload_n 2, 1) := by decide +kernel
theorem dJ3_checkIndex_8e157_10 : decode cJ3_checkIndex_8e157 10 = .ok (.iload_n 0, 1) := by decide +kernel
theorem dJ3_checkIndex_8e157_11 : decode cJ3_checkIndex_8e157 11 = .ok (.iload_n 1, 1) := by decide +kernel
theorem dJ3_checkIndex_8e157_12 : decode cJ3_checkIndex_8e157 12 = .ok (.invokestatic 95, 3) := by decide +kernel
theorem dJ3_checkIndex_8e157_15 : decode cJ3_checkIndex_8e157 15 = .ok (.athrow, 1) := by decide +kernel
theorem dJ3_checkIndex_8e157_16 : decode cJ3_checkIndex_8e157 16 = .ok (.iload_n 0, 1) := by decide +kernel
theorem dJ3_checkIndex_8e157_17 : decode cJ3_checkIndex_8e157 17 = .ok (.ireturn, 1) := by decide +kernel
theorem dL_law_0 : decode cL_law 0 = .ok (.new 7, 3) := by decide +kernel
theorem dL_law_3 : decode cL_law 3 = .ok (.dup, 1) := by decide +kernel
theorem dL_law_4 : decode cL_law 4 = .ok (.invokespecial 9, 3) := by decide +kernel
theorem dL_law_7 : decode cL_law 7 = .ok (.astore_n 1, 1) := by decide +kernel
theorem dL_law_8 : decode cL_law 8 = .ok (.new 10, 3) := by decide +kernel
theorem dL_law_11 : decode cL_law 11 = .ok (.dup, 1) := by decide +kernel
theorem dL_law_12 : decode cL_law 12 = .ok (.invokespecial 12, 3) := by decide +kernel
theorem dL_law_15 : decode cL_law 15 = .ok (.astore_n 2, 1) := by decide +kernel
theorem dL_law_16 : decode cL_law 16 = .ok (.iconst 0, 1) := by decide +kernel
theorem dL_law_17 : decode cL_law 17 = .ok (.istore_n 3, 1) := by decide +kernel
theorem dL_law_18 : decode cL_law 18 = .ok (.iload_n 3, 1) := by decide +kernel
theorem dL_law_19 : decode cL_law 19 = .ok (.aload_n 0, 1) := by decide +kernel
theorem dL_law_20 : decode cL_law 20 = .ok (.arraylength, 1) := by decide +kernel
theorem dL_law_21 : decode cL_law 21 = .ok (.bipush 6, 2) := by decide +kernel
theorem dL_law_23 : decode cL_law 23 = .ok (.isub, 1) := by decide +kernel
theorem dL_law_24 : decode cL_law 24 = .ok (.if_icmp .gt 768, 3) := by decide +kernel
theorem dL_law_27 : decode cL_law 27 = .ok (.aload_n 0, 1) := by decide +kernel
theorem dL_law_28 : decode cL_law 28 = .ok (.iload_n 3, 1) := by decide +kernel
theorem dL_law_29 : decode cL_law 29 = .ok (.iaload, 1) := by decide +kernel
theorem dL_law_30 : decode cL_law 30 = .ok (.bipush 31, 2) := by decide +kernel
theorem dL_law_32 : decode cL_law 32 = .ok (.iand, 1) := by decide +kernel
theorem dL_law_33 : decode cL_law 33 = .ok (.tableswitch 753 0 23 #[111, 154, 187, 200, 223, 256, 289, 322, 385, 408, 441, 474, 507, 520, 533, 556, 569, 592, 615, 638, 661, 684, 707, 730], 111) := by decide +kernel
theorem dL_law_144 : decode cL_law 144 = .ok (.aload_n 1, 1) := by decide +kernel
theorem dL_law_145 : decode cL_law 145 = .ok (.aload_n 0, 1) := by decide +kernel
theorem dL_law_146 : decode cL_law 146 = .ok (.iload_n 3, 1) := by decide +kernel
theorem dL_law_147 : decode cL_law 147 = .ok (.iconst 1, 1) := by decide +kernel
theorem dL_law_148 : decode cL_law 148 = .ok (.iadd, 1) := by decide +kernel
theorem dL_law_149 : decode cL_law 149 = .ok (.iaload, 1) := by decide +kernel
theorem dL_law_150 : decode cL_law 150 = .ok (.aload_n 0, 1) := by decide +kernel
theorem dL_law_151 : decode cL_law 151 = .ok (.iload_n 3, 1) := by decide +kernel
theorem dL_law_152 : decode cL_law 152 = .ok (.iconst 2, 1) := by decide +kernel
theorem dL_law_153 : decode cL_law 153 = .ok (.iadd, 1) := by decide +kernel
theorem dL_law_154 : decode cL_law 154 = .ok (.iaload, 1) := by decide +kernel
theorem dL_law_155 : decode cL_law 155 = .ok (.aload_n 0, 1) := by decide +kernel
theorem dL_law_156 : decode cL_law 156 = .ok (.iload_n 3, 1) := by decide +kernel
theorem dL_law_157 : decode cL_law 157 = .ok (.iconst 3, 1) := by decide +kernel
theorem dL_law_158 : decode cL_law 158 = .ok (.iadd, 1) := by decide +kernel
theorem dL_law_159 : decode cL_law 159 = .ok (.iaload, 1) := by decide +kernel
theorem dL_law_160 : decode cL_law 160 = .ok (.invokevirtual 13, 3) := by decide +kernel
theorem dL_law_163 : decode cL_law 163 = .ok (.aload_n 2, 1) := by decide +kernel
theorem dL_law_164 : decode cL_law 164 = .ok (.aload_n 0, 1) := by decide +kernel
theorem dL_law_165 : decode cL_law 165 = .ok (.iload_n 3, 1) := by decide +kernel
theorem dL_law_166 : decode cL_law 166 = .ok (.iconst 1, 1) := by decide +kernel
theorem dL_law_167 : decode cL_law 167 = .ok (.iadd, 1) := by decide +kernel
theorem dL_law_168 : decode cL_law 168 = .ok (.iaload, 1) := by decide +kernel
theorem dL_law_169 : decode cL_law 169 = .ok (.aload_n 0, 1) := by decide +kernel
theorem dL_law_170 : decode cL_law 170 = .ok (.iload_n 3, 1) := by decide +kernel
theorem dL_law_171 : decode cL_law 171 = .ok (.iconst 2, 1) := by decide +kernel
theorem dL_law_172 : decode cL_law 172 = .ok (.iadd, 1) := by decide +kernel
theorem dL_law_173 : decode cL_law 173 = .ok (.iaload, 1) := by decide +kernel
theorem dL_law_174 : decode cL_law 174 = .ok (.aload_n 0, 1) := by decide +kernel
theorem dL_law_175 : decode cL_law 175 = .ok (.iload_n 3, 1) := by decide +kernel
theorem dL_law_176 : decode cL_law 176 = .ok (.iconst 3, 1) := by decide +kernel
theorem dL_law_177 : decode cL_law 177 = .ok (.iadd, 1) := by decide +kernel
theorem dL_law_178 : decode cL_law 178 = .ok (.iaload, 1) := by decide +kernel
theorem dL_law_179 : decode cL_law 179 = .ok (.invokevirtual 17, 3) := by decide +kernel
theorem dL_law_182 : decode cL_law 182 = .ok (.if_icmp .eq 604, 3) := by decide +kernel
theorem dL_law_185 : decode cL_law 185 = .ok (.iconst 0, 1) := by decide +kernel
theorem dL_law_186 : decode cL_law 186 = .ok (.ireturn, 1) := by decide +kernel
theorem dL_law_187 : decode cL_law 187 = .ok (.aload_n 1, 1) := by decide +kernel
theorem dL_law_188 : decode cL_law 188 = .ok (.aload_n 0, 1) := by decide +kernel
theorem dL_law_189 : decode cL_law 189 = .ok (.iload_n 3, 1) := by decide +kernel
theorem dL_law_190 : decode cL_law 190 = .ok (.iconst 1, 1) := by decide +kernel
theorem dL_law_191 : decode cL_law 191 = .ok (.iadd, 1) := by decide +kernel
theorem dL_law_192 : decode cL_law 192 = .ok (.iaload, 1) := by decide +kernel
theorem dL_law_193 : decode cL_law 193 = .ok (.aload_n 0, 1) := by decide +kernel
theorem dL_law_194 : decode cL_law 194 = .ok (.iload_n 3, 1) := by decide +kernel
theorem dL_law_195 : decode cL_law 195 = .ok (.iconst 2, 1) := by decide +kernel
theorem dL_law_196 : decode cL_law 196 = .ok (.iadd, 1) := by decide +kernel
theorem dL_law_197 : decode cL_law 197 = .ok (.iaload, 1) := by decide +kernel
theorem dL_law_198 : decode cL_law 198 = .ok (.invokevirtual 18, 3) := by decide +kernel
theorem dL_law_201 : decode cL_law 201 = .ok (.aload_n 2, 1) := by decide +kernel
theorem dL_law_202 : decode cL_law 202 = .ok (.aload_n 0, 1) := by decide +kernel
theorem dL_law_203 : decode cL_law 203 = .ok (.iload_n 3, 1) := by decide +kernel
theorem dL_law_204 : decode cL_law 204 = .ok (.iconst 1, 1) := by decide +kernel
theorem dL_law_205 : decode cL_law 205 = .ok (.iadd, 1) := by decide +kernel
theorem dL_law_206 : decode cL_law 206 = .ok (.iaload, 1) := by decide +kernel
theorem dL_law_207 : decode cL_law 207 = .ok (.aload_n 0, 1) := by decide +kernel
theorem dL_law_208 : decode cL_law 208 = .ok (.iload_n 3, 1) := by decide +kernel
theorem dL_law_209 : decode cL_law 209 = .ok (.iconst 2, 1) := by decide +kernel
theorem dL_law_210 : decode cL_law 210 = .ok (.iadd, 1) := by decide +kernel
theorem dL_law_211 : decode cL_law 211 = .ok (.iaload, 1) := by decide +kernel
theorem dL_law_212 : decode cL_law 212 = .ok (.invokevirtual 22, 3) := by decide +kernel
theorem dL_law_215 : decode cL_law 215 = .ok (.if_icmp .eq 571, 3) := by decide +kernel
theorem dL_law_218 : decode cL_law 218 = .ok (.iconst 0, 1) := by decide +kernel
theorem dL_law_219 : decode cL_law 219 = .ok (.ireturn, 1) := by decide +kernel
theorem dL_law_220 : decode cL_law 220 = .ok (.aload_n 1, 1) := by decide +kernel
theorem dL_law_221 : decode cL_law 221 = .ok (.invokevirtual 23, 3) := by decide +kernel
theorem dL_law_224 : decode cL_law 224 = .ok (.aload_n 2, 1) := by decide +kernel
theorem dL_law_225 : decode cL_law 225 = .ok (.invokevirtual 27, 3) := by decide +kernel
theorem dL_law_228 : decode cL_law 228 = .ok (.if_icmp .eq 558, 3) := by decide +kernel
theorem dL_law_231 : decode cL_law 231 = .ok (.iconst 0, 1) := by decide +kernel
theorem dL_law_232 : decode cL_law 232 = .ok (.ireturn, 1) := by decide +kernel
theorem dL_law_233 : decode cL_law 233 = .ok (.aload_n 1, 1) := by decide +kernel
theorem dL_law_234 : decode cL_law 234 = .ok (.aload_n 0, 1) := by decide +kernel
theorem dL_law_235 : decode cL_law 235 = .ok (.iload_n 3, 1) := by decide +kernel
theorem dL_law_236 : decode cL_law 236 = .ok (.iconst 1, 1) := by decide +kernel
theorem dL_law_237 : decode cL_law 237 = .ok (.iadd, 1) := by decide +kernel
theorem dL_law_238 : decode cL_law 238 = .ok (.iaload, 1) := by decide +kernel
theorem dL_law_239 : decode cL_law 239 = .ok (.invokevirtual 28, 3) := by decide +kernel
theorem dL_law_242 : decode cL_law 242 = .ok (.aload_n 2, 1) := by decide +kernel
theorem dL_law_243 : decode cL_law 243 = .ok (.aload_n 0, 1) := by decide +kernel
theorem dL_law_244 : decode cL_law 244 = .ok (.iload_n 3, 1) := by decide +kernel
theorem dL_law_245 : decode cL_law 245 = .ok (.iconst 1, 1) := by decide +kernel
theorem dL_law_246 : decode cL_law 246 = .ok (.iadd, 1) := by decide +kernel
theorem dL_law_247 : decode cL_law 247 = .ok (.iaload, 1) := by decide +kernel
theorem dL_law_248 : decode cL_law 248 = .ok (.invokevirtual 32, 3) := by decide +kernel
theorem dL_law_251 : decode cL_law 251 = .ok (.if_icmp .eq 535, 3) := by decide +kernel
theorem dL_law_254 : decode cL_law 254 = .ok (.iconst 0, 1) := by decide +kernel
theorem dL_law_255 : decode cL_law 255 = .ok (.ireturn, 1) := by decide +kernel
theorem dL_law_256 : decode cL_law 256 = .ok (.aload_n 1, 1) := by decide +kernel
theorem dL_law_257 : decode cL_law 257 = .ok (.aload_n 0, 1) := by decide +kernel
theorem dL_law_258 : decode cL_law 258 = .ok (.iload_n 3, 1) := by decide +kernel
theorem dL_law_259 : decode cL_law 259 = .ok (.iconst 1, 1) := by decide +kernel
theorem dL_law_260 : decode cL_law 260 = .ok (.iadd, 1) := by decide +kernel
theorem dL_law_261 : decode cL_law 261 = .ok (.iaload, 1) := by decide +kernel
theorem dL_law_262 : decode cL_law 262 = .ok (.aload_n 0, 1) := by decide +kernel
theorem dL_law_263 : decode cL_law 263 = .ok (.iload_n 3, 1) := by decide +kernel
theorem dL_law_264 : decode cL_law 264 = .ok (.iconst 2, 1) := by decide +kernel
theorem dL_law_265 : decode cL_law 265 = .ok (.iadd, 1) := by decide +kernel
theorem dL_law_266 : decode cL_law 266 = .ok (.iaload, 1) := by decide +kernel
theorem dL_law_267 : decode cL_law 267 = .ok (.invokevirtual 33, 3) := by decide +kernel
theorem dL_law_270 : decode cL_law 270 = .ok (.aload_n 2, 1) := by decide +kernel
theorem dL_law_271 : decode cL_law 271 = .ok (.aload_n 0, 1) := by decide +kernel
theorem dL_law_272 : decode cL_law 272 = .ok (.iload_n 3, 1) := by decide +kernel
theorem dL_law_273 : decode cL_law 273 = .ok (.iconst 1, 1) := by decide +kernel
theorem dL_law_274 : decode cL_law 274 = .ok (.iadd, 1) := by decide +kernel
theorem dL_law_275 : decode cL_law 275 = .ok (.iaload, 1) := by decide +kernel
theorem dL_law_276 : decode cL_law 276 = .ok (.aload_n 0, 1) := by decide +kernel
theorem dL_law_277 : decode cL_law 277 = .ok (.iload_n 3, 1) := by decide +kernel
theorem dL_law_278 : decode cL_law 278 = .ok (.iconst 2, 1) := by decide +kernel
theorem dL_law_279 : decode cL_law 279 = .ok (.iadd, 1) := by decide +kernel
theorem dL_law_280 : decode cL_law 280 = .ok (.iaload, 1) := by decide +kernel
theorem dL_law_281 : decode cL_law 281 = .ok (.invokevirtual 36, 3) := by decide +kernel
theorem dL_law_284 : decode cL_law 284 = .ok (.if_icmp .eq 502, 3) := by decide +kernel
theorem dL_law_287 : decode cL_law 287 = .ok (.iconst 0, 1) := by decide +kernel
theorem dL_law_288 : decode cL_law 288 = .ok (.ireturn, 1) := by decide +kernel
theorem dL_law_289 : decode cL_law 289 = .ok (.aload_n 1, 1) := by decide +kernel
theorem dL_law_290 : decode cL_law 290 = .ok (.aload_n 0, 1) := by decide +kernel
theorem dL_law_291 : decode cL_law 291 = .ok (.iload_n 3, 1) := by decide +kernel
theorem dL_law_292 : decode cL_law 292 = .ok (.iconst 1, 1) := by decide +kernel
theorem dL_law_293 : decode cL_law 293 = .ok (.iadd, 1) := by decide +kernel
theorem dL_law_294 : decode cL_law 294 = .ok (.iaload, 1) := by decide +kernel
theorem dL_law_295 : decode cL_law 295 = .ok (.aload_n 0, 1) := by decide +kernel
theorem dL_law_296 : decode cL_law 296 = .ok (.iload_n 3, 1) := by decide +kernel
theorem dL_law_297 : decode cL_law 297 = .ok (.iconst 2, 1) := by decide +kernel
theorem dL_law_298 : decode cL_law 298 = .ok (.iadd, 1) := by decide +kernel
theorem dL_law_299 : decode cL_law 299 = .ok (.iaload, 1) := by decide +kernel
theorem dL_law_300 : decode cL_law 300 = .ok (.invokevirtual 37, 3) := by decide +kernel
theorem dL_law_303 : decode cL_law 303 = .ok (.aload_n 2, 1) := by decide +kernel
theorem dL_law_304 : decode cL_law 304 = .ok (.aload_n 0, 1) := by decide +kernel
theorem dL_law_305 : decode cL_law 305 = .ok (.iload_n 3, 1) := by decide +kernel
theorem dL_law_306 : decode cL_law 306 = .ok (.iconst 1, 1) := by decide +kernel
theorem dL_law_307 : decode cL_law 307 = .ok (.iadd, 1) := by decide +kernel
theorem dL_law_308 : decode cL_law 308 = .ok (.iaload, 1) := by decide +kernel
theorem dL_law_309 : decode cL_law 309 = .ok (.aload_n 0, 1) := by decide +kernel
theorem dL_law_310 : decode cL_law 310 = .ok (.iload_n 3, 1) := by decide +kernel
theorem dL_law_311 : decode cL_law 311 = .ok (.iconst 2, 1) := by decide +kernel
theorem dL_law_312 : decode cL_law 312 = .ok (.iadd, 1) := by decide +kernel
theorem dL_law_313 : decode cL_law 313 = .ok (.iaload, 1) := by decide +kernel
theorem dL_law_314 : decode cL_law 314 = .ok (.invokevirtual 40, 3) := by decide +kernel
theorem dL_law_317 : decode cL_law 317 = .ok (.if_icmp .eq 469, 3) := by decide +kernel
theorem dL_law_320 : decode cL_law 320 = .ok (.iconst 0, 1) := by decide +kernel
theorem dL_law_321 : decode cL_law 321 = .ok (.ireturn, 1) := by decide +kernel
theorem dL_law_322 : decode cL_law 322 = .ok (.aload_n 1, 1) := by decide +kernel
theorem dL_law_323 : decode cL_law 323 = .ok (.aload_n 0, 1) := by decide +kernel
theorem dL_law_324 : decode cL_law 324 = .ok (.iload_n 3, 1) := by decide +kernel
theorem dL_law_325 : decode cL_law 325 = .ok (.iconst 1, 1) := by decide +kernel
theorem dL_law_326 : decode cL_law 326 = .ok (.iadd, 1) := by decide +kernel
theorem dL_law_327 : decode cL_law 327 = .ok (.iaload, 1) := by decide +kernel
theorem dL_law_328 : decode cL_law 328 = .ok (.aload_n 0, 1) := by decide +kernel
theorem dL_law_329 : decode cL_law 329 = .ok (.iload_n 3, 1) := by decide +kernel
theorem dL_law_330 : decode cL_law 330 = .ok (.iconst 2, 1) := by decide +kernel
theorem dL_law_331 : decode cL_law 331 = .ok (.iadd, 1) := by decide +kernel
theorem dL_law_332 : decode cL_law 332 = .ok (.iaload, 1) := by decide +kernel
theorem dL_law_333 : decode cL_law 333 = .ok (.invokevirtual 41, 3) := by decide +kernel
theorem dL_law_336 : decode cL_law 336 = .ok (.aload_n 2, 1) := by decide +kernel
theorem dL_law_337 : decode cL_law 337 = .ok (.aload_n 0, 1) := by decide +kernel
theorem dL_law_338 : decode cL_law 338 = .ok (.iload_n 3, 1) := by decide +kernel
theorem dL_law_339 : decode cL_law 339 = .ok (.iconst 1, 1) := by decide +kernel
theorem dL_law_340 : decode cL_law 340 = .ok (.iadd, 1) := by decide +kernel
theorem dL_law_341 : decode cL_law 341 = .ok (.iaload, 1) := by decide +kernel
theorem dL_law_342 : decode cL_law 342 = .ok (.aload_n 0, 1) := by decide +kernel
theorem dL_law_343 : decode cL_law 343 = .ok (.iload_n 3, 1) := by decide +kernel
theorem dL_law_344 : decode cL_law 344 = .ok (.iconst 2, 1) := by decide +kernel
theorem dL_law_345 : decode cL_law 345 = .ok (.iadd, 1) := by decide +kernel
theorem dL_law_346 : decode cL_law 346 = .ok (.iaload, 1) := by decide +kernel
theorem dL_law_347 : decode cL_law 347 = .ok (.invokevirtual 44, 3) := by decide +kernel
theorem dL_law_350 : decode cL_law 350 = .ok (.if_icmp .eq 436, 3) := by decide +kernel
theorem dL_law_353 : decode cL_law 353 = .ok (.iconst 0, 1) := by decide +kernel
theorem dL_law_354 : decode cL_law 354 = .ok (.ireturn, 1) := by decide +kernel
theorem dL_law_355 : decode cL_law 355 = .ok (.aload_n 1, 1) := by decide +kernel
theorem dL_law_356 : decode cL_law 356 = .ok (.aload_n 0, 1) := by decide +kernel
theorem dL_law_357 : decode cL_law 357 = .ok (.iload_n 3, 1) := by decide +kernel
theorem dL_law_358 : decode cL_law 358 = .ok (.iconst 1, 1) := by decide +kernel
theorem dL_law_359 : decode cL_law 359 = .ok (.iadd, 1) := by decide +kernel
theorem dL_law_360 : decode cL_law 360 = .ok (.iaload, 1) := by decide +kernel
theorem dL_law_361 : decode cL_law 361 = .ok (.aload_n 0, 1) := by decide +kernel
theorem dL_law_362 : decode cL_law 362 = .ok (.iload_n 3, 1) := by decide +kernel
theorem dL_law_363 : decode cL_law 363 = .ok (.iconst 2, 1) := by decide +kernel
theorem dL_law_364 : decode cL_law 364 = .ok (.iadd, 1) := by decide +kernel
theorem dL_law_365 : decode cL_law 365 = .ok (.iaload, 1) := by decide +kernel
theorem dL_law_366 : decode cL_law 366 = .ok (.aload_n 0, 1) := by decide +kernel
theorem dL_law_367 : decode cL_law 367 = .ok (.iload_n 3, 1) := by decide +kernel
theorem dL_law_368 : decode cL_law 368 = .ok (.iconst 3, 1) := by decide +kernel
theorem dL_law_369 : decode cL_law 369 = .ok (.iadd, 1) := by decide +kernel
theorem dL_law_370 : decode cL_law 370 = .ok (.iaload, 1) := by decide +kernel
theorem dL_law_371 : decode cL_law 371 = .ok (.aload_n 0, 1) := by decide +kernel
theorem dL_law_372 : decode cL_law 372 = .ok (.iload_n 3, 1) := by decide +kernel
theorem dL_law_373 : decode cL_law 373 = .ok (.iconst 4, 1) := by decide +kernel
theorem dL_law_374 : decode cL_law 374 = .ok (.iadd, 1) := by decide +kernel
theorem dL_law_375 : decode cL_law 375 = .ok (.iaload, 1) := by decide +kernel
theorem dL_law_376 : decode cL_law 376 = .ok (.aload_n 0, 1) := by decide +kernel
theorem dL_law_377 : decode cL_law 377 = .ok (.iload_n 3, 1) := by decide +kernel
theorem dL_law_378 : decode cL_law 378 = .ok (.iconst 5, 1) := by decide +kernel
theorem dL_law_379 : decode cL_law 379 = .ok (.iadd, 1) := by decide +kernel
theorem dL_law_380 : decode cL_law 380 = .ok (.iaload, 1) := by decide +kernel
theorem dL_law_381 : decode cL_law 381 = .ok (.invokevirtual 45, 3) := by decide +kernel
theorem dL_law_384 : decode cL_law 384 = .ok (.aload_n 2, 1) := by decide +kernel
theorem dL_law_385 : decode cL_law 385 = .ok (.aload_n 0, 1) := by decide +kernel
theorem dL_law_386 : decode cL_law 386 = .ok (.iload_n 3, 1) := by decide +kernel
theorem dL_law_387 : decode cL_law 387 = .ok (.iconst 1, 1) := by decide +kernel
theorem dL_law_388 : decode cL_law 388 = .ok (.iadd, 1) := by decide +kernel
theorem dL_law_389 : decode cL_law 389 = .ok (.iaload, 1) := by decide +kernel
theorem dL_law_390 : decode cL_law 390 = .ok (.aload_n 0, 1) := by decide +kernel
theorem dL_law_391 : decode cL_law 391 = .ok (.iload_n 3, 1) := by decide +kernel
theorem dL_law_392 : decode cL_law 392 = .ok (.iconst 2, 1) := by decide +kernel
theorem dL_law_393 : decode cL_law 393 = .ok (.iadd, 1) := by decide +kernel
theorem dL_law_394 : decode cL_law 394 = .ok (.iaload, 1) := by decide +kernel
theorem dL_law_395 : decode cL_law 395 = .ok (.aload_n 0, 1) := by decide +kernel
theorem dL_law_396 : decode cL_law 396 = .ok (.iload_n 3, 1) := by decide +kernel
theorem dL_law_397 : decode cL_law 397 = .ok (.iconst 3, 1) := by decide +kernel
theorem dL_law_398 : decode cL_law 398 = .ok (.iadd, 1) := by decide +kernel
theorem dL_law_399 : decode cL_law 399 = .ok (.iaload, 1) := by decide +kernel
theorem dL_law_400 : decode cL_law 400 = .ok (.aload_n 0, 1) := by decide +kernel
theorem dL_law_401 : decode cL_law 401 = .ok (.iload_n 3, 1) := by decide +kernel
theorem dL_law_402 : decode cL_law 402 = .ok (.iconst 4, 1) := by decide +kernel
theorem dL_law_403 : decode cL_law 403 = .ok (.iadd, 1) := by decide +kernel
theorem dL_law_404 : decode cL_law 404 = .ok (.iaload, 1) := by decide +kernel
theorem dL_law_405 : decode cL_law 405 = .ok (.aload_n 0, 1) := by decide +kernel
theorem dL_law_406 : decode cL_law 406 = .ok (.iload_n 3, 1) := by decide +kernel
theorem dL_law_407 : decode cL_law 407 = .ok (.iconst 5, 1) := by decide +kernel
theorem dL_law_408 : decode cL_law 408 = .ok (.iadd, 1) := by decide +kernel
theorem dL_law_409 : decode cL_law 409 = .ok (.iaload, 1) := by decide +kernel
theorem dL_law_410 : decode cL_law 410 = .ok (.invokevirtual 49, 3) := by decide +kernel
theorem dL_law_413 : decode cL_law 413 = .ok (.if_icmp .eq 373, 3) := by decide +kernel
theorem dL_law_416 : decode cL_law 416 = .ok (.iconst 0, 1) := by decide +kernel
theorem dL_law_417 : decode cL_law 417 = .ok (.ireturn, 1) := by decide +kernel
theorem dL_law_418 : decode cL_law 418 = .ok (.aload_n 1, 1) := by decide +kernel
theorem dL_law_419 : decode cL_law 419 = .ok (.aload_n 0, 1) := by decide +kernel
theorem dL_law_420 : decode cL_law 420 = .ok (.iload_n 3, 1) := by decide +kernel
theorem dL_law_421 : decode cL_law 421 = .ok (.iconst 1, 1) := by decide +kernel
theorem dL_law_422 : decode cL_law 422 = .ok (.iadd, 1) := by decide +kernel
theorem dL_law_423 : decode cL_law 423 = .ok (.iaload, 1) := by decide +kernel
theorem dL_law_424 : decode cL_law 424 = .ok (.invokevirtual 50, 3) := by decide +kernel
theorem dL_law_427 : decode cL_law 427 = .ok (.aload_n 2, 1) := by decide +kernel
theorem dL_law_428 : decode cL_law 428 = .ok (.aload_n 0, 1) := by decide +kernel
theorem dL_law_429 : decode cL_law 429 = .ok (.iload_n 3, 1) := by decide +kernel
theorem dL_law_430 : decode cL_law 430 = .ok (.iconst 1, 1) := by decide +kernel
theorem dL_law_431 : decode cL_law 431 = .ok (.iadd, 1) := by decide +kernel
theorem dL_law_432 : decode cL_law 432 = .ok (.iaload, 1) := by decide +kernel
theorem dL_law_433 : decode cL_law 433 = .ok (.invokevirtual 53, 3) := by decide +kernel
theorem dL_law_436 : decode cL_law 436 = .ok (.if_icmp .eq 350, 3) := by decide +kernel
theorem dL_law_439 : decode cL_law 439 = .ok (.iconst 0, 1) := by decide +kernel
theorem dL_law_440 : decode cL_law 440 = .ok (.ireturn, 1) := by decide +kernel
theorem dL_law_441 : decode cL_law 441 = .ok (.aload_n 1, 1) := by decide +kernel
theorem dL_law_442 : decode cL_law 442 = .ok (.aload_n 0, 1) := by decide +kernel
theorem dL_law_443 : decode cL_law 443 = .ok (.iload_n 3, 1) := by decide +kernel
theorem dL_law_444 : decode cL_law 444 = .ok (.iconst 1, 1) := by decide +kernel
theorem dL_law_445 : decode cL_law 445 = .ok (.iadd, 1) := by decide +kernel
theorem dL_law_446 : decode cL_law 446 = .ok (.iaload, 1) := by decide +kernel
theorem dL_law_447 : decode cL_law 447 = .ok (.aload_n 0, 1) := by decide +kernel
theorem dL_law_448 : decode cL_law 448 = .ok (.iload_n 3, 1) := by decide +kernel
theorem dL_law_449 : decode cL_law 449 = .ok (.iconst 2, 1) := by decide +kernel
theorem dL_law_450 : decode cL_law 450 = .ok (.iadd, 1) := by decide +kernel
theorem dL_law_451 : decode cL_law 451 = .ok (.iaload, 1) := by decide +kernel
theorem dL_law_452 : decode cL_law 452 = .ok (.invokevirtual 54, 3) := by decide +kernel
theorem dL_law_455 : decode cL_law 455 = .ok (.aload_n 2, 1) := by decide +kernel
theorem dL_law_456 : decode cL_law 456 = .ok (.aload_n 0, 1) := by decide +kernel
theorem dL_law_457 : decode cL_law 457 = .ok (.iload_n 3, 1) := by decide +kernel
theorem dL_law_458 : decode cL_law 458 = .ok (.iconst 1, 1) := by decide +kernel
theorem dL_law_459 : decode cL_law 459 = .ok (.iadd, 1) := by decide +kernel
theorem dL_law_460 : decode cL_law 460 = .ok (.iaload, 1) := by decide +kernel
theorem dL_law_461 : decode cL_law 461 = .ok (.aload_n 0, 1) := by decide +kernel
theorem dL_law_462 : decode cL_law 462 = .ok (.iload_n 3, 1) := by decide +kernel
theorem dL_law_463 : decode cL_law 463 = .ok (.iconst 2, 1) := by decide +kernel
theorem dL_law_464 : decode cL_law 464 = .ok (.iadd, 1) := by decide +kernel
theorem dL_law_465 : decode cL_law 465 = .ok (.iaload, 1) := by decide +kernel
theorem dL_law_466 : decode cL_law 466 = .ok (.invokevirtual 57, 3) := by decide +kernel
theorem dL_law_469 : decode cL_law 469 = .ok (.if_icmp .eq 317, 3) := by decide +kernel
theorem dL_law_472 : decode cL_law 472 = .ok (.iconst 0, 1) := by decide +kernel
theorem dL_law_473 : decode cL_law 473 = .ok (.ireturn, 1) := by decide +kernel
theorem dL_law_474 : decode cL_law 474 = .ok (.aload_n 1, 1) := by decide +kernel
theorem dL_law_475 : decode cL_law 475 = .ok (.aload_n 0, 1) := by decide +kernel
theorem dL_law_476 : decode cL_law 476 = .ok (.iload_n 3, 1) := by decide +kernel
theorem dL_law_477 : decode cL_law 477 = .ok (.iconst 1, 1) := by decide +kernel
theorem dL_law_478 : decode cL_law 478 = .ok (.iadd, 1) := by decide +kernel
theorem dL_law_479 : decode cL_law 479 = .ok (.iaload, 1) := by decide +kernel
theorem dL_law_480 : decode cL_law 480 = .ok (.aload_n 0, 1) := by decide +kernel
theorem dL_law_481 : decode cL_law 481 = .ok (.iload_n 3, 1) := by decide +kernel
theorem dL_law_482 : decode cL_law 482 = .ok (.iconst 2, 1) := by decide +kernel
theorem dL_law_483 : decode cL_law 483 = .ok (.iadd, 1) := by decide +kernel
theorem dL_law_484 : decode cL_law 484 = .ok (.iaload, 1) := by decide +kernel
theorem dL_law_485 : decode cL_law 485 = .ok (.invokevirtual 58, 3) := by decide +kernel
theorem dL_law_488 : decode cL_law 488 = .ok (.aload_n 2, 1) := by decide +kernel
theorem dL_law_489 : decode cL_law 489 = .ok (.aload_n 0, 1) := by decide +kernel
theorem dL_law_490 : decode cL_law 490 = .ok (.iload_n 3, 1) := by decide +kernel
theorem dL_law_491 : decode cL_law 491 = .ok (.iconst 1, 1) := by decide +kernel
theorem dL_law_492 : decode cL_law 492 = .ok (.iadd, 1) := by decide +kernel
theorem dL_law_493 : decode cL_law 493 = .ok (.iaload, 1) := by decide +kernel
theorem dL_law_494 : decode cL_law 494 = .ok (.aload_n 0, 1) := by decide +kernel
theorem dL_law_495 : decode cL_law 495 = .ok (.iload_n 3, 1) := by decide +kernel
theorem dL_law_496 : decode cL_law 496 = .ok (.iconst 2, 1) := by decide +kernel
theorem dL_law_497 : decode cL_law 497 = .ok (.iadd, 1) := by decide +kernel
theorem dL_law_498 : decode cL_law 498 = .ok (.iaload, 1) := by decide +kernel
theorem dL_law_499 : decode cL_law 499 = .ok (.invokevirtual 61, 3) := by decide +kernel
theorem dL_law_502 : decode cL_law 502 = .ok (.if_icmp .eq 284, 3) := by decide +kernel
theorem dL_law_505 : decode cL_law 505 = .ok (.iconst 0, 1) := by decide +kernel
theorem dL_law_506 : decode cL_law 506 = .ok (.ireturn, 1) := by decide +kernel
theorem dL_law_507 : decode cL_law 507 = .ok (.aload_n 1, 1) := by decide +kernel
theorem dL_law_508 : decode cL_law 508 = .ok (.aload_n 0, 1) := by decide +kernel
theorem dL_law_509 : decode cL_law 509 = .ok (.iload_n 3, 1) := by decide +kernel
theorem dL_law_510 : decode cL_law 510 = .ok (.iconst 1, 1) := by decide +kernel
theorem dL_law_511 : decode cL_law 511 = .ok (.iadd, 1) := by decide +kernel
theorem dL_law_512 : decode cL_law 512 = .ok (.iaload, 1) := by decide +kernel
theorem dL_law_513 : decode cL_law 513 = .ok (.aload_n 0, 1) := by decide +kernel
theorem dL_law_514 : decode cL_law 514 = .ok (.iload_n 3, 1) := by decide +kernel
theorem dL_law_515 : decode cL_law 515 = .ok (.iconst 2, 1) := by decide +kernel
theorem dL_law_516 : decode cL_law 516 = .ok (.iadd, 1) := by decide +kernel
theorem dL_law_517 : decode cL_law 517 = .ok (.iaload, 1) := by decide +kernel
theorem dL_law_518 : decode cL_law 518 = .ok (.invokevirtual 62, 3) := by decide +kernel
theorem dL_law_521 : decode cL_law 521 = .ok (.aload_n 2, 1) := by decide +kernel
theorem dL_law_522 : decode cL_law 522 = .ok (.aload_n 0, 1) := by decide +kernel
theorem dL_law_523 : decode cL_law 523 = .ok (.iload_n 3, 1) := by decide +kernel
theorem dL_law_524 : decode cL_law 524 = .ok (.iconst 1, 1) := by decide +kernel
theorem dL_law_525 : decode cL_law 525 = .ok (.iadd, 1) := by decide +kernel
theorem dL_law_526 : decode cL_law 526 = .ok (.iaload, 1) := by decide +kernel
theorem dL_law_527 : decode cL_law 527 = .ok (.aload_n 0, 1) := by decide +kernel
theorem dL_law_528 : decode cL_law 528 = .ok (.iload_n 3, 1) := by decide +kernel
theorem dL_law_529 : decode cL_law 529 = .ok (.iconst 2, 1) := by decide +kernel
theorem dL_law_530 : decode cL_law 530 = .ok (.iadd, 1) := by decide +kernel
theorem dL_law_531 : decode cL_law 531 = .ok (.iaload, 1) := by decide +kernel
theorem dL_law_532 : decode cL_law 532 = .ok (.invokevirtual 65, 3) := by decide +kernel
theorem dL_law_535 : decode cL_law 535 = .ok (.if_icmp .eq 251, 3) := by decide +kernel
theorem dL_law_538 : decode cL_law 538 = .ok (.iconst 0, 1) := by decide +kernel
theorem dL_law_539 : decode cL_law 539 = .ok (.ireturn, 1) := by decide +kernel
theorem dL_law_540 : decode cL_law 540 = .ok (.aload_n 1, 1) := by decide +kernel
theorem dL_law_541 : decode cL_law 541 = .ok (.invokevirtual 66, 3) := by decide +kernel
theorem dL_law_544 : decode cL_law 544 = .ok (.aload_n 2, 1) := by decide +kernel
theorem dL_law_545 : decode cL_law 545 = .ok (.invokevirtual 69, 3) := by decide +kernel
theorem dL_law_548 : decode cL_law 548 = .ok (.if_icmp .eq 238, 3) := by decide +kernel
theorem dL_law_551 : decode cL_law 551 = .ok (.iconst 0, 1) := by decide +kernel
theorem dL_law_552 : decode cL_law 552 = .ok (.ireturn, 1) := by decide +kernel
theorem dL_law_553 : decode cL_law 553 = .ok (.aload_n 1, 1) := by decide +kernel
theorem dL_law_554 : decode cL_law 554 = .ok (.invokevirtual 70, 3) := by decide +kernel
theorem dL_law_557 : decode cL_law 557 = .ok (.aload_n 2, 1) := by decide +kernel
theorem dL_law_558 : decode cL_law 558 = .ok (.invokevirtual 73, 3) := by decide +kernel
theorem dL_law_561 : decode cL_law 561 = .ok (.if_icmp .eq 225, 3) := by decide +kernel
theorem dL_law_564 : decode cL_law 564 = .ok (.iconst 0, 1) := by decide +kernel
theorem dL_law_565 : decode cL_law 565 = .ok (.ireturn, 1) := by decide +kernel
theorem dL_law_566 : decode cL_law 566 = .ok (.aload_n 1, 1) := by decide +kernel
theorem dL_law_567 : decode cL_law 567 = .ok (.aload_n 0, 1) := by decide +kernel
theorem dL_law_568 : decode cL_law 568 = .ok (.iload_n 3, 1) := by decide +kernel
theorem dL_law_569 : decode cL_law 569 = .ok (.iconst 1, 1) := by decide +kernel
theorem dL_law_570 : decode cL_law 570 = .ok (.iadd, 1) := by decide +kernel
theorem dL_law_571 : decode cL_law 571 = .ok (.iaload, 1) := by decide +kernel
theorem dL_law_572 : decode cL_law 572 = .ok (.invokevirtual 74, 3) := by decide +kernel
theorem dL_law_575 : decode cL_law 575 = .ok (.aload_n 2, 1) := by decide +kernel
theorem dL_law_576 : decode cL_law 576 = .ok (.aload_n 0, 1) := by decide +kernel
theorem dL_law_577 : decode cL_law 577 = .ok (.iload_n 3, 1) := by decide +kernel
theorem dL_law_578 : decode cL_law 578 = .ok (.iconst 1, 1) := by decide +kernel
theorem dL_law_579 : decode cL_law 579 = .ok (.iadd, 1) := by decide +kernel
theorem dL_law_580 : decode cL_law 580 = .ok (.iaload, 1) := by decide +kernel
theorem dL_law_581 : decode cL_law 581 = .ok (.invokevirtual 77, 3) := by decide +kernel
theorem dL_law_584 : decode cL_law 584 = .ok (.if_icmp .eq 202, 3) := by decide +kernel
theorem dL_law_587 : decode cL_law 587 = .ok (.iconst 0, 1) := by decide +kernel
theorem dL_law_588 : decode cL_law 588 = .ok (.ireturn, 1) := by decide +kernel
theorem dL_law_589 : decode cL_law 589 = .ok (.aload_n 1, 1) := by decide +kernel
theorem dL_law_590 : decode cL_law 590 = .ok (.invokevirtual 78, 3) := by decide +kernel
theorem dL_law_593 : decode cL_law 593 = .ok (.aload_n 2, 1) := by decide +kernel
theorem dL_law_594 : decode cL_law 594 = .ok (.invokevirtual 81, 3) := by decide +kernel
theorem dL_law_597 : decode cL_law 597 = .ok (.if_icmp .eq 189, 3) := by decide +kernel
theorem dL_law_600 : decode cL_law 600 = .ok (.iconst 0, 1) := by decide +kernel
theorem dL_law_601 : decode cL_law 601 = .ok (.ireturn, 1) := by decide +kernel
theorem dL_law_602 : decode cL_law 602 = .ok (.aload_n 1, 1) := by decide +kernel
theorem dL_law_603 : decode cL_law 603 = .ok (.aload_n 0, 1) := by decide +kernel
theorem dL_law_604 : decode cL_law 604 = .ok (.iload_n 3, 1) := by decide +kernel
theorem dL_law_605 : decode cL_law 605 = .ok (.iconst 1, 1) := by decide +kernel
theorem dL_law_606 : decode cL_law 606 = .ok (.iadd, 1) := by decide +kernel
theorem dL_law_607 : decode cL_law 607 = .ok (.iaload, 1) := by decide +kernel
theorem dL_law_608 : decode cL_law 608 = .ok (.invokevirtual 82, 3) := by decide +kernel
theorem dL_law_611 : decode cL_law 611 = .ok (.aload_n 2, 1) := by decide +kernel
theorem dL_law_612 : decode cL_law 612 = .ok (.aload_n 0, 1) := by decide +kernel
theorem dL_law_613 : decode cL_law 613 = .ok (.iload_n 3, 1) := by decide +kernel
theorem dL_law_614 : decode cL_law 614 = .ok (.iconst 1, 1) := by decide +kernel
theorem dL_law_615 : decode cL_law 615 = .ok (.iadd, 1) := by decide +kernel
theorem dL_law_616 : decode cL_law 616 = .ok (.iaload, 1) := by decide +kernel
theorem dL_law_617 : decode cL_law 617 = .ok (.invokevirtual 85, 3) := by decide +kernel
theorem dL_law_620 : decode cL_law 620 = .ok (.if_icmp .eq 166, 3) := by decide +kernel
theorem dL_law_623 : decode cL_law 623 = .ok (.iconst 0, 1) := by decide +kernel
theorem dL_law_624 : decode cL_law 624 = .ok (.ireturn, 1) := by decide +kernel
theorem dL_law_625 : decode cL_law 625 = .ok (.aload_n 1, 1) := by decide +kernel
theorem dL_law_626 : decode cL_law 626 = .ok (.aload_n 0, 1) := by decide +kernel
theorem dL_law_627 : decode cL_law 627 = .ok (.iload_n 3, 1) := by decide +kernel
theorem dL_law_628 : decode cL_law 628 = .ok (.iconst 1, 1) := by decide +kernel
theorem dL_law_629 : decode cL_law 629 = .ok (.iadd, 1) := by decide +kernel
theorem dL_law_630 : decode cL_law 630 = .ok (.iaload, 1) := by decide +kernel
theorem dL_law_631 : decode cL_law 631 = .ok (.invokevirtual 86, 3) := by decide +kernel
theorem dL_law_634 : decode cL_law 634 = .ok (.aload_n 2, 1) := by decide +kernel
theorem dL_law_635 : decode cL_law 635 = .ok (.aload_n 0, 1) := by decide +kernel
theorem dL_law_636 : decode cL_law 636 = .ok (.iload_n 3, 1) := by decide +kernel
theorem dL_law_637 : decode cL_law 637 = .ok (.iconst 1, 1) := by decide +kernel
theorem dL_law_638 : decode cL_law 638 = .ok (.iadd, 1) := by decide +kernel
theorem dL_law_639 : decode cL_law 639 = .ok (.iaload, 1) := by decide +kernel
theorem dL_law_640 : decode cL_law 640 = .ok (.invokevirtual 89, 3) := by decide +kernel
theorem dL_law_643 : decode cL_law 643 = .ok (.if_icmp .eq 143, 3) := by decide +kernel
theorem dL_law_646 : decode cL_law 646 = .ok (.iconst 0, 1) := by decide +kernel
theorem dL_law_647 : decode cL_law 647 = .ok (.ireturn, 1) := by decide +kernel
theorem dL_law_648 : decode cL_law 648 = .ok (.aload_n 1, 1) := by decide +kernel
theorem dL_law_649 : decode cL_law 649 = .ok (.aload_n 0, 1) := by decide +kernel
theorem dL_law_650 : decode cL_law 650 = .ok (.iload_n 3, 1) := by decide +kernel
theorem dL_law_651 : decode cL_law 651 = .ok (.iconst 1, 1) := by decide +kernel
theorem dL_law_652 : decode cL_law 652 = .ok (.iadd, 1) := by decide +kernel
theorem dL_law_653 : decode cL_law 653 = .ok (.iaload, 1) := by decide +kernel
theorem dL_law_654 : decode cL_law 654 = .ok (.invokevirtual 90, 3) := by decide +kernel
theorem dL_law_657 : decode cL_law 657 = .ok (.aload_n 2, 1) := by decide +kernel
theorem dL_law_658 : decode cL_law 658 = .ok (.aload_n 0, 1) := by decide +kernel
theorem dL_law_659 : decode cL_law 659 = .ok (.iload_n 3, 1) := by decide +kernel
theorem dL_law_660 : decode cL_law 660 = .ok (.iconst 1, 1) := by decide +kernel
theorem dL_law_661 : decode cL_law 661 = .ok (.iadd, 1) := by decide +kernel
theorem dL_law_662 : decode cL_law 662 = .ok (.iaload, 1) := by decide +kernel
theorem dL_law_663 : decode cL_law 663 = .ok (.invokevirtual 93, 3) := by decide +kernel
theorem dL_law_666 : decode cL_law 666 = .ok (.if_icmp .eq 120, 3) := by decide +kernel
theorem dL_law_669 : decode cL_law 669 = .ok (.iconst 0, 1) := by decide +kernel
theorem dL_law_670 : decode cL_law 670 = .ok (.ireturn, 1) := by decide +kernel
theorem dL_law_671 : decode cL_law 671 = .ok (.aload_n 1, 1) := by decide +kernel
theorem dL_law_672 : decode cL_law 672 = .ok (.aload_n 0, 1) := by decide +kernel
theorem dL_law_673 : decode cL_law 673 = .ok (.iload_n 3, 1) := by decide +kernel
theorem dL_law_674 : decode cL_law 674 = .ok (.iconst 1, 1) := by decide +kernel
theorem dL_law_675 : decode cL_law 675 = .ok (.iadd, 1) := by decide +kernel
theorem dL_law_676 : decode cL_law 676 = .ok (.iaload, 1) := by decide +kernel
theorem dL_law_677 : decode cL_law 677 = .ok (.invokevirtual 94, 3) := by decide +kernel
theorem dL_law_680 : decode cL_law 680 = .ok (.aload_n 2, 1) := by decide +kernel
theorem dL_law_681 : decode cL_law 681 = .ok (.aload_n 0, 1) := by decide +kernel
theorem dL_law_682 : decode cL_law 682 = .ok (.iload_n 3, 1) := by decide +kernel
theorem dL_law_683 : decode cL_law 683 = .ok (.iconst 1, 1) := by decide +kernel
theorem dL_law_684 : decode cL_law 684 = .ok (.iadd, 1) := by decide +kernel
theorem dL_law_685 : decode cL_law 685 = .ok (.iaload, 1) := by decide +kernel
theorem dL_law_686 : decode cL_law 686 = .ok (.invokevirtual 97, 3) := by decide +kernel
theorem dL_law_689 : decode cL_law 689 = .ok (.if_icmp .eq 97, 3) := by decide +kernel
theorem dL_law_692 : decode cL_law 692 = .ok (.iconst 0, 1) := by decide +kernel
theorem dL_law_693 : decode cL_law 693 = .ok (.ireturn, 1) := by decide +kernel
theorem dL_law_694 : decode cL_law 694 = .ok (.aload_n 1, 1) := by decide +kernel
theorem dL_law_695 : decode cL_law 695 = .ok (.aload_n 0, 1) := by decide +kernel
theorem dL_law_696 : decode cL_law 696 = .ok (.iload_n 3, 1) := by decide +kernel
theorem dL_law_697 : decode cL_law 697 = .ok (.iconst 1, 1) := by decide +kernel
theorem dL_law_698 : decode cL_law 698 = .ok (.iadd, 1) := by decide +kernel
theorem dL_law_699 : decode cL_law 699 = .ok (.iaload, 1) := by decide +kernel
theorem dL_law_700 : decode cL_law 700 = .ok (.invokevirtual 98, 3) := by decide +kernel
theorem dL_law_703 : decode cL_law 703 = .ok (.aload_n 2, 1) := by decide +kernel
theorem dL_law_704 : decode cL_law 704 = .ok (.aload_n 0, 1) := by decide +kernel
theorem dL_law_705 : decode cL_law 705 = .ok (.iload_n 3, 1) := by decide +kernel
theorem dL_law_706 : decode cL_law 706 = .ok (.iconst 1, 1) := by decide +kernel
theorem dL_law_707 : decode cL_law 707 = .ok (.iadd, 1) := by decide +kernel
theorem dL_law_708 : decode cL_law 708 = .ok (.iaload, 1) := by decide +kernel
theorem dL_law_709 : decode cL_law 709 = .ok (.invokevirtual 101, 3) := by decide +kernel
theorem dL_law_712 : decode cL_law 712 = .ok (.if_icmp .eq 74, 3) := by decide +kernel
theorem dL_law_715 : decode cL_law 715 = .ok (.iconst 0, 1) := by decide +kernel
theorem dL_law_716 : decode cL_law 716 = .ok (.ireturn, 1) := by decide +kernel
theorem dL_law_717 : decode cL_law 717 = .ok (.aload_n 1, 1) := by decide +kernel
theorem dL_law_718 : decode cL_law 718 = .ok (.aload_n 0, 1) := by decide +kernel
theorem dL_law_719 : decode cL_law 719 = .ok (.iload_n 3, 1) := by decide +kernel
theorem dL_law_720 : decode cL_law 720 = .ok (.iconst 1, 1) := by decide +kernel
theorem dL_law_721 : decode cL_law 721 = .ok (.iadd, 1) := by decide +kernel
theorem dL_law_722 : decode cL_law 722 = .ok (.iaload, 1) := by decide +kernel
theorem dL_law_723 : decode cL_law 723 = .ok (.invokevirtual 102, 3) := by decide +kernel
theorem dL_law_726 : decode cL_law 726 = .ok (.aload_n 2, 1) := by decide +kernel
theorem dL_law_727 : decode cL_law 727 = .ok (.aload_n 0, 1) := by decide +kernel
theorem dL_law_728 : decode cL_law 728 = .ok (.iload_n 3, 1) := by decide +kernel
theorem dL_law_729 : decode cL_law 729 = .ok (.iconst 1, 1) := by decide +kernel
theorem dL_law_730 : decode cL_law 730 = .ok (.iadd, 1) := by decide +kernel
theorem dL_law_731 : decode cL_law 731 = .ok (.iaload, 1) := by decide +kernel
theorem dL_law_732 : decode cL_law 732 = .ok (.invokevirtual 105, 3) := by decide +kernel
theorem dL_law_735 : decode cL_law 735 = .ok (.if_icmp .eq 51, 3) := by decide +kernel
theorem dL_law_738 : decode cL_law 738 = .ok (.iconst 0, 1) := by decide +kernel
theorem dL_law_739 : decode cL_law 739 = .ok (.ireturn, 1) := by decide +kernel
theorem dL_law_740 : decode cL_law 740 = .ok (.aload_n 1, 1) := by decide +kernel
theorem dL_law_741 : decode cL_law 741 = .ok (.aload_n 0, 1) := by decide +kernel
theorem dL_law_742 : decode cL_law 742 = .ok (.iload_n 3, 1) := by decide +kernel
theorem dL_law_743 : decode cL_law 743 = .ok (.iconst 1, 1) := by decide +kernel
theorem dL_law_744 : decode cL_law 744 = .ok (.iadd, 1) := by decide +kernel
theorem dL_law_745 : decode cL_law 745 = .ok (.iaload, 1) := by decide +kernel
theorem dL_law_746 : decode cL_law 746 = .ok (.invokevirtual 106, 3) := by decide +kernel
theorem dL_law_749 : decode cL_law 749 = .ok (.aload_n 2, 1) := by decide +kernel
theorem dL_law_750 : decode cL_law 750 = .ok (.aload_n 0, 1) := by decide +kernel
theorem dL_law_751 : decode cL_law 751 = .ok (.iload_n 3, 1) := by decide +kernel
theorem dL_law_752 : decode cL_law 752 = .ok (.iconst 1, 1) := by decide +kernel
theorem dL_law_753 : decode cL_law 753 = .ok (.iadd, 1) := by decide +kernel
theorem dL_law_754 : decode cL_law 754 = .ok (.iaload, 1) := by decide +kernel
theorem dL_law_755 : decode cL_law 755 = .ok (.invokevirtual 109, 3) := by decide +kernel
theorem dL_law_758 : decode cL_law 758 = .ok (.if_icmp .eq 28, 3) := by decide +kernel
theorem dL_law_761 : decode cL_law 761 = .ok (.iconst 0, 1) := by decide +kernel
theorem dL_law_762 : decode cL_law 762 = .ok (.ireturn, 1) := by decide +kernel
theorem dL_law_763 : decode cL_law 763 = .ok (.aload_n 1, 1) := by decide +kernel
theorem dL_law_764 : decode cL_law 764 = .ok (.aload_n 0, 1) := by decide +kernel
theorem dL_law_765 : decode cL_law 765 = .ok (.iload_n 3, 1) := by decide +kernel
theorem dL_law_766 : decode cL_law 766 = .ok (.iconst 1, 1) := by decide +kernel
theorem dL_law_767 : decode cL_law 767 = .ok (.iadd, 1) := by decide +kernel
theorem dL_law_768 : decode cL_law 768 = .ok (.iaload, 1) := by decide +kernel
theorem dL_law_769 : decode cL_law 769 = .ok (.invokevirtual 110, 3) := by decide +kernel
theorem dL_law_772 : decode cL_law 772 = .ok (.aload_n 2, 1) := by decide +kernel
theorem dL_law_773 : decode cL_law 773 = .ok (.aload_n 0, 1) := by decide +kernel
theorem dL_law_774 : decode cL_law 774 = .ok (.iload_n 3, 1) := by decide +kernel
theorem dL_law_775 : decode cL_law 775 = .ok (.iconst 1, 1) := by decide +kernel
theorem dL_law_776 : decode cL_law 776 = .ok (.iadd, 1) := by decide +kernel
theorem dL_law_777 : decode cL_law 777 = .ok (.iaload, 1) := by decide +kernel
theorem dL_law_778 : decode cL_law 778 = .ok (.invokevirtual 113, 3) := by decide +kernel
theorem dL_law_781 : decode cL_law 781 = .ok (.if_icmp .eq 5, 3) := by decide +kernel
theorem dL_law_784 : decode cL_law 784 = .ok (.iconst 0, 1) := by decide +kernel
theorem dL_law_785 : decode cL_law 785 = .ok (.ireturn, 1) := by decide +kernel
theorem dL_law_786 : decode cL_law 786 = .ok (.iinc 3 6, 3) := by decide +kernel
theorem dL_law_789 : decode cL_law 789 = .ok (.goto (-771), 3) := by decide +kernel
theorem dL_law_792 : decode cL_law 792 = .ok (.iconst 1, 1) := by decide +kernel
theorem dL_law_793 : decode cL_law 793 = .ok (.ireturn, 1) := by decide +kernel
