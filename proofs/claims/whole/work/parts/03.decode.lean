theorem dX4_atHand_0 : decode cX4_atHand 0 = .ok (.aload_n 0, 1) := by decide +kernel
theorem dX4_atHand_1 : decode cX4_atHand 1 = .ok (.getfield 29, 3) := by decide +kernel
theorem dX4_atHand_4 : decode cX4_atHand 4 = .ok (.ireturn, 1) := by decide +kernel
theorem dX4_putAway_0 : decode cX4_putAway 0 = .ok (.aload_n 0, 1) := by decide +kernel
theorem dX4_putAway_1 : decode cX4_putAway 1 = .ok (.iconst 0, 1) := by decide +kernel
theorem dX4_putAway_2 : decode cX4_putAway 2 = .ok (.putfield 29, 3) := by decide +kernel
theorem dX4_putAway_5 : decode cX4_putAway 5 = .ok (.return_, 1) := by decide +kernel
theorem dX4_hasReading_0 : decode cX4_hasReading 0 = .ok (.aload_n 0, 1) := by decide +kernel
theorem dX4_hasReading_1 : decode cX4_hasReading 1 = .ok (.getfield 29, 3) := by decide +kernel
theorem dX4_hasReading_4 : decode cX4_hasReading 4 = .ok (.ifCond .eq 22, 3) := by decide +kernel
theorem dX4_hasReading_7 : decode cX4_hasReading 7 = .ok (.iload_n 1, 1) := by decide +kernel
theorem dX4_hasReading_8 : decode cX4_hasReading 8 = .ok (.ifCond .lt 18, 3) := by decide +kernel
theorem dX4_hasReading_11 : decode cX4_hasReading 11 = .ok (.iload_n 1, 1) := by decide +kernel
theorem dX4_hasReading_12 : decode cX4_hasReading 12 = .ok (.aload_n 0, 1) := by decide +kernel
theorem dX4_hasReading_13 : decode cX4_hasReading 13 = .ok (.getfield 21, 3) := by decide +kernel
theorem dX4_hasReading_16 : decode cX4_hasReading 16 = .ok (.invokevirtual 33, 3) := by decide +kernel
theorem dX4_hasReading_19 : decode cX4_hasReading 19 = .ok (.if_icmp .ge 7, 3) := by decide +kernel
theorem dX4_hasReading_22 : decode cX4_hasReading 22 = .ok (.iconst 1, 1) := by decide +kernel
theorem dX4_hasReading_23 : decode cX4_hasReading 23 = .ok (.goto 4, 3) := by decide +kernel
theorem dX4_hasReading_26 : decode cX4_hasReading 26 = .ok (.iconst 0, 1) := by decide +kernel
theorem dX4_hasReading_27 : decode cX4_hasReading 27 = .ok (.ireturn, 1) := by decide +kernel
theorem dX4_verb_0 : decode cX4_verb 0 = .ok (.aload_n 0, 1) := by decide +kernel
theorem dX4_verb_1 : decode cX4_verb 1 = .ok (.getfield 37, 3) := by decide +kernel
theorem dX4_verb_4 : decode cX4_verb 4 = .ok (.ireturn, 1) := by decide +kernel
theorem dX4_denies_0 : decode cX4_denies 0 = .ok (.aload_n 0, 1) := by decide +kernel
theorem dX4_denies_1 : decode cX4_denies 1 = .ok (.getfield 41, 3) := by decide +kernel
theorem dX4_denies_4 : decode cX4_denies 4 = .ok (.ireturn, 1) := by decide +kernel
theorem dX4_goesDown_0 : decode cX4_goesDown 0 = .ok (.aload_n 0, 1) := by decide +kernel
theorem dX4_goesDown_1 : decode cX4_goesDown 1 = .ok (.getfield 44, 3) := by decide +kernel
theorem dX4_goesDown_4 : decode cX4_goesDown 4 = .ok (.ireturn, 1) := by decide +kernel
theorem dX4_isBidden_0 : decode cX4_isBidden 0 = .ok (.aload_n 0, 1) := by decide +kernel
theorem dX4_isBidden_1 : decode cX4_isBidden 1 = .ok (.getfield 37, 3) := by decide +kernel
theorem dX4_isBidden_4 : decode cX4_isBidden 4 = .ok (.bipush 11, 2) := by decide +kernel
theorem dX4_isBidden_6 : decode cX4_isBidden 6 = .ok (.if_icmp .eq 21, 3) := by decide +kernel
theorem dX4_isBidden_9 : decode cX4_isBidden 9 = .ok (.aload_n 0, 1) := by decide +kernel
theorem dX4_isBidden_10 : decode cX4_isBidden 10 = .ok (.getfield 37, 3) := by decide +kernel
theorem dX4_isBidden_13 : decode cX4_isBidden 13 = .ok (.bipush 12, 2) := by decide +kernel
theorem dX4_isBidden_15 : decode cX4_isBidden 15 = .ok (.if_icmp .eq 12, 3) := by decide +kernel
theorem dX4_isBidden_18 : decode cX4_isBidden 18 = .ok (.aload_n 0, 1) := by decide +kernel
theorem dX4_isBidden_19 : decode cX4_isBidden 19 = .ok (.getfield 37, 3) := by decide +kernel
theorem dX4_isBidden_22 : decode cX4_isBidden 22 = .ok (.bipush 13, 2) := by decide +kernel
theorem dX4_isBidden_24 : decode cX4_isBidden 24 = .ok (.if_icmp .ne 7, 3) := by decide +kernel
theorem dX4_isBidden_27 : decode cX4_isBidden 27 = .ok (.iconst 1, 1) := by decide +kernel
theorem dX4_isBidden_28 : decode cX4_isBidden 28 = .ok (.goto 4, 3) := by decide +kernel
theorem dX4_isBidden_31 : decode cX4_isBidden 31 = .ok (.iconst 0, 1) := by decide +kernel
theorem dX4_isBidden_32 : decode cX4_isBidden 32 = .ok (.ireturn, 1) := by decide +kernel
theorem dX4_isAsked_0 : decode cX4_isAsked 0 = .ok (.aload_n 0, 1) := by decide +kernel
theorem dX4_isAsked_1 : decode cX4_isAsked 1 = .ok (.getfield 37, 3) := by decide +kernel
theorem dX4_isAsked_4 : decode cX4_isAsked 4 = .ok (.bipush 14, 2) := by decide +kernel
theorem dX4_isAsked_6 : decode cX4_isAsked 6 = .ok (.if_icmp .eq 21, 3) := by decide +kernel
theorem dX4_isAsked_9 : decode cX4_isAsked 9 = .ok (.aload_n 0, 1) := by decide +kernel
theorem dX4_isAsked_10 : decode cX4_isAsked 10 = .ok (.getfield 37, 3) := by decide +kernel
theorem dX4_isAsked_13 : decode cX4_isAsked 13 = .ok (.bipush 15, 2) := by decide +kernel
theorem dX4_isAsked_15 : decode cX4_isAsked 15 = .ok (.if_icmp .eq 12, 3) := by decide +kernel
theorem dX4_isAsked_18 : decode cX4_isAsked 18 = .ok (.aload_n 0, 1) := by decide +kernel
theorem dX4_isAsked_19 : decode cX4_isAsked 19 = .ok (.getfield 37, 3) := by decide +kernel
theorem dX4_isAsked_22 : decode cX4_isAsked 22 = .ok (.bipush 16, 2) := by decide +kernel
theorem dX4_isAsked_24 : decode cX4_isAsked 24 = .ok (.if_icmp .ne 7, 3) := by decide +kernel
theorem dX4_isAsked_27 : decode cX4_isAsked 27 = .ok (.iconst 1, 1) := by decide +kernel
theorem dX4_isAsked_28 : decode cX4_isAsked 28 = .ok (.goto 4, 3) := by decide +kernel
theorem dX4_isAsked_31 : decode cX4_isAsked 31 = .ok (.iconst 0, 1) := by decide +kernel
theorem dX4_isAsked_32 : decode cX4_isAsked 32 = .ok (.ireturn, 1) := by decide +kernel
theorem dX4_wLength_0 : decode cX4_wLength 0 = .ok (.aload_n 0, 1) := by decide +kernel
theorem dX4_wLength_1 : decode cX4_wLength 1 = .ok (.getfield 47, 3) := by decide +kernel
theorem dX4_wLength_4 : decode cX4_wLength 4 = .ok (.ireturn, 1) := by decide +kernel
theorem dX4_wLetter_0 : decode cX4_wLetter 0 = .ok (.iload_n 1, 1) := by decide +kernel
theorem dX4_wLetter_1 : decode cX4_wLetter 1 = .ok (.ifCond .lt 26, 3) := by decide +kernel
theorem dX4_wLetter_4 : decode cX4_wLetter 4 = .ok (.iload_n 1, 1) := by decide +kernel
theorem dX4_wLetter_5 : decode cX4_wLetter 5 = .ok (.aload_n 0, 1) := by decide +kernel
theorem dX4_wLetter_6 : decode cX4_wLetter 6 = .ok (.getfield 47, 3) := by decide +kernel
theorem dX4_wLetter_9 : decode cX4_wLetter 9 = .ok (.if_icmp .ge 18, 3) := by decide +kernel
theorem dX4_wLetter_12 : decode cX4_wLetter 12 = .ok (.iload_n 1, 1) := by decide +kernel
theorem dX4_wLetter_13 : decode cX4_wLetter 13 = .ok (.bipush 10, 2) := by decide +kernel
theorem dX4_wLetter_15 : decode cX4_wLetter 15 = .ok (.if_icmp .ge 12, 3) := by decide +kernel
theorem dX4_wLetter_18 : decode cX4_wLetter 18 = .ok (.aload_n 0, 1) := by decide +kernel
theorem dX4_wLetter_19 : decode cX4_wLetter 19 = .ok (.getfield 25, 3) := by decide +kernel
theorem dX4_wLetter_22 : decode cX4_wLetter 22 = .ok (.iload_n 1, 1) := by decide +kernel
theorem dX4_wLetter_23 : decode cX4_wLetter 23 = .ok (.iaload, 1) := by decide +kernel
theorem dX4_wLetter_24 : decode cX4_wLetter 24 = .ok (.goto 4, 3) := by decide +kernel
theorem dX4_wLetter_27 : decode cX4_wLetter 27 = .ok (.iconst 0, 1) := by decide +kernel
theorem dX4_wLetter_28 : decode cX4_wLetter 28 = .ok (.ireturn, 1) := by decide +kernel
theorem dX4_size_0 : decode cX4_size 0 = .ok (.iload_n 1, 1) := by decide +kernel
theorem dX4_size_1 : decode cX4_size 1 = .ok (.tableswitch 51 8 10 #[27, 35, 43], 27) := by decide +kernel
theorem dX4_size_28 : decode cX4_size 28 = .ok (.aload_n 0, 1) := by decide +kernel
theorem dX4_size_29 : decode cX4_size 29 = .ok (.getfield 12, 3) := by decide +kernel
theorem dX4_size_32 : decode cX4_size 32 = .ok (.invokevirtual 50, 3) := by decide +kernel
theorem dX4_size_35 : decode cX4_size 35 = .ok (.ireturn, 1) := by decide +kernel
theorem dX4_size_36 : decode cX4_size 36 = .ok (.aload_n 0, 1) := by decide +kernel
theorem dX4_size_37 : decode cX4_size 37 = .ok (.getfield 12, 3) := by decide +kernel
theorem dX4_size_40 : decode cX4_size 40 = .ok (.invokevirtual 53, 3) := by decide +kernel
theorem dX4_size_43 : decode cX4_size 43 = .ok (.ireturn, 1) := by decide +kernel
theorem dX4_size_44 : decode cX4_size 44 = .ok (.aload_n 0, 1) := by decide +kernel
theorem dX4_size_45 : decode cX4_size 45 = .ok (.getfield 21, 3) := by decide +kernel
theorem dX4_size_48 : decode cX4_size 48 = .ok (.invokevirtual 33, 3) := by decide +kernel
theorem dX4_size_51 : decode cX4_size 51 = .ok (.ireturn, 1) := by decide +kernel
theorem dX4_size_52 : decode cX4_size 52 = .ok (.iconst (-1), 1) := by decide +kernel
theorem dX4_size_53 : decode cX4_size 53 = .ok (.ireturn, 1) := by decide +kernel
theorem dX4_hear_0 : decode cX4_hear 0 = .ok (.aload_n 0, 1) := by decide +kernel
theorem dX4_hear_1 : decode cX4_hear 1 = .ok (.invokevirtual 56, 3) := by decide +kernel
theorem dX4_hear_4 : decode cX4_hear 4 = .ok (.iconst 0, 1) := by decide +kernel
theorem dX4_hear_5 : decode cX4_hear 5 = .ok (.istore 4, 2) := by decide +kernel
theorem dX4_hear_7 : decode cX4_hear 7 = .ok (.iconst 0, 1) := by decide +kernel
theorem dX4_hear_8 : decode cX4_hear 8 = .ok (.istore 5, 2) := by decide +kernel
theorem dX4_hear_10 : decode cX4_hear 10 = .ok (.iload 5, 2) := by decide +kernel
theorem dX4_hear_12 : decode cX4_hear 12 = .ok (.iload_n 2, 1) := by decide +kernel
theorem dX4_hear_13 : decode cX4_hear 13 = .ok (.if_icmp .gt 98, 3) := by decide +kernel
theorem dX4_hear_16 : decode cX4_hear 16 = .ok (.iload 5, 2) := by decide +kernel
theorem dX4_hear_18 : decode cX4_hear 18 = .ok (.iload_n 2, 1) := by decide +kernel
theorem dX4_hear_19 : decode cX4_hear 19 = .ok (.if_icmp .ge 15, 3) := by decide +kernel
theorem dX4_hear_22 : decode cX4_hear 22 = .ok (.aload_n 1, 1) := by decide +kernel
theorem dX4_hear_23 : decode cX4_hear 23 = .ok (.iload 5, 2) := by decide +kernel
theorem dX4_hear_25 : decode cX4_hear 25 = .ok (.invokevirtual 59, 3) := by decide +kernel
theorem dX4_hear_28 : decode cX4_hear 28 = .ok (.ifCond .eq 6, 3) := by decide +kernel
theorem dX4_hear_31 : decode cX4_hear 31 = .ok (.goto 74, 3) := by decide +kernel
theorem dX4_hear_34 : decode cX4_hear 34 = .ok (.iload 5, 2) := by decide +kernel
theorem dX4_hear_36 : decode cX4_hear 36 = .ok (.iload_n 2, 1) := by decide +kernel
theorem dX4_hear_37 : decode cX4_hear 37 = .ok (.if_icmp .ge 21, 3) := by decide +kernel
theorem dX4_hear_40 : decode cX4_hear 40 = .ok (.aload_n 1, 1) := by decide +kernel
theorem dX4_hear_41 : decode cX4_hear 41 = .ok (.iload 4, 2) := by decide +kernel
theorem dX4_hear_43 : decode cX4_hear 43 = .ok (.iload 5, 2) := by decide +kernel
theorem dX4_hear_45 : decode cX4_hear 45 = .ok (.invokestatic 65, 3) := by decide +kernel
theorem dX4_hear_48 : decode cX4_hear 48 = .ok (.ifCond .ne 10, 3) := by decide +kernel
theorem dX4_hear_51 : decode cX4_hear 51 = .ok (.iconst 5, 1) := by decide +kernel
theorem dX4_hear_52 : decode cX4_hear 52 = .ok (.iload 5, 2) := by decide +kernel
theorem dX4_hear_54 : decode cX4_hear 54 = .ok (.invokestatic 69, 3) := by decide +kernel
theorem dX4_hear_57 : decode cX4_hear 57 = .ok (.ireturn, 1) := by decide +kernel
theorem dX4_hear_58 : decode cX4_hear 58 = .ok (.aload_n 0, 1) := by decide +kernel
theorem dX4_hear_59 : decode cX4_hear 59 = .ok (.aload_n 1, 1) := by decide +kernel
theorem dX4_hear_60 : decode cX4_hear 60 = .ok (.iload 4, 2) := by decide +kernel
theorem dX4_hear_62 : decode cX4_hear 62 = .ok (.iload 5, 2) := by decide +kernel
theorem dX4_hear_64 : decode cX4_hear 64 = .ok (.iload_n 2, 1) := by decide +kernel
theorem dX4_hear_65 : decode cX4_hear 65 = .ok (.aload_n 3, 1) := by decide +kernel
theorem dX4_hear_66 : decode cX4_hear 66 = .ok (.invokevirtual 73, 3) := by decide +kernel
theorem dX4_hear_69 : decode cX4_hear 69 = .ok (.istore 6, 2) := by decide +kernel
theorem dX4_hear_71 : decode cX4_hear 71 = .ok (.iload 6, 2) := by decide +kernel
theorem dX4_hear_73 : decode cX4_hear 73 = .ok (.ifCond .eq 11, 3) := by decide +kernel
theorem dX4_hear_76 : decode cX4_hear 76 = .ok (.iload 6, 2) := by decide +kernel
theorem dX4_hear_78 : decode cX4_hear 78 = .ok (.iload 4, 2) := by decide +kernel
theorem dX4_hear_80 : decode cX4_hear 80 = .ok (.invokestatic 69, 3) := by decide +kernel
theorem dX4_hear_83 : decode cX4_hear 83 = .ok (.ireturn, 1) := by decide +kernel
theorem dX4_hear_84 : decode cX4_hear 84 = .ok (.iload 5, 2) := by decide +kernel
theorem dX4_hear_86 : decode cX4_hear 86 = .ok (.iload_n 2, 1) := by decide +kernel
theorem dX4_hear_87 : decode cX4_hear 87 = .ok (.iconst 1, 1) := by decide +kernel
theorem dX4_hear_88 : decode cX4_hear 88 = .ok (.isub, 1) := by decide +kernel
theorem dX4_hear_89 : decode cX4_hear 89 = .ok (.if_icmp .ne 10, 3) := by decide +kernel
theorem dX4_hear_92 : decode cX4_hear 92 = .ok (.iconst 5, 1) := by decide +kernel
theorem dX4_hear_93 : decode cX4_hear 93 = .ok (.iload 5, 2) := by decide +kernel
theorem dX4_hear_95 : decode cX4_hear 95 = .ok (.invokestatic 69, 3) := by decide +kernel
theorem dX4_hear_98 : decode cX4_hear 98 = .ok (.ireturn, 1) := by decide +kernel
theorem dX4_hear_99 : decode cX4_hear 99 = .ok (.iload 5, 2) := by decide +kernel
theorem dX4_hear_101 : decode cX4_hear 101 = .ok (.iconst 1, 1) := by decide +kernel
theorem dX4_hear_102 : decode cX4_hear 102 = .ok (.iadd, 1) := by decide +kernel
theorem dX4_hear_103 : decode cX4_hear 103 = .ok (.istore 4, 2) := by decide +kernel
theorem dX4_hear_105 : decode cX4_hear 105 = .ok (.iinc 5 1, 3) := by decide +kernel
theorem dX4_hear_108 : decode cX4_hear 108 = .ok (.goto (-98), 3) := by decide +kernel
theorem dX4_hear_111 : decode cX4_hear 111 = .ok (.aload_n 0, 1) := by decide +kernel
theorem dX4_hear_112 : decode cX4_hear 112 = .ok (.invokevirtual 77, 3) := by decide +kernel
theorem dX4_hear_115 : decode cX4_hear 115 = .ok (.ifCond .ne 9, 3) := by decide +kernel
theorem dX4_hear_118 : decode cX4_hear 118 = .ok (.iconst 1, 1) := by decide +kernel
theorem dX4_hear_119 : decode cX4_hear 119 = .ok (.iload_n 2, 1) := by decide +kernel
theorem dX4_hear_120 : decode cX4_hear 120 = .ok (.invokestatic 69, 3) := by decide +kernel
theorem dX4_hear_123 : decode cX4_hear 123 = .ok (.ireturn, 1) := by decide +kernel
theorem dX4_hear_124 : decode cX4_hear 124 = .ok (.aload_n 0, 1) := by decide +kernel
theorem dX4_hear_125 : decode cX4_hear 125 = .ok (.iconst 1, 1) := by decide +kernel
theorem dX4_hear_126 : decode cX4_hear 126 = .ok (.putfield 29, 3) := by decide +kernel
theorem dX4_hear_129 : decode cX4_hear 129 = .ok (.aload_n 0, 1) := by decide +kernel
theorem dX4_hear_130 : decode cX4_hear 130 = .ok (.getfield 21, 3) := by decide +kernel
theorem dX4_hear_133 : decode cX4_hear 133 = .ok (.invokevirtual 33, 3) := by decide +kernel
theorem dX4_hear_136 : decode cX4_hear 136 = .ok (.ireturn, 1) := by decide +kernel
theorem dX4_faultAt_0 : decode cX4_faultAt 0 = .ok (.sipush (-1000), 3) := by decide +kernel
theorem dX4_faultAt_3 : decode cX4_faultAt 3 = .ok (.iload_n 0, 1) := by decide +kernel
theorem dX4_faultAt_4 : decode cX4_faultAt 4 = .ok (.imul, 1) := by decide +kernel
theorem dX4_faultAt_5 : decode cX4_faultAt 5 = .ok (.iload_n 1, 1) := by decide +kernel
theorem dX4_faultAt_6 : decode cX4_faultAt 6 = .ok (.isub, 1) := by decide +kernel
theorem dX4_faultAt_7 : decode cX4_faultAt 7 = .ok (.ireturn, 1) := by decide +kernel
theorem dX4_restart_0 : decode cX4_restart 0 = .ok (.aload_n 0, 1) := by decide +kernel
theorem dX4_restart_1 : decode cX4_restart 1 = .ok (.getfield 12, 3) := by decide +kernel
theorem dX4_restart_4 : decode cX4_restart 4 = .ok (.invokevirtual 81, 3) := by decide +kernel
theorem dX4_restart_7 : decode cX4_restart 7 = .ok (.aload_n 0, 1) := by decide +kernel
theorem dX4_restart_8 : decode cX4_restart 8 = .ok (.getfield 21, 3) := by decide +kernel
theorem dX4_restart_11 : decode cX4_restart 11 = .ok (.invokevirtual 84, 3) := by decide +kernel
theorem dX4_restart_14 : decode cX4_restart 14 = .ok (.aload_n 0, 1) := by decide +kernel
theorem dX4_restart_15 : decode cX4_restart 15 = .ok (.iconst 0, 1) := by decide +kernel
theorem dX4_restart_16 : decode cX4_restart 16 = .ok (.putfield 47, 3) := by decide +kernel
theorem dX4_restart_19 : decode cX4_restart 19 = .ok (.aload_n 0, 1) := by decide +kernel
theorem dX4_restart_20 : decode cX4_restart 20 = .ok (.iconst (-1), 1) := by decide +kernel
theorem dX4_restart_21 : decode cX4_restart 21 = .ok (.putfield 37, 3) := by decide +kernel
theorem dX4_restart_24 : decode cX4_restart 24 = .ok (.aload_n 0, 1) := by decide +kernel
theorem dX4_restart_25 : decode cX4_restart 25 = .ok (.iconst 0, 1) := by decide +kernel
theorem dX4_restart_26 : decode cX4_restart 26 = .ok (.putfield 85, 3) := by decide +kernel
theorem dX4_restart_29 : decode cX4_restart 29 = .ok (.aload_n 0, 1) := by decide +kernel
theorem dX4_restart_30 : decode cX4_restart 30 = .ok (.iconst 0, 1) := by decide +kernel
theorem dX4_restart_31 : decode cX4_restart 31 = .ok (.putfield 41, 3) := by decide +kernel
theorem dX4_restart_34 : decode cX4_restart 34 = .ok (.aload_n 0, 1) := by decide +kernel
theorem dX4_restart_35 : decode cX4_restart 35 = .ok (.iconst 0, 1) := by decide +kernel
theorem dX4_restart_36 : decode cX4_restart 36 = .ok (.putfield 44, 3) := by decide +kernel
theorem dX4_restart_39 : decode cX4_restart 39 = .ok (.aload_n 0, 1) := by decide +kernel
theorem dX4_restart_40 : decode cX4_restart 40 = .ok (.iconst 0, 1) := by decide +kernel
theorem dX4_restart_41 : decode cX4_restart 41 = .ok (.putfield 29, 3) := by decide +kernel
theorem dX4_restart_44 : decode cX4_restart 44 = .ok (.return_, 1) := by decide +kernel
theorem dX4_endsWord_0 : decode cX4_endsWord 0 = .ok (.aload_n 0, 1) := by decide +kernel
theorem dX4_endsWord_1 : decode cX4_endsWord 1 = .ok (.iload_n 2, 1) := by decide +kernel
theorem dX4_endsWord_2 : decode cX4_endsWord 2 = .ok (.invokevirtual 88, 3) := by decide +kernel
theorem dX4_endsWord_5 : decode cX4_endsWord 5 = .ok (.bipush 32, 2) := by decide +kernel
theorem dX4_endsWord_7 : decode cX4_endsWord 7 = .ok (.if_icmp .ne 12, 3) := by decide +kernel
theorem dX4_endsWord_10 : decode cX4_endsWord 10 = .ok (.iload_n 2, 1) := by decide +kernel
theorem dX4_endsWord_11 : decode cX4_endsWord 11 = .ok (.iload_n 1, 1) := by decide +kernel
theorem dX4_endsWord_12 : decode cX4_endsWord 12 = .ok (.if_icmp .le 7, 3) := by decide +kernel
theorem dX4_endsWord_15 : decode cX4_endsWord 15 = .ok (.iconst 1, 1) := by decide +kernel
theorem dX4_endsWord_16 : decode cX4_endsWord 16 = .ok (.goto 4, 3) := by decide +kernel
theorem dX4_endsWord_19 : decode cX4_endsWord 19 = .ok (.iconst 0, 1) := by decide +kernel
theorem dX4_endsWord_20 : decode cX4_endsWord 20 = .ok (.ireturn, 1) := by decide +kernel
theorem dX4_hearWord_0 : decode cX4_hearWord 0 = .ok (.aload 5, 2) := by decide +kernel
theorem dX4_hearWord_2 : decode cX4_hearWord 2 = .ok (.aload_n 1, 1) := by decide +kernel
theorem dX4_hearWord_3 : decode cX4_hearWord 3 = .ok (.iload_n 2, 1) := by decide +kernel
theorem dX4_hearWord_4 : decode cX4_hearWord 4 = .ok (.iload_n 3, 1) := by decide +kernel
theorem dX4_hearWord_5 : decode cX4_hearWord 5 = .ok (.invokevirtual 92, 3) := by decide +kernel
theorem dX4_hearWord_8 : decode cX4_hearWord 8 = .ok (.istore 6, 2) := by decide +kernel
theorem dX4_hearWord_10 : decode cX4_hearWord 10 = .ok (.iload_n 2, 1) := by decide +kernel
theorem dX4_hearWord_11 : decode cX4_hearWord 11 = .ok (.ifCond .ne 21, 3) := by decide +kernel
theorem dX4_hearWord_14 : decode cX4_hearWord 14 = .ok (.aload_n 1, 1) := by decide +kernel
theorem dX4_hearWord_15 : decode cX4_hearWord 15 = .ok (.iload_n 3, 1) := by decide +kernel
theorem dX4_hearWord_16 : decode cX4_hearWord 16 = .ok (.iconst 1, 1) := by decide +kernel
theorem dX4_hearWord_17 : decode cX4_hearWord 17 = .ok (.iadd, 1) := by decide +kernel
theorem dX4_hearWord_18 : decode cX4_hearWord 18 = .ok (.iload 4, 2) := by decide +kernel
theorem dX4_hearWord_20 : decode cX4_hearWord 20 = .ok (.aload 5, 2) := by decide +kernel
theorem dX4_hearWord_22 : decode cX4_hearWord 22 = .ok (.invokestatic 98, 3) := by decide +kernel
theorem dX4_hearWord_25 : decode cX4_hearWord 25 = .ok (.ifCond .eq 7, 3) := by decide +kernel
theorem dX4_hearWord_28 : decode cX4_hearWord 28 = .ok (.iconst 1, 1) := by decide +kernel
theorem dX4_hearWord_29 : decode cX4_hearWord 29 = .ok (.goto 4, 3) := by decide +kernel
theorem dX4_hearWord_32 : decode cX4_hearWord 32 = .ok (.iconst 0, 1) := by decide +kernel
theorem dX4_hearWord_33 : decode cX4_hearWord 33 = .ok (.istore 7, 2) := by decide +kernel
theorem dX4_hearWord_35 : decode cX4_hearWord 35 = .ok (.iload 6, 2) := by decide +kernel
theorem dX4_hearWord_37 : decode cX4_hearWord 37 = .ok (.iconst (-1), 1) := by decide +kernel
theorem dX4_hearWord_38 : decode cX4_hearWord 38 = .ok (.if_icmp .ne 29, 3) := by decide +kernel
theorem dX4_hearWord_41 : decode cX4_hearWord 41 = .ok (.iload 7, 2) := by decide +kernel
theorem dX4_hearWord_43 : decode cX4_hearWord 43 = .ok (.ifCond .eq 14, 3) := by decide +kernel
theorem dX4_hearWord_46 : decode cX4_hearWord 46 = .ok (.iload_n 3, 1) := by decide +kernel
theorem dX4_hearWord_47 : decode cX4_hearWord 47 = .ok (.iconst 2, 1) := by decide +kernel
theorem dX4_hearWord_48 : decode cX4_hearWord 48 = .ok (.if_icmp .lt 9, 3) := by decide +kernel
theorem dX4_hearWord_51 : decode cX4_hearWord 51 = .ok (.iload_n 3, 1) := by decide +kernel
theorem dX4_hearWord_52 : decode cX4_hearWord 52 = .ok (.bipush 10, 2) := by decide +kernel
theorem dX4_hearWord_54 : decode cX4_hearWord 54 = .ok (.if_icmp .le 5, 3) := by decide +kernel
theorem dX4_hearWord_57 : decode cX4_hearWord 57 = .ok (.iconst 2, 1) := by decide +kernel
theorem dX4_hearWord_58 : decode cX4_hearWord 58 = .ok (.ireturn, 1) := by decide +kernel
theorem dX4_hearWord_59 : decode cX4_hearWord 59 = .ok (.aload_n 0, 1) := by decide +kernel
theorem dX4_hearWord_60 : decode cX4_hearWord 60 = .ok (.aload_n 1, 1) := by decide +kernel
theorem dX4_hearWord_61 : decode cX4_hearWord 61 = .ok (.iload_n 3, 1) := by decide +kernel
theorem dX4_hearWord_62 : decode cX4_hearWord 62 = .ok (.invokevirtual 102, 3) := by decide +kernel
theorem dX4_hearWord_65 : decode cX4_hearWord 65 = .ok (.iconst 0, 1) := by decide +kernel
theorem dX4_hearWord_66 : decode cX4_hearWord 66 = .ok (.ireturn, 1) := by decide +kernel
theorem dX4_hearWord_67 : decode cX4_hearWord 67 = .ok (.iload 6, 2) := by decide +kernel
theorem dX4_hearWord_69 : decode cX4_hearWord 69 = .ok (.invokestatic 106, 3) := by decide +kernel
theorem dX4_hearWord_72 : decode cX4_hearWord 72 = .ok (.ifCond .eq 17, 3) := by decide +kernel
theorem dX4_hearWord_75 : decode cX4_hearWord 75 = .ok (.aload_n 0, 1) := by decide +kernel
theorem dX4_hearWord_76 : decode cX4_hearWord 76 = .ok (.getfield 12, 3) := by decide +kernel
theorem dX4_hearWord_79 : decode cX4_hearWord 79 = .ok (.invokevirtual 53, 3) := by decide +kernel
theorem dX4_hearWord_82 : decode cX4_hearWord 82 = .ok (.bipush 6, 2) := by decide +kernel
theorem dX4_hearWord_84 : decode cX4_hearWord 84 = .ok (.if_icmp .lt 5, 3) := by decide +kernel
theorem dX4_hearWord_87 : decode cX4_hearWord 87 = .ok (.iconst 4, 1) := by decide +kernel
theorem dX4_hearWord_88 : decode cX4_hearWord 88 = .ok (.ireturn, 1) := by decide +kernel
theorem dX4_hearWord_89 : decode cX4_hearWord 89 = .ok (.iload 7, 2) := by decide +kernel
theorem dX4_hearWord_91 : decode cX4_hearWord 91 = .ok (.ifCond .eq 5, 3) := by decide +kernel
theorem dX4_hearWord_94 : decode cX4_hearWord 94 = .ok (.iconst 3, 1) := by decide +kernel
theorem dX4_hearWord_95 : decode cX4_hearWord 95 = .ok (.ireturn, 1) := by decide +kernel
theorem dX4_hearWord_96 : decode cX4_hearWord 96 = .ok (.aload_n 0, 1) := by decide +kernel
theorem dX4_hearWord_97 : decode cX4_hearWord 97 = .ok (.iload 6, 2) := by decide +kernel
theorem dX4_hearWord_99 : decode cX4_hearWord 99 = .ok (.invokevirtual 109, 3) := by decide +kernel
theorem dX4_hearWord_102 : decode cX4_hearWord 102 = .ok (.ifCond .eq 7, 3) := by decide +kernel
theorem dX4_hearWord_105 : decode cX4_hearWord 105 = .ok (.iconst 0, 1) := by decide +kernel
theorem dX4_hearWord_106 : decode cX4_hearWord 106 = .ok (.goto 4, 3) := by decide +kernel
theorem dX4_hearWord_109 : decode cX4_hearWord 109 = .ok (.iconst 1, 1) := by decide +kernel
theorem dX4_hearWord_110 : decode cX4_hearWord 110 = .ok (.ireturn, 1) := by decide +kernel
theorem dX4_meansStands_0 : decode cX4_meansStands 0 = .ok (.iload_n 1, 1) := by decide +kernel
theorem dX4_meansStands_1 : decode cX4_meansStands 1 = .ok (.iconst 5, 1) := by decide +kernel
theorem dX4_meansStands_2 : decode cX4_meansStands 2 = .ok (.iadd, 1) := by decide +kernel
theorem dX4_meansStands_3 : decode cX4_meansStands 3 = .ok (.istore 4, 2) := by decide +kernel
theorem dX4_meansStands_5 : decode cX4_meansStands 5 = .ok (.iload 4, 2) := by decide +kernel
theorem dX4_meansStands_7 : decode cX4_meansStands 7 = .ok (.iload_n 2, 1) := by decide +kernel
theorem dX4_meansStands_8 : decode cX4_meansStands 8 = .ok (.if_icmp .gt 20, 3) := by decide +kernel
theorem dX4_meansStands_11 : decode cX4_meansStands 11 = .ok (.iload 4, 2) := by decide +kernel
theorem dX4_meansStands_13 : decode cX4_meansStands 13 = .ok (.iload_n 2, 1) := by decide +kernel
theorem dX4_meansStands_14 : decode cX4_meansStands 14 = .ok (.if_icmp .ge 16, 3) := by decide +kernel
theorem dX4_meansStands_17 : decode cX4_meansStands 17 = .ok (.aload_n 0, 1) := by decide +kernel
theorem dX4_meansStands_18 : decode cX4_meansStands 18 = .ok (.iload 4, 2) := by decide +kernel
theorem dX4_meansStands_20 : decode cX4_meansStands 20 = .ok (.invokevirtual 88, 3) := by decide +kernel
theorem dX4_meansStands_23 : decode cX4_meansStands 23 = .ok (.bipush 32, 2) := by decide +kernel
theorem dX4_meansStands_25 : decode cX4_meansStands 25 = .ok (.if_icmp .eq 5, 3) := by decide +kernel
theorem dX4_meansStands_28 : decode cX4_meansStands 28 = .ok (.iconst 0, 1) := by decide +kernel
theorem dX4_meansStands_29 : decode cX4_meansStands 29 = .ok (.ireturn, 1) := by decide +kernel
theorem dX4_meansStands_30 : decode cX4_meansStands 30 = .ok (.aload_n 3, 1) := by decide +kernel
theorem dX4_meansStands_31 : decode cX4_meansStands 31 = .ok (.aload_n 0, 1) := by decide +kernel
theorem dX4_meansStands_32 : decode cX4_meansStands 32 = .ok (.iload_n 1, 1) := by decide +kernel
theorem dX4_meansStands_33 : decode cX4_meansStands 33 = .ok (.iload 4, 2) := by decide +kernel
theorem dX4_meansStands_35 : decode cX4_meansStands 35 = .ok (.invokevirtual 92, 3) := by decide +kernel
theorem dX4_meansStands_38 : decode cX4_meansStands 38 = .ok (.bipush 17, 2) := by decide +kernel
theorem dX4_meansStands_40 : decode cX4_meansStands 40 = .ok (.if_icmp .ne 7, 3) := by decide +kernel
theorem dX4_meansStands_43 : decode cX4_meansStands 43 = .ok (.iconst 1, 1) := by decide +kernel
theorem dX4_meansStands_44 : decode cX4_meansStands 44 = .ok (.goto 4, 3) := by decide +kernel
theorem dX4_meansStands_47 : decode cX4_meansStands 47 = .ok (.iconst 0, 1) := by decide +kernel
theorem dX4_meansStands_48 : decode cX4_meansStands 48 = .ok (.ireturn, 1) := by decide +kernel
theorem dX4_keepW_0 : decode cX4_keepW 0 = .ok (.iconst 0, 1) := by decide +kernel
theorem dX4_keepW_1 : decode cX4_keepW 1 = .ok (.istore_n 3, 1) := by decide +kernel
theorem dX4_keepW_2 : decode cX4_keepW 2 = .ok (.iload_n 3, 1) := by decide +kernel
theorem dX4_keepW_3 : decode cX4_keepW 3 = .ok (.iload_n 2, 1) := by decide +kernel
theorem dX4_keepW_4 : decode cX4_keepW 4 = .ok (.if_icmp .ge 26, 3) := by decide +kernel
theorem dX4_keepW_7 : decode cX4_keepW 7 = .ok (.iload_n 3, 1) := by decide +kernel
theorem dX4_keepW_8 : decode cX4_keepW 8 = .ok (.bipush 10, 2) := by decide +kernel
theorem dX4_keepW_10 : decode cX4_keepW 10 = .ok (.if_icmp .ge 20, 3) := by decide +kernel
theorem dX4_keepW_13 : decode cX4_keepW 13 = .ok (.aload_n 0, 1) := by decide +kernel
theorem dX4_keepW_14 : decode cX4_keepW 14 = .ok (.getfield 25, 3) := by decide +kernel
theorem dX4_keepW_17 : decode cX4_keepW 17 = .ok (.iload_n 3, 1) := by decide +kernel
theorem dX4_keepW_18 : decode cX4_keepW 18 = .ok (.aload_n 1, 1) := by decide +kernel
theorem dX4_keepW_19 : decode cX4_keepW 19 = .ok (.iload_n 3, 1) := by decide +kernel
theorem dX4_keepW_20 : decode cX4_keepW 20 = .ok (.invokevirtual 88, 3) := by decide +kernel
theorem dX4_keepW_23 : decode cX4_keepW 23 = .ok (.iastore, 1) := by decide +kernel
theorem dX4_keepW_24 : decode cX4_keepW 24 = .ok (.iinc 3 1, 3) := by decide +kernel
theorem dX4_keepW_27 : decode cX4_keepW 27 = .ok (.goto (-25), 3) := by decide +kernel
theorem dX4_keepW_30 : decode cX4_keepW 30 = .ok (.aload_n 0, 1) := by decide +kernel
theorem dX4_keepW_31 : decode cX4_keepW 31 = .ok (.iload_n 2, 1) := by decide +kernel
theorem dX4_keepW_32 : decode cX4_keepW 32 = .ok (.putfield 47, 3) := by decide +kernel
theorem dX4_keepW_35 : decode cX4_keepW 35 = .ok (.aload_n 0, 1) := by decide +kernel
theorem dX4_keepW_36 : decode cX4_keepW 36 = .ok (.iconst 2, 1) := by decide +kernel
theorem dX4_keepW_37 : decode cX4_keepW 37 = .ok (.putfield 85, 3) := by decide +kernel
theorem dX4_keepW_40 : decode cX4_keepW 40 = .ok (.return_, 1) := by decide +kernel
theorem dX4_isOnward_0 : decode cX4_isOnward 0 = .ok (.iload_n 0, 1) := by decide +kernel
theorem dX4_isOnward_1 : decode cX4_isOnward 1 = .ok (.bipush 25, 2) := by decide +kernel
theorem dX4_isOnward_3 : decode cX4_isOnward 3 = .ok (.if_icmp .eq 15, 3) := by decide +kernel
theorem dX4_isOnward_6 : decode cX4_isOnward 6 = .ok (.iload_n 0, 1) := by decide +kernel
theorem dX4_isOnward_7 : decode cX4_isOnward 7 = .ok (.bipush 26, 2) := by decide +kernel
theorem dX4_isOnward_9 : decode cX4_isOnward 9 = .ok (.if_icmp .eq 9, 3) := by decide +kernel
theorem dX4_isOnward_12 : decode cX4_isOnward 12 = .ok (.iload_n 0, 1) := by decide +kernel
theorem dX4_isOnward_13 : decode cX4_isOnward 13 = .ok (.bipush 27, 2) := by decide +kernel
theorem dX4_isOnward_15 : decode cX4_isOnward 15 = .ok (.if_icmp .ne 7, 3) := by decide +kernel
theorem dX4_isOnward_18 : decode cX4_isOnward 18 = .ok (.iconst 1, 1) := by decide +kernel
theorem dX4_isOnward_19 : decode cX4_isOnward 19 = .ok (.goto 4, 3) := by decide +kernel
theorem dX4_isOnward_22 : decode cX4_isOnward 22 = .ok (.iconst 0, 1) := by decide +kernel
theorem dX4_isOnward_23 : decode cX4_isOnward 23 = .ok (.ireturn, 1) := by decide +kernel
theorem dX4_goOn_0 : decode cX4_goOn 0 = .ok (.aload_n 0, 1) := by decide +kernel
theorem dX4_goOn_1 : decode cX4_goOn 1 = .ok (.getfield 85, 3) := by decide +kernel
theorem dX4_goOn_4 : decode cX4_goOn 4 = .ok (.tableswitch 153 0 6 #[44, 50, 72, 94, 100, 141, 147], 44) := by decide +kernel
theorem dX4_goOn_48 : decode cX4_goOn 48 = .ok (.aload_n 0, 1) := by decide +kernel
theorem dX4_goOn_49 : decode cX4_goOn 49 = .ok (.iload_n 1, 1) := by decide +kernel
theorem dX4_goOn_50 : decode cX4_goOn 50 = .ok (.invokevirtual 112, 3) := by decide +kernel
theorem dX4_goOn_53 : decode cX4_goOn 53 = .ok (.ireturn, 1) := by decide +kernel
theorem dX4_goOn_54 : decode cX4_goOn 54 = .ok (.iload_n 1, 1) := by decide +kernel
theorem dX4_goOn_55 : decode cX4_goOn 55 = .ok (.bipush 19, 2) := by decide +kernel
theorem dX4_goOn_57 : decode cX4_goOn 57 = .ok (.if_icmp .ne 17, 3) := by decide +kernel
theorem dX4_goOn_60 : decode cX4_goOn 60 = .ok (.aload_n 0, 1) := by decide +kernel
theorem dX4_goOn_61 : decode cX4_goOn 61 = .ok (.bipush 19, 2) := by decide +kernel
theorem dX4_goOn_63 : decode cX4_goOn 63 = .ok (.iconst 4, 1) := by decide +kernel
theorem dX4_goOn_64 : decode cX4_goOn 64 = .ok (.invokevirtual 115, 3) := by decide +kernel
theorem dX4_goOn_67 : decode cX4_goOn 67 = .ok (.ifCond .eq 7, 3) := by decide +kernel
theorem dX4_goOn_70 : decode cX4_goOn 70 = .ok (.iconst 1, 1) := by decide +kernel
theorem dX4_goOn_71 : decode cX4_goOn 71 = .ok (.goto 4, 3) := by decide +kernel
theorem dX4_goOn_74 : decode cX4_goOn 74 = .ok (.iconst 0, 1) := by decide +kernel
theorem dX4_goOn_75 : decode cX4_goOn 75 = .ok (.ireturn, 1) := by decide +kernel
theorem dX4_goOn_76 : decode cX4_goOn 76 = .ok (.iload_n 1, 1) := by decide +kernel
theorem dX4_goOn_77 : decode cX4_goOn 77 = .ok (.bipush 17, 2) := by decide +kernel
theorem dX4_goOn_79 : decode cX4_goOn 79 = .ok (.if_icmp .ne 17, 3) := by decide +kernel
theorem dX4_goOn_82 : decode cX4_goOn 82 = .ok (.aload_n 0, 1) := by decide +kernel
theorem dX4_goOn_83 : decode cX4_goOn 83 = .ok (.bipush 17, 2) := by decide +kernel
theorem dX4_goOn_85 : decode cX4_goOn 85 = .ok (.iconst 5, 1) := by decide +kernel
theorem dX4_goOn_86 : decode cX4_goOn 86 = .ok (.invokevirtual 115, 3) := by decide +kernel
theorem dX4_goOn_89 : decode cX4_goOn 89 = .ok (.ifCond .eq 7, 3) := by decide +kernel
theorem dX4_goOn_92 : decode cX4_goOn 92 = .ok (.iconst 1, 1) := by decide +kernel
theorem dX4_goOn_93 : decode cX4_goOn 93 = .ok (.goto 4, 3) := by decide +kernel
theorem dX4_goOn_96 : decode cX4_goOn 96 = .ok (.iconst 0, 1) := by decide +kernel
theorem dX4_goOn_97 : decode cX4_goOn 97 = .ok (.ireturn, 1) := by decide +kernel
theorem dX4_goOn_98 : decode cX4_goOn 98 = .ok (.aload_n 0, 1) := by decide +kernel
theorem dX4_goOn_99 : decode cX4_goOn 99 = .ok (.iload_n 1, 1) := by decide +kernel
theorem dX4_goOn_100 : decode cX4_goOn 100 = .ok (.invokevirtual 119, 3) := by decide +kernel
theorem dX4_goOn_103 : decode cX4_goOn 103 = .ok (.ireturn, 1) := by decide +kernel
theorem dX4_goOn_104 : decode cX4_goOn 104 = .ok (.aload_n 0, 1) := by decide +kernel
theorem dX4_goOn_105 : decode cX4_goOn 105 = .ok (.iload_n 1, 1) := by decide +kernel
theorem dX4_goOn_106 : decode cX4_goOn 106 = .ok (.bipush 20, 2) := by decide +kernel
theorem dX4_goOn_108 : decode cX4_goOn 108 = .ok (.if_icmp .ne 7, 3) := by decide +kernel
theorem dX4_goOn_111 : decode cX4_goOn 111 = .ok (.iconst 1, 1) := by decide +kernel
theorem dX4_goOn_112 : decode cX4_goOn 112 = .ok (.goto 4, 3) := by decide +kernel
theorem dX4_goOn_115 : decode cX4_goOn 115 = .ok (.iconst 0, 1) := by decide +kernel
theorem dX4_goOn_116 : decode cX4_goOn 116 = .ok (.putfield 41, 3) := by decide +kernel
theorem dX4_goOn_119 : decode cX4_goOn 119 = .ok (.aload_n 0, 1) := by decide +kernel
theorem dX4_goOn_120 : decode cX4_goOn 120 = .ok (.iconst 5, 1) := by decide +kernel
theorem dX4_goOn_121 : decode cX4_goOn 121 = .ok (.putfield 85, 3) := by decide +kernel
theorem dX4_goOn_124 : decode cX4_goOn 124 = .ok (.aload_n 0, 1) := by decide +kernel
theorem dX4_goOn_125 : decode cX4_goOn 125 = .ok (.getfield 41, 3) := by decide +kernel
theorem dX4_goOn_128 : decode cX4_goOn 128 = .ok (.ifCond .ne 11, 3) := by decide +kernel
theorem dX4_goOn_131 : decode cX4_goOn 131 = .ok (.aload_n 0, 1) := by decide +kernel
theorem dX4_goOn_132 : decode cX4_goOn 132 = .ok (.iload_n 1, 1) := by decide +kernel
theorem dX4_goOn_133 : decode cX4_goOn 133 = .ok (.invokevirtual 122, 3) := by decide +kernel
theorem dX4_goOn_136 : decode cX4_goOn 136 = .ok (.ifCond .eq 7, 3) := by decide +kernel
theorem dX4_goOn_139 : decode cX4_goOn 139 = .ok (.iconst 1, 1) := by decide +kernel
theorem dX4_goOn_140 : decode cX4_goOn 140 = .ok (.goto 4, 3) := by decide +kernel
theorem dX4_goOn_143 : decode cX4_goOn 143 = .ok (.iconst 0, 1) := by decide +kernel
theorem dX4_goOn_144 : decode cX4_goOn 144 = .ok (.ireturn, 1) := by decide +kernel
theorem dX4_goOn_145 : decode cX4_goOn 145 = .ok (.aload_n 0, 1) := by decide +kernel
theorem dX4_goOn_146 : decode cX4_goOn 146 = .ok (.iload_n 1, 1) := by decide +kernel
theorem dX4_goOn_147 : decode cX4_goOn 147 = .ok (.invokevirtual 122, 3) := by decide +kernel
theorem dX4_goOn_150 : decode cX4_goOn 150 = .ok (.ireturn, 1) := by decide +kernel
theorem dX4_goOn_151 : decode cX4_goOn 151 = .ok (.aload_n 0, 1) := by decide +kernel
theorem dX4_goOn_152 : decode cX4_goOn 152 = .ok (.iload_n 1, 1) := by decide +kernel
theorem dX4_goOn_153 : decode cX4_goOn 153 = .ok (.invokevirtual 125, 3) := by decide +kernel
theorem dX4_goOn_156 : decode cX4_goOn 156 = .ok (.ireturn, 1) := by decide +kernel
theorem dX4_goOn_157 : decode cX4_goOn 157 = .ok (.iconst 0, 1) := by decide +kernel
theorem dX4_goOn_158 : decode cX4_goOn 158 = .ok (.ireturn, 1) := by decide +kernel
theorem dX4_begin_0 : decode cX4_begin 0 = .ok (.aload_n 0, 1) := by decide +kernel
theorem dX4_begin_1 : decode cX4_begin 1 = .ok (.iload_n 1, 1) := by decide +kernel
theorem dX4_begin_2 : decode cX4_begin 2 = .ok (.putfield 37, 3) := by decide +kernel
theorem dX4_begin_5 : decode cX4_begin 5 = .ok (.iload_n 1, 1) := by decide +kernel
theorem dX4_begin_6 : decode cX4_begin 6 = .ok (.tableswitch 75 11 18 #[46, 46, 53, 46, 61, 61, 75, 68], 46) := by decide +kernel
theorem dX4_begin_52 : decode cX4_begin 52 = .ok (.aload_n 0, 1) := by decide +kernel
theorem dX4_begin_53 : decode cX4_begin 53 = .ok (.iconst 3, 1) := by decide +kernel
theorem dX4_begin_54 : decode cX4_begin 54 = .ok (.putfield 85, 3) := by decide +kernel
theorem dX4_begin_57 : decode cX4_begin 57 = .ok (.iconst 1, 1) := by decide +kernel
theorem dX4_begin_58 : decode cX4_begin 58 = .ok (.ireturn, 1) := by decide +kernel
theorem dX4_begin_59 : decode cX4_begin 59 = .ok (.aload_n 0, 1) := by decide +kernel
theorem dX4_begin_60 : decode cX4_begin 60 = .ok (.bipush 7, 2) := by decide +kernel
theorem dX4_begin_62 : decode cX4_begin 62 = .ok (.putfield 85, 3) := by decide +kernel
theorem dX4_begin_65 : decode cX4_begin 65 = .ok (.iconst 1, 1) := by decide +kernel
theorem dX4_begin_66 : decode cX4_begin 66 = .ok (.ireturn, 1) := by decide +kernel
theorem dX4_begin_67 : decode cX4_begin 67 = .ok (.aload_n 0, 1) := by decide +kernel
theorem dX4_begin_68 : decode cX4_begin 68 = .ok (.iload_n 1, 1) := by decide +kernel
theorem dX4_begin_69 : decode cX4_begin 69 = .ok (.iconst 5, 1) := by decide +kernel
theorem dX4_begin_70 : decode cX4_begin 70 = .ok (.invokevirtual 115, 3) := by decide +kernel
theorem dX4_begin_73 : decode cX4_begin 73 = .ok (.ireturn, 1) := by decide +kernel
theorem dX4_begin_74 : decode cX4_begin 74 = .ok (.aload_n 0, 1) := by decide +kernel
theorem dX4_begin_75 : decode cX4_begin 75 = .ok (.iconst 1, 1) := by decide +kernel
theorem dX4_begin_76 : decode cX4_begin 76 = .ok (.putfield 85, 3) := by decide +kernel
theorem dX4_begin_79 : decode cX4_begin 79 = .ok (.iconst 1, 1) := by decide +kernel
theorem dX4_begin_80 : decode cX4_begin 80 = .ok (.ireturn, 1) := by decide +kernel
theorem dX4_begin_81 : decode cX4_begin 81 = .ok (.iconst 0, 1) := by decide +kernel
theorem dX4_begin_82 : decode cX4_begin 82 = .ok (.ireturn, 1) := by decide +kernel
theorem dX4_beginBare_0 : decode cX4_beginBare 0 = .ok (.aload_n 0, 1) := by decide +kernel
theorem dX4_beginBare_1 : decode cX4_beginBare 1 = .ok (.iload_n 1, 1) := by decide +kernel
theorem dX4_beginBare_2 : decode cX4_beginBare 2 = .ok (.putfield 37, 3) := by decide +kernel
theorem dX4_beginBare_5 : decode cX4_beginBare 5 = .ok (.aload_n 0, 1) := by decide +kernel
theorem dX4_beginBare_6 : decode cX4_beginBare 6 = .ok (.getfield 12, 3) := by decide +kernel
theorem dX4_beginBare_9 : decode cX4_beginBare 9 = .ok (.iconst (-1), 1) := by decide +kernel
theorem dX4_beginBare_10 : decode cX4_beginBare 10 = .ok (.invokevirtual 128, 3) := by decide +kernel
theorem dX4_beginBare_13 : decode cX4_beginBare 13 = .ok (.aload_n 0, 1) := by decide +kernel
theorem dX4_beginBare_14 : decode cX4_beginBare 14 = .ok (.iload_n 2, 1) := by decide +kernel
theorem dX4_beginBare_15 : decode cX4_beginBare 15 = .ok (.putfield 85, 3) := by decide +kernel
theorem dX4_beginBare_18 : decode cX4_beginBare 18 = .ok (.iconst 1, 1) := by decide +kernel
theorem dX4_beginBare_19 : decode cX4_beginBare 19 = .ok (.ireturn, 1) := by decide +kernel
theorem dX4_goOnNp_0 : decode cX4_goOnNp 0 = .ok (.iload_n 1, 1) := by decide +kernel
theorem dX4_goOnNp_1 : decode cX4_goOnNp 1 = .ok (.bipush 21, 2) := by decide +kernel
theorem dX4_goOnNp_3 : decode cX4_goOnNp 3 = .ok (.if_icmp .lt 9, 3) := by decide +kernel
theorem dX4_goOnNp_6 : decode cX4_goOnNp 6 = .ok (.iload_n 1, 1) := by decide +kernel
theorem dX4_goOnNp_7 : decode cX4_goOnNp 7 = .ok (.bipush 24, 2) := by decide +kernel
theorem dX4_goOnNp_9 : decode cX4_goOnNp 9 = .ok (.if_icmp .le 5, 3) := by decide +kernel
theorem dX4_goOnNp_12 : decode cX4_goOnNp 12 = .ok (.iconst 0, 1) := by decide +kernel
theorem dX4_goOnNp_13 : decode cX4_goOnNp 13 = .ok (.ireturn, 1) := by decide +kernel
theorem dX4_goOnNp_14 : decode cX4_goOnNp 14 = .ok (.aload_n 0, 1) := by decide +kernel
theorem dX4_goOnNp_15 : decode cX4_goOnNp 15 = .ok (.getfield 12, 3) := by decide +kernel
theorem dX4_goOnNp_18 : decode cX4_goOnNp 18 = .ok (.iload_n 1, 1) := by decide +kernel
theorem dX4_goOnNp_19 : decode cX4_goOnNp 19 = .ok (.invokevirtual 128, 3) := by decide +kernel
theorem dX4_goOnNp_22 : decode cX4_goOnNp 22 = .ok (.aload_n 0, 1) := by decide +kernel
theorem dX4_goOnNp_23 : decode cX4_goOnNp 23 = .ok (.iload_n 1, 1) := by decide +kernel
theorem dX4_goOnNp_24 : decode cX4_goOnNp 24 = .ok (.bipush 21, 2) := by decide +kernel
theorem dX4_goOnNp_26 : decode cX4_goOnNp 26 = .ok (.if_icmp .eq 9, 3) := by decide +kernel
theorem dX4_goOnNp_29 : decode cX4_goOnNp 29 = .ok (.iload_n 1, 1) := by decide +kernel
theorem dX4_goOnNp_30 : decode cX4_goOnNp 30 = .ok (.bipush 22, 2) := by decide +kernel
theorem dX4_goOnNp_32 : decode cX4_goOnNp 32 = .ok (.if_icmp .ne 7, 3) := by decide +kernel
theorem dX4_goOnNp_35 : decode cX4_goOnNp 35 = .ok (.iconst 5, 1) := by decide +kernel
theorem dX4_goOnNp_36 : decode cX4_goOnNp 36 = .ok (.goto 5, 3) := by decide +kernel
theorem dX4_goOnNp_39 : decode cX4_goOnNp 39 = .ok (.bipush 6, 2) := by decide +kernel
theorem dX4_goOnNp_41 : decode cX4_goOnNp 41 = .ok (.putfield 85, 3) := by decide +kernel
theorem dX4_goOnNp_44 : decode cX4_goOnNp 44 = .ok (.iconst 1, 1) := by decide +kernel
theorem dX4_goOnNp_45 : decode cX4_goOnNp 45 = .ok (.ireturn, 1) := by decide +kernel
theorem dX4_goOnN_0 : decode cX4_goOnN 0 = .ok (.iload_n 1, 1) := by decide +kernel
theorem dX4_goOnN_1 : decode cX4_goOnN 1 = .ok (.iconst 5, 1) := by decide +kernel
theorem dX4_goOnN_2 : decode cX4_goOnN 2 = .ok (.if_icmp .lt 24, 3) := by decide +kernel
theorem dX4_goOnN_5 : decode cX4_goOnN 5 = .ok (.iload_n 1, 1) := by decide +kernel
theorem dX4_goOnN_6 : decode cX4_goOnN 6 = .ok (.bipush 10, 2) := by decide +kernel
theorem dX4_goOnN_8 : decode cX4_goOnN 8 = .ok (.if_icmp .gt 18, 3) := by decide +kernel
theorem dX4_goOnN_11 : decode cX4_goOnN 11 = .ok (.aload_n 0, 1) := by decide +kernel
theorem dX4_goOnN_12 : decode cX4_goOnN 12 = .ok (.getfield 12, 3) := by decide +kernel
theorem dX4_goOnN_15 : decode cX4_goOnN 15 = .ok (.iload_n 1, 1) := by decide +kernel
theorem dX4_goOnN_16 : decode cX4_goOnN 16 = .ok (.invokevirtual 132, 3) := by decide +kernel
theorem dX4_goOnN_19 : decode cX4_goOnN 19 = .ok (.aload_n 0, 1) := by decide +kernel
theorem dX4_goOnN_20 : decode cX4_goOnN 20 = .ok (.iconst 5, 1) := by decide +kernel
theorem dX4_goOnN_21 : decode cX4_goOnN 21 = .ok (.putfield 85, 3) := by decide +kernel
theorem dX4_goOnN_24 : decode cX4_goOnN 24 = .ok (.iconst 1, 1) := by decide +kernel
theorem dX4_goOnN_25 : decode cX4_goOnN 25 = .ok (.ireturn, 1) := by decide +kernel
theorem dX4_goOnN_26 : decode cX4_goOnN 26 = .ok (.iload_n 1, 1) := by decide +kernel
theorem dX4_goOnN_27 : decode cX4_goOnN 27 = .ok (.iconst 4, 1) := by decide +kernel
theorem dX4_goOnN_28 : decode cX4_goOnN 28 = .ok (.if_icmp .le 11, 3) := by decide +kernel
theorem dX4_goOnN_31 : decode cX4_goOnN 31 = .ok (.iload_n 1, 1) := by decide +kernel
theorem dX4_goOnN_32 : decode cX4_goOnN 32 = .ok (.bipush 29, 2) := by decide +kernel
theorem dX4_goOnN_34 : decode cX4_goOnN 34 = .ok (.if_icmp .ge 5, 3) := by decide +kernel
theorem dX4_goOnN_37 : decode cX4_goOnN 37 = .ok (.iconst 0, 1) := by decide +kernel
theorem dX4_goOnN_38 : decode cX4_goOnN 38 = .ok (.ireturn, 1) := by decide +kernel
theorem dX4_goOnN_39 : decode cX4_goOnN 39 = .ok (.aload_n 0, 1) := by decide +kernel
theorem dX4_goOnN_40 : decode cX4_goOnN 40 = .ok (.getfield 12, 3) := by decide +kernel
theorem dX4_goOnN_43 : decode cX4_goOnN 43 = .ok (.iload_n 1, 1) := by decide +kernel
theorem dX4_goOnN_44 : decode cX4_goOnN 44 = .ok (.invokevirtual 135, 3) := by decide +kernel
theorem dX4_goOnN_47 : decode cX4_goOnN 47 = .ok (.aload_n 0, 1) := by decide +kernel
theorem dX4_goOnN_48 : decode cX4_goOnN 48 = .ok (.bipush 6, 2) := by decide +kernel
theorem dX4_goOnN_50 : decode cX4_goOnN 50 = .ok (.putfield 85, 3) := by decide +kernel
theorem dX4_goOnN_53 : decode cX4_goOnN 53 = .ok (.iconst 1, 1) := by decide +kernel
theorem dX4_goOnN_54 : decode cX4_goOnN 54 = .ok (.ireturn, 1) := by decide +kernel
theorem dX4_goOnBehindNp_0 : decode cX4_goOnBehindNp 0 = .ok (.iload_n 1, 1) := by decide +kernel
theorem dX4_goOnBehindNp_1 : decode cX4_goOnBehindNp 1 = .ok (.bipush 28, 2) := by decide +kernel
theorem dX4_goOnBehindNp_3 : decode cX4_goOnBehindNp 3 = .ok (.if_icmp .ne 40, 3) := by decide +kernel
theorem dX4_goOnBehindNp_6 : decode cX4_goOnBehindNp 6 = .ok (.aload_n 0, 1) := by decide +kernel
theorem dX4_goOnBehindNp_7 : decode cX4_goOnBehindNp 7 = .ok (.iconst 1, 1) := by decide +kernel
theorem dX4_goOnBehindNp_8 : decode cX4_goOnBehindNp 8 = .ok (.putfield 44, 3) := by decide +kernel
theorem dX4_goOnBehindNp_11 : decode cX4_goOnBehindNp 11 = .ok (.aload_n 0, 1) := by decide +kernel
theorem dX4_goOnBehindNp_12 : decode cX4_goOnBehindNp 12 = .ok (.bipush 7, 2) := by decide +kernel
theorem dX4_goOnBehindNp_14 : decode cX4_goOnBehindNp 14 = .ok (.putfield 85, 3) := by decide +kernel
theorem dX4_goOnBehindNp_17 : decode cX4_goOnBehindNp 17 = .ok (.aload_n 0, 1) := by decide +kernel
theorem dX4_goOnBehindNp_18 : decode cX4_goOnBehindNp 18 = .ok (.getfield 37, 3) := by decide +kernel
theorem dX4_goOnBehindNp_21 : decode cX4_goOnBehindNp 21 = .ok (.bipush 11, 2) := by decide +kernel
theorem dX4_goOnBehindNp_23 : decode cX4_goOnBehindNp 23 = .ok (.if_icmp .ne 18, 3) := by decide +kernel
theorem dX4_goOnBehindNp_26 : decode cX4_goOnBehindNp 26 = .ok (.aload_n 0, 1) := by decide +kernel
theorem dX4_goOnBehindNp_27 : decode cX4_goOnBehindNp 27 = .ok (.getfield 21, 3) := by decide +kernel
theorem dX4_goOnBehindNp_30 : decode cX4_goOnBehindNp 30 = .ok (.iconst 0, 1) := by decide +kernel
theorem dX4_goOnBehindNp_31 : decode cX4_goOnBehindNp 31 = .ok (.invokevirtual 138, 3) := by decide +kernel
theorem dX4_goOnBehindNp_34 : decode cX4_goOnBehindNp 34 = .ok (.ifCond .eq 7, 3) := by decide +kernel
theorem dX4_goOnBehindNp_37 : decode cX4_goOnBehindNp 37 = .ok (.iconst 1, 1) := by decide +kernel
theorem dX4_goOnBehindNp_38 : decode cX4_goOnBehindNp 38 = .ok (.goto 4, 3) := by decide +kernel
theorem dX4_goOnBehindNp_41 : decode cX4_goOnBehindNp 41 = .ok (.iconst 0, 1) := by decide +kernel
theorem dX4_goOnBehindNp_42 : decode cX4_goOnBehindNp 42 = .ok (.ireturn, 1) := by decide +kernel
theorem dX4_goOnBehindNp_43 : decode cX4_goOnBehindNp 43 = .ok (.iload_n 1, 1) := by decide +kernel
theorem dX4_goOnBehindNp_44 : decode cX4_goOnBehindNp 44 = .ok (.invokestatic 106, 3) := by decide +kernel
theorem dX4_goOnBehindNp_47 : decode cX4_goOnBehindNp 47 = .ok (.ifCond .ne 5, 3) := by decide +kernel
theorem dX4_goOnBehindNp_50 : decode cX4_goOnBehindNp 50 = .ok (.iconst 0, 1) := by decide +kernel
theorem dX4_goOnBehindNp_51 : decode cX4_goOnBehindNp 51 = .ok (.ireturn, 1) := by decide +kernel
theorem dX4_goOnBehindNp_52 : decode cX4_goOnBehindNp 52 = .ok (.aload_n 0, 1) := by decide +kernel
theorem dX4_goOnBehindNp_53 : decode cX4_goOnBehindNp 53 = .ok (.getfield 37, 3) := by decide +kernel
theorem dX4_goOnBehindNp_56 : decode cX4_goOnBehindNp 56 = .ok (.bipush 14, 2) := by decide +kernel
theorem dX4_goOnBehindNp_58 : decode cX4_goOnBehindNp 58 = .ok (.if_icmp .eq 18, 3) := by decide +kernel
theorem dX4_goOnBehindNp_61 : decode cX4_goOnBehindNp 61 = .ok (.aload_n 0, 1) := by decide +kernel
theorem dX4_goOnBehindNp_62 : decode cX4_goOnBehindNp 62 = .ok (.getfield 37, 3) := by decide +kernel
theorem dX4_goOnBehindNp_65 : decode cX4_goOnBehindNp 65 = .ok (.bipush 11, 2) := by decide +kernel
theorem dX4_goOnBehindNp_67 : decode cX4_goOnBehindNp 67 = .ok (.if_icmp .ne 13, 3) := by decide +kernel
theorem dX4_goOnBehindNp_70 : decode cX4_goOnBehindNp 70 = .ok (.iload_n 1, 1) := by decide +kernel
theorem dX4_goOnBehindNp_71 : decode cX4_goOnBehindNp 71 = .ok (.bipush 27, 2) := by decide +kernel
theorem dX4_goOnBehindNp_73 : decode cX4_goOnBehindNp 73 = .ok (.if_icmp .eq 7, 3) := by decide +kernel
theorem dX4_goOnBehindNp_76 : decode cX4_goOnBehindNp 76 = .ok (.iconst 1, 1) := by decide +kernel
theorem dX4_goOnBehindNp_77 : decode cX4_goOnBehindNp 77 = .ok (.goto 4, 3) := by decide +kernel
theorem dX4_goOnBehindNp_80 : decode cX4_goOnBehindNp 80 = .ok (.iconst 0, 1) := by decide +kernel
theorem dX4_goOnBehindNp_81 : decode cX4_goOnBehindNp 81 = .ok (.istore_n 2, 1) := by decide +kernel
theorem dX4_goOnBehindNp_82 : decode cX4_goOnBehindNp 82 = .ok (.aload_n 0, 1) := by decide +kernel
theorem dX4_goOnBehindNp_83 : decode cX4_goOnBehindNp 83 = .ok (.getfield 21, 3) := by decide +kernel
theorem dX4_goOnBehindNp_86 : decode cX4_goOnBehindNp 86 = .ok (.aload_n 0, 1) := by decide +kernel
theorem dX4_goOnBehindNp_87 : decode cX4_goOnBehindNp 87 = .ok (.getfield 12, 3) := by decide +kernel
theorem dX4_goOnBehindNp_90 : decode cX4_goOnBehindNp 90 = .ok (.iload_n 2, 1) := by decide +kernel
theorem dX4_goOnBehindNp_91 : decode cX4_goOnBehindNp 91 = .ok (.invokevirtual 142, 3) := by decide +kernel
theorem dX4_goOnBehindNp_94 : decode cX4_goOnBehindNp 94 = .ok (.ifCond .ne 5, 3) := by decide +kernel
theorem dX4_goOnBehindNp_97 : decode cX4_goOnBehindNp 97 = .ok (.iconst 0, 1) := by decide +kernel
theorem dX4_goOnBehindNp_98 : decode cX4_goOnBehindNp 98 = .ok (.ireturn, 1) := by decide +kernel
theorem dX4_goOnBehindNp_99 : decode cX4_goOnBehindNp 99 = .ok (.aload_n 0, 1) := by decide +kernel
theorem dX4_goOnBehindNp_100 : decode cX4_goOnBehindNp 100 = .ok (.getfield 12, 3) := by decide +kernel
theorem dX4_goOnBehindNp_103 : decode cX4_goOnBehindNp 103 = .ok (.iload_n 1, 1) := by decide +kernel
theorem dX4_goOnBehindNp_104 : decode cX4_goOnBehindNp 104 = .ok (.invokevirtual 146, 3) := by decide +kernel
theorem dX4_goOnBehindNp_107 : decode cX4_goOnBehindNp 107 = .ok (.aload_n 0, 1) := by decide +kernel
theorem dX4_goOnBehindNp_108 : decode cX4_goOnBehindNp 108 = .ok (.iconst 3, 1) := by decide +kernel
theorem dX4_goOnBehindNp_109 : decode cX4_goOnBehindNp 109 = .ok (.putfield 85, 3) := by decide +kernel
theorem dX4_goOnBehindNp_112 : decode cX4_goOnBehindNp 112 = .ok (.iconst 1, 1) := by decide +kernel
theorem dX4_goOnBehindNp_113 : decode cX4_goOnBehindNp 113 = .ok (.ireturn, 1) := by decide +kernel
theorem dX4_canEnd_0 : decode cX4_canEnd 0 = .ok (.aload_n 0, 1) := by decide +kernel
theorem dX4_canEnd_1 : decode cX4_canEnd 1 = .ok (.getfield 85, 3) := by decide +kernel
theorem dX4_canEnd_4 : decode cX4_canEnd 4 = .ok (.bipush 6, 2) := by decide +kernel
theorem dX4_canEnd_6 : decode cX4_canEnd 6 = .ok (.if_icmp .ne 30, 3) := by decide +kernel
theorem dX4_canEnd_9 : decode cX4_canEnd 9 = .ok (.aload_n 0, 1) := by decide +kernel
theorem dX4_canEnd_10 : decode cX4_canEnd 10 = .ok (.getfield 37, 3) := by decide +kernel
theorem dX4_canEnd_13 : decode cX4_canEnd 13 = .ok (.bipush 11, 2) := by decide +kernel
theorem dX4_canEnd_15 : decode cX4_canEnd 15 = .ok (.if_icmp .eq 12, 3) := by decide +kernel
theorem dX4_canEnd_18 : decode cX4_canEnd 18 = .ok (.aload_n 0, 1) := by decide +kernel
theorem dX4_canEnd_19 : decode cX4_canEnd 19 = .ok (.getfield 37, 3) := by decide +kernel
theorem dX4_canEnd_22 : decode cX4_canEnd 22 = .ok (.bipush 14, 2) := by decide +kernel
theorem dX4_canEnd_24 : decode cX4_canEnd 24 = .ok (.if_icmp .ne 12, 3) := by decide +kernel
theorem dX4_canEnd_27 : decode cX4_canEnd 27 = .ok (.aload_n 0, 1) := by decide +kernel
theorem dX4_canEnd_28 : decode cX4_canEnd 28 = .ok (.getfield 21, 3) := by decide +kernel
theorem dX4_canEnd_31 : decode cX4_canEnd 31 = .ok (.iconst 1, 1) := by decide +kernel
theorem dX4_canEnd_32 : decode cX4_canEnd 32 = .ok (.invokevirtual 138, 3) := by decide +kernel
theorem dX4_canEnd_35 : decode cX4_canEnd 35 = .ok (.ireturn, 1) := by decide +kernel
theorem dX4_canEnd_36 : decode cX4_canEnd 36 = .ok (.aload_n 0, 1) := by decide +kernel
theorem dX4_canEnd_37 : decode cX4_canEnd 37 = .ok (.getfield 85, 3) := by decide +kernel
theorem dX4_canEnd_40 : decode cX4_canEnd 40 = .ok (.bipush 6, 2) := by decide +kernel
theorem dX4_canEnd_42 : decode cX4_canEnd 42 = .ok (.if_icmp .eq 12, 3) := by decide +kernel
theorem dX4_canEnd_45 : decode cX4_canEnd 45 = .ok (.aload_n 0, 1) := by decide +kernel
theorem dX4_canEnd_46 : decode cX4_canEnd 46 = .ok (.getfield 85, 3) := by decide +kernel
theorem dX4_canEnd_49 : decode cX4_canEnd 49 = .ok (.bipush 7, 2) := by decide +kernel
theorem dX4_canEnd_51 : decode cX4_canEnd 51 = .ok (.if_icmp .ne 7, 3) := by decide +kernel
theorem dX4_canEnd_54 : decode cX4_canEnd 54 = .ok (.iconst 1, 1) := by decide +kernel
theorem dX4_canEnd_55 : decode cX4_canEnd 55 = .ok (.goto 4, 3) := by decide +kernel
theorem dX4_canEnd_58 : decode cX4_canEnd 58 = .ok (.iconst 0, 1) := by decide +kernel
theorem dX4_canEnd_59 : decode cX4_canEnd 59 = .ok (.ireturn, 1) := by decide +kernel
theorem dX5_init_0 : decode cX5_init 0 = .ok (.aload_n 0, 1) := by decide +kernel
theorem dX5_init_1 : decode cX5_init 1 = .ok (.invokespecial 3, 3) := by decide +kernel
theorem dX5_init_4 : decode cX5_init 4 = .ok (.aload_n 0, 1) := by decide +kernel
theorem dX5_init_5 : decode cX5_init 5 = .ok (.bipush 7, 2) := by decide +kernel
theorem dX5_init_7 : decode cX5_init 7 = .ok (.newarray .int, 2) := by decide +kernel
theorem dX5_init_9 : decode cX5_init 9 = .ok (.putfield 9, 3) := by decide +kernel
theorem dX5_init_12 : decode cX5_init 12 = .ok (.aload_n 0, 1) := by decide +kernel
theorem dX5_init_13 : decode cX5_init 13 = .ok (.bipush 7, 2) := by decide +kernel
theorem dX5_init_15 : decode cX5_init 15 = .ok (.newarray .int, 2) := by decide +kernel
theorem dX5_init_17 : decode cX5_init 17 = .ok (.putfield 15, 3) := by decide +kernel
theorem dX5_init_20 : decode cX5_init 20 = .ok (.aload_n 0, 1) := by decide +kernel
theorem dX5_init_21 : decode cX5_init 21 = .ok (.bipush 8, 2) := by decide +kernel
theorem dX5_init_23 : decode cX5_init 23 = .ok (.newarray .int, 2) := by decide +kernel
theorem dX5_init_25 : decode cX5_init 25 = .ok (.putfield 18, 3) := by decide +kernel
theorem dX5_init_28 : decode cX5_init 28 = .ok (.aload_n 0, 1) := by decide +kernel
theorem dX5_init_29 : decode cX5_init 29 = .ok (.aload_n 1, 1) := by decide +kernel
theorem dX5_init_30 : decode cX5_init 30 = .ok (.putfield 21, 3) := by decide +kernel
theorem dX5_init_33 : decode cX5_init 33 = .ok (.aload_n 0, 1) := by decide +kernel
theorem dX5_init_34 : decode cX5_init 34 = .ok (.aload_n 2, 1) := by decide +kernel
theorem dX5_init_35 : decode cX5_init 35 = .ok (.putfield 25, 3) := by decide +kernel
theorem dX5_init_38 : decode cX5_init 38 = .ok (.aload_n 0, 1) := by decide +kernel
theorem dX5_init_39 : decode cX5_init 39 = .ok (.aload_n 3, 1) := by decide +kernel
theorem dX5_init_40 : decode cX5_init 40 = .ok (.putfield 29, 3) := by decide +kernel
theorem dX5_init_43 : decode cX5_init 43 = .ok (.return_, 1) := by decide +kernel
theorem dX5_meantBy_0 : decode cX5_meantBy 0 = .ok (.iload_n 1, 1) := by decide +kernel
theorem dX5_meantBy_1 : decode cX5_meantBy 1 = .ok (.ifCond .lt 18, 3) := by decide +kernel
theorem dX5_meantBy_4 : decode cX5_meantBy 4 = .ok (.iload_n 1, 1) := by decide +kernel
theorem dX5_meantBy_5 : decode cX5_meantBy 5 = .ok (.bipush 7, 2) := by decide +kernel
theorem dX5_meantBy_7 : decode cX5_meantBy 7 = .ok (.if_icmp .ge 12, 3) := by decide +kernel
theorem dX5_meantBy_10 : decode cX5_meantBy 10 = .ok (.aload_n 0, 1) := by decide +kernel
theorem dX5_meantBy_11 : decode cX5_meantBy 11 = .ok (.getfield 15, 3) := by decide +kernel
theorem dX5_meantBy_14 : decode cX5_meantBy 14 = .ok (.iload_n 1, 1) := by decide +kernel
theorem dX5_meantBy_15 : decode cX5_meantBy 15 = .ok (.iaload, 1) := by decide +kernel
theorem dX5_meantBy_16 : decode cX5_meantBy 16 = .ok (.goto 4, 3) := by decide +kernel
theorem dX5_meantBy_19 : decode cX5_meantBy 19 = .ok (.iconst (-1), 1) := by decide +kernel
theorem dX5_meantBy_20 : decode cX5_meantBy 20 = .ok (.ireturn, 1) := by decide +kernel
theorem dX5_troubleKind_0 : decode cX5_troubleKind 0 = .ok (.aload_n 0, 1) := by decide +kernel
theorem dX5_troubleKind_1 : decode cX5_troubleKind 1 = .ok (.getfield 33, 3) := by decide +kernel
theorem dX5_troubleKind_4 : decode cX5_troubleKind 4 = .ok (.ireturn, 1) := by decide +kernel
theorem dX5_troubleNp_0 : decode cX5_troubleNp 0 = .ok (.aload_n 0, 1) := by decide +kernel
theorem dX5_troubleNp_1 : decode cX5_troubleNp 1 = .ok (.getfield 37, 3) := by decide +kernel
theorem dX5_troubleNp_4 : decode cX5_troubleNp 4 = .ok (.ireturn, 1) := by decide +kernel
theorem dX5_mover_0 : decode cX5_mover 0 = .ok (.aload_n 0, 1) := by decide +kernel
theorem dX5_mover_1 : decode cX5_mover 1 = .ok (.getfield 40, 3) := by decide +kernel
theorem dX5_mover_4 : decode cX5_mover 4 = .ok (.ireturn, 1) := by decide +kernel
theorem dX5_goal_0 : decode cX5_goal 0 = .ok (.aload_n 0, 1) := by decide +kernel
theorem dX5_goal_1 : decode cX5_goal 1 = .ok (.getfield 43, 3) := by decide +kernel
theorem dX5_goal_4 : decode cX5_goal 4 = .ok (.ireturn, 1) := by decide +kernel
theorem dX5_meantByTold_0 : decode cX5_meantByTold 0 = .ok (.aload_n 0, 1) := by decide +kernel
theorem dX5_meantByTold_1 : decode cX5_meantByTold 1 = .ok (.invokevirtual 46, 3) := by decide +kernel
theorem dX5_meantByTold_4 : decode cX5_meantByTold 4 = .ok (.iload_n 1, 1) := by decide +kernel
theorem dX5_meantByTold_5 : decode cX5_meantByTold 5 = .ok (.ifCond .lt 18, 3) := by decide +kernel
theorem dX5_meantByTold_8 : decode cX5_meantByTold 8 = .ok (.iload_n 1, 1) := by decide +kernel
theorem dX5_meantByTold_9 : decode cX5_meantByTold 9 = .ok (.bipush 8, 2) := by decide +kernel
theorem dX5_meantByTold_11 : decode cX5_meantByTold 11 = .ok (.if_icmp .ge 12, 3) := by decide +kernel
theorem dX5_meantByTold_14 : decode cX5_meantByTold 14 = .ok (.aload_n 0, 1) := by decide +kernel
theorem dX5_meantByTold_15 : decode cX5_meantByTold 15 = .ok (.getfield 18, 3) := by decide +kernel
theorem dX5_meantByTold_18 : decode cX5_meantByTold 18 = .ok (.iload_n 1, 1) := by decide +kernel
theorem dX5_meantByTold_19 : decode cX5_meantByTold 19 = .ok (.iaload, 1) := by decide +kernel
theorem dX5_meantByTold_20 : decode cX5_meantByTold 20 = .ok (.goto 4, 3) := by decide +kernel
theorem dX5_meantByTold_23 : decode cX5_meantByTold 23 = .ok (.iconst (-1), 1) := by decide +kernel
theorem dX5_meantByTold_24 : decode cX5_meantByTold 24 = .ok (.ireturn, 1) := by decide +kernel
theorem dX5_weighOne_0 : decode cX5_weighOne 0 = .ok (.aload_n 0, 1) := by decide +kernel
theorem dX5_weighOne_1 : decode cX5_weighOne 1 = .ok (.invokevirtual 46, 3) := by decide +kernel
theorem dX5_weighOne_4 : decode cX5_weighOne 4 = .ok (.aload_n 0, 1) := by decide +kernel
theorem dX5_weighOne_5 : decode cX5_weighOne 5 = .ok (.aload_n 1, 1) := by decide +kernel
theorem dX5_weighOne_6 : decode cX5_weighOne 6 = .ok (.getfield 49, 3) := by decide +kernel
theorem dX5_weighOne_9 : decode cX5_weighOne 9 = .ok (.aload_n 0, 1) := by decide +kernel
theorem dX5_weighOne_10 : decode cX5_weighOne 10 = .ok (.getfield 29, 3) := by decide +kernel
theorem dX5_weighOne_13 : decode cX5_weighOne 13 = .ok (.invokevirtual 55, 3) := by decide +kernel
theorem dX5_weighOne_16 : decode cX5_weighOne 16 = .ok (.invokevirtual 61, 3) := by decide +kernel
theorem dX5_weighOne_19 : decode cX5_weighOne 19 = .ok (.aload_n 0, 1) := by decide +kernel
theorem dX5_weighOne_20 : decode cX5_weighOne 20 = .ok (.aload_n 1, 1) := by decide +kernel
theorem dX5_weighOne_21 : decode cX5_weighOne 21 = .ok (.iload_n 2, 1) := by decide +kernel
theorem dX5_weighOne_22 : decode cX5_weighOne 22 = .ok (.invokevirtual 65, 3) := by decide +kernel
theorem dX5_weighOne_25 : decode cX5_weighOne 25 = .ok (.return_, 1) := by decide +kernel
theorem dX5_choose_0 : decode cX5_choose 0 = .ok (.aload_n 0, 1) := by decide +kernel
theorem dX5_choose_1 : decode cX5_choose 1 = .ok (.invokevirtual 46, 3) := by decide +kernel
theorem dX5_choose_4 : decode cX5_choose 4 = .ok (.aload_n 0, 1) := by decide +kernel
theorem dX5_choose_5 : decode cX5_choose 5 = .ok (.aload_n 1, 1) := by decide +kernel
theorem dX5_choose_6 : decode cX5_choose 6 = .ok (.getfield 49, 3) := by decide +kernel
theorem dX5_choose_9 : decode cX5_choose 9 = .ok (.aload_n 0, 1) := by decide +kernel
theorem dX5_choose_10 : decode cX5_choose 10 = .ok (.getfield 29, 3) := by decide +kernel
theorem dX5_choose_13 : decode cX5_choose 13 = .ok (.invokevirtual 55, 3) := by decide +kernel
theorem dX5_choose_16 : decode cX5_choose 16 = .ok (.invokevirtual 61, 3) := by decide +kernel
theorem dX5_choose_19 : decode cX5_choose 19 = .ok (.bipush (-3), 2) := by decide +kernel
theorem dX5_choose_21 : decode cX5_choose 21 = .ok (.istore_n 2, 1) := by decide +kernel
theorem dX5_choose_22 : decode cX5_choose 22 = .ok (.iconst 0, 1) := by decide +kernel
theorem dX5_choose_23 : decode cX5_choose 23 = .ok (.istore_n 3, 1) := by decide +kernel
theorem dX5_choose_24 : decode cX5_choose 24 = .ok (.iconst 0, 1) := by decide +kernel
theorem dX5_choose_25 : decode cX5_choose 25 = .ok (.istore 4, 2) := by decide +kernel
theorem dX5_choose_27 : decode cX5_choose 27 = .ok (.iload 4, 2) := by decide +kernel
theorem dX5_choose_29 : decode cX5_choose 29 = .ok (.aload_n 1, 1) := by decide +kernel
theorem dX5_choose_30 : decode cX5_choose 30 = .ok (.getfield 69, 3) := by decide +kernel
theorem dX5_choose_33 : decode cX5_choose 33 = .ok (.invokevirtual 73, 3) := by decide +kernel
theorem dX5_choose_36 : decode cX5_choose 36 = .ok (.if_icmp .ge 59, 3) := by decide +kernel
theorem dX5_choose_39 : decode cX5_choose 39 = .ok (.aload_n 0, 1) := by decide +kernel
theorem dX5_choose_40 : decode cX5_choose 40 = .ok (.aload_n 1, 1) := by decide +kernel
theorem dX5_choose_41 : decode cX5_choose 41 = .ok (.iload 4, 2) := by decide +kernel
theorem dX5_choose_43 : decode cX5_choose 43 = .ok (.invokevirtual 65, 3) := by decide +kernel
theorem dX5_choose_46 : decode cX5_choose 46 = .ok (.aload_n 0, 1) := by decide +kernel
theorem dX5_choose_47 : decode cX5_choose 47 = .ok (.getfield 33, 3) := by decide +kernel
theorem dX5_choose_50 : decode cX5_choose 50 = .ok (.ifCond .ne 39, 3) := by decide +kernel
theorem dX5_choose_53 : decode cX5_choose 53 = .ok (.aload_n 0, 1) := by decide +kernel
theorem dX5_choose_54 : decode cX5_choose 54 = .ok (.aload_n 1, 1) := by decide +kernel
theorem dX5_choose_55 : decode cX5_choose 55 = .ok (.iload 4, 2) := by decide +kernel
theorem dX5_choose_57 : decode cX5_choose 57 = .ok (.invokevirtual 78, 3) := by decide +kernel
theorem dX5_choose_60 : decode cX5_choose 60 = .ok (.istore 5, 2) := by decide +kernel
theorem dX5_choose_62 : decode cX5_choose 62 = .ok (.iload_n 2, 1) := by decide +kernel
theorem dX5_choose_63 : decode cX5_choose 63 = .ok (.bipush (-3), 2) := by decide +kernel
theorem dX5_choose_65 : decode cX5_choose 65 = .ok (.if_icmp .eq 12, 3) := by decide +kernel
theorem dX5_choose_68 : decode cX5_choose 68 = .ok (.iload 5, 2) := by decide +kernel
theorem dX5_choose_70 : decode cX5_choose 70 = .ok (.iload_n 3, 1) := by decide +kernel
theorem dX5_choose_71 : decode cX5_choose 71 = .ok (.if_icmp .eq 6, 3) := by decide +kernel
theorem dX5_choose_74 : decode cX5_choose 74 = .ok (.bipush (-2), 2) := by decide +kernel
theorem dX5_choose_76 : decode cX5_choose 76 = .ok (.ireturn, 1) := by decide +kernel
theorem dX5_choose_77 : decode cX5_choose 77 = .ok (.iload_n 2, 1) := by decide +kernel
theorem dX5_choose_78 : decode cX5_choose 78 = .ok (.bipush (-3), 2) := by decide +kernel
theorem dX5_choose_80 : decode cX5_choose 80 = .ok (.if_icmp .ne 9, 3) := by decide +kernel
theorem dX5_choose_83 : decode cX5_choose 83 = .ok (.iload 4, 2) := by decide +kernel
theorem dX5_choose_85 : decode cX5_choose 85 = .ok (.istore_n 2, 1) := by decide +kernel
theorem dX5_choose_86 : decode cX5_choose 86 = .ok (.iload 5, 2) := by decide +kernel
theorem dX5_choose_88 : decode cX5_choose 88 = .ok (.istore_n 3, 1) := by decide +kernel
theorem dX5_choose_89 : decode cX5_choose 89 = .ok (.iinc 4 1, 3) := by decide +kernel
theorem dX5_choose_92 : decode cX5_choose 92 = .ok (.goto (-65), 3) := by decide +kernel
theorem dX5_choose_95 : decode cX5_choose 95 = .ok (.iload_n 2, 1) := by decide +kernel
theorem dX5_choose_96 : decode cX5_choose 96 = .ok (.bipush (-3), 2) := by decide +kernel
theorem dX5_choose_98 : decode cX5_choose 98 = .ok (.if_icmp .eq 9, 3) := by decide +kernel
theorem dX5_choose_101 : decode cX5_choose 101 = .ok (.aload_n 0, 1) := by decide +kernel
theorem dX5_choose_102 : decode cX5_choose 102 = .ok (.aload_n 1, 1) := by decide +kernel
theorem dX5_choose_103 : decode cX5_choose 103 = .ok (.iload_n 2, 1) := by decide +kernel
theorem dX5_choose_104 : decode cX5_choose 104 = .ok (.invokevirtual 65, 3) := by decide +kernel
theorem dX5_choose_107 : decode cX5_choose 107 = .ok (.iload_n 2, 1) := by decide +kernel
theorem dX5_choose_108 : decode cX5_choose 108 = .ok (.ireturn, 1) := by decide +kernel
theorem dX5_refreshTold_0 : decode cX5_refreshTold 0 = .ok (.iconst 0, 1) := by decide +kernel
theorem dX5_refreshTold_1 : decode cX5_refreshTold 1 = .ok (.istore_n 1, 1) := by decide +kernel
theorem dX5_refreshTold_2 : decode cX5_refreshTold 2 = .ok (.iload_n 1, 1) := by decide +kernel
theorem dX5_refreshTold_3 : decode cX5_refreshTold 3 = .ok (.aload_n 0, 1) := by decide +kernel
theorem dX5_refreshTold_4 : decode cX5_refreshTold 4 = .ok (.getfield 25, 3) := by decide +kernel
theorem dX5_refreshTold_7 : decode cX5_refreshTold 7 = .ok (.invokevirtual 82, 3) := by decide +kernel
theorem dX5_refreshTold_10 : decode cX5_refreshTold 10 = .ok (.if_icmp .ge 73, 3) := by decide +kernel
theorem dX5_refreshTold_13 : decode cX5_refreshTold 13 = .ok (.iload_n 1, 1) := by decide +kernel
theorem dX5_refreshTold_14 : decode cX5_refreshTold 14 = .ok (.bipush 8, 2) := by decide +kernel
theorem dX5_refreshTold_16 : decode cX5_refreshTold 16 = .ok (.if_icmp .ge 67, 3) := by decide +kernel
theorem dX5_refreshTold_19 : decode cX5_refreshTold 19 = .ok (.aload_n 0, 1) := by decide +kernel
theorem dX5_refreshTold_20 : decode cX5_refreshTold 20 = .ok (.getfield 18, 3) := by decide +kernel
theorem dX5_refreshTold_23 : decode cX5_refreshTold 23 = .ok (.iload_n 1, 1) := by decide +kernel
theorem dX5_refreshTold_24 : decode cX5_refreshTold 24 = .ok (.iconst 0, 1) := by decide +kernel
theorem dX5_refreshTold_25 : decode cX5_refreshTold 25 = .ok (.iastore, 1) := by decide +kernel
theorem dX5_refreshTold_26 : decode cX5_refreshTold 26 = .ok (.aload_n 0, 1) := by decide +kernel
theorem dX5_refreshTold_27 : decode cX5_refreshTold 27 = .ok (.getfield 25, 3) := by decide +kernel
theorem dX5_refreshTold_30 : decode cX5_refreshTold 30 = .ok (.iload_n 1, 1) := by decide +kernel
theorem dX5_refreshTold_31 : decode cX5_refreshTold 31 = .ok (.invokevirtual 87, 3) := by decide +kernel
theorem dX5_refreshTold_34 : decode cX5_refreshTold 34 = .ok (.astore_n 2, 1) := by decide +kernel
theorem dX5_refreshTold_35 : decode cX5_refreshTold 35 = .ok (.aload_n 2, 1) := by decide +kernel
theorem dX5_refreshTold_36 : decode cX5_refreshTold 36 = .ok (.ifnull 41, 3) := by decide +kernel
theorem dX5_refreshTold_39 : decode cX5_refreshTold 39 = .ok (.aload_n 0, 1) := by decide +kernel
theorem dX5_refreshTold_40 : decode cX5_refreshTold 40 = .ok (.aload_n 2, 1) := by decide +kernel
theorem dX5_refreshTold_41 : decode cX5_refreshTold 41 = .ok (.aload_n 0, 1) := by decide +kernel
theorem dX5_refreshTold_42 : decode cX5_refreshTold 42 = .ok (.getfield 25, 3) := by decide +kernel
theorem dX5_refreshTold_45 : decode cX5_refreshTold 45 = .ok (.iload_n 1, 1) := by decide +kernel
theorem dX5_refreshTold_46 : decode cX5_refreshTold 46 = .ok (.invokevirtual 90, 3) := by decide +kernel
theorem dX5_refreshTold_49 : decode cX5_refreshTold 49 = .ok (.invokevirtual 61, 3) := by decide +kernel
theorem dX5_refreshTold_52 : decode cX5_refreshTold 52 = .ok (.aload_n 0, 1) := by decide +kernel
theorem dX5_refreshTold_53 : decode cX5_refreshTold 53 = .ok (.aload_n 2, 1) := by decide +kernel
theorem dX5_refreshTold_54 : decode cX5_refreshTold 54 = .ok (.aload_n 0, 1) := by decide +kernel
theorem dX5_refreshTold_55 : decode cX5_refreshTold 55 = .ok (.getfield 25, 3) := by decide +kernel
theorem dX5_refreshTold_58 : decode cX5_refreshTold 58 = .ok (.iload_n 1, 1) := by decide +kernel
theorem dX5_refreshTold_59 : decode cX5_refreshTold 59 = .ok (.invokevirtual 94, 3) := by decide +kernel
theorem dX5_refreshTold_62 : decode cX5_refreshTold 62 = .ok (.invokevirtual 97, 3) := by decide +kernel
theorem dX5_refreshTold_65 : decode cX5_refreshTold 65 = .ok (.aload_n 0, 1) := by decide +kernel
theorem dX5_refreshTold_66 : decode cX5_refreshTold 66 = .ok (.getfield 18, 3) := by decide +kernel
theorem dX5_refreshTold_69 : decode cX5_refreshTold 69 = .ok (.iload_n 1, 1) := by decide +kernel
theorem dX5_refreshTold_70 : decode cX5_refreshTold 70 = .ok (.aload_n 0, 1) := by decide +kernel
theorem dX5_refreshTold_71 : decode cX5_refreshTold 71 = .ok (.getfield 15, 3) := by decide +kernel
theorem dX5_refreshTold_74 : decode cX5_refreshTold 74 = .ok (.iconst 0, 1) := by decide +kernel
theorem dX5_refreshTold_75 : decode cX5_refreshTold 75 = .ok (.iaload, 1) := by decide +kernel
theorem dX5_refreshTold_76 : decode cX5_refreshTold 76 = .ok (.iastore, 1) := by decide +kernel
theorem dX5_refreshTold_77 : decode cX5_refreshTold 77 = .ok (.iinc 1 1, 3) := by decide +kernel
theorem dX5_refreshTold_80 : decode cX5_refreshTold 80 = .ok (.goto (-78), 3) := by decide +kernel
theorem dX5_refreshTold_83 : decode cX5_refreshTold 83 = .ok (.return_, 1) := by decide +kernel
theorem dX5_weigh_0 : decode cX5_weigh 0 = .ok (.aload_n 1, 1) := by decide +kernel
theorem dX5_weigh_1 : decode cX5_weigh 1 = .ok (.getfield 69, 3) := by decide +kernel
theorem dX5_weigh_4 : decode cX5_weigh 4 = .ok (.iload_n 2, 1) := by decide +kernel
theorem dX5_weigh_5 : decode cX5_weigh 5 = .ok (.invokevirtual 100, 3) := by decide +kernel
theorem dX5_weigh_8 : decode cX5_weigh 8 = .ok (.istore_n 3, 1) := by decide +kernel
theorem dX5_weigh_9 : decode cX5_weigh 9 = .ok (.aload_n 0, 1) := by decide +kernel
theorem dX5_weigh_10 : decode cX5_weigh 10 = .ok (.aload_n 1, 1) := by decide +kernel
theorem dX5_weigh_11 : decode cX5_weigh 11 = .ok (.getfield 49, 3) := by decide +kernel
theorem dX5_weigh_14 : decode cX5_weigh 14 = .ok (.iload_n 3, 1) := by decide +kernel
theorem dX5_weigh_15 : decode cX5_weigh 15 = .ok (.invokevirtual 97, 3) := by decide +kernel
theorem dX5_weigh_18 : decode cX5_weigh 18 = .ok (.aload_n 0, 1) := by decide +kernel
theorem dX5_weigh_19 : decode cX5_weigh 19 = .ok (.iconst (-1), 1) := by decide +kernel
theorem dX5_weigh_20 : decode cX5_weigh 20 = .ok (.putfield 37, 3) := by decide +kernel
theorem dX5_weigh_23 : decode cX5_weigh 23 = .ok (.aload_n 0, 1) := by decide +kernel
theorem dX5_weigh_24 : decode cX5_weigh 24 = .ok (.iconst (-1), 1) := by decide +kernel
theorem dX5_weigh_25 : decode cX5_weigh 25 = .ok (.putfield 40, 3) := by decide +kernel
theorem dX5_weigh_28 : decode cX5_weigh 28 = .ok (.aload_n 0, 1) := by decide +kernel
theorem dX5_weigh_29 : decode cX5_weigh 29 = .ok (.iconst (-1), 1) := by decide +kernel
theorem dX5_weigh_30 : decode cX5_weigh 30 = .ok (.putfield 43, 3) := by decide +kernel
theorem dX5_weigh_33 : decode cX5_weigh 33 = .ok (.iconst 0, 1) := by decide +kernel
theorem dX5_weigh_34 : decode cX5_weigh 34 = .ok (.istore 4, 2) := by decide +kernel
theorem dX5_weigh_36 : decode cX5_weigh 36 = .ok (.iload 4, 2) := by decide +kernel
theorem dX5_weigh_38 : decode cX5_weigh 38 = .ok (.aload_n 1, 1) := by decide +kernel
theorem dX5_weigh_39 : decode cX5_weigh 39 = .ok (.getfield 49, 3) := by decide +kernel
theorem dX5_weigh_42 : decode cX5_weigh 42 = .ok (.invokevirtual 101, 3) := by decide +kernel
theorem dX5_weigh_45 : decode cX5_weigh 45 = .ok (.if_icmp .ge 45, 3) := by decide +kernel
theorem dX5_weigh_48 : decode cX5_weigh 48 = .ok (.aload_n 0, 1) := by decide +kernel
theorem dX5_weigh_49 : decode cX5_weigh 49 = .ok (.aload_n 1, 1) := by decide +kernel
theorem dX5_weigh_50 : decode cX5_weigh 50 = .ok (.getfield 49, 3) := by decide +kernel
theorem dX5_weigh_53 : decode cX5_weigh 53 = .ok (.iload 4, 2) := by decide +kernel
theorem dX5_weigh_55 : decode cX5_weigh 55 = .ok (.invokevirtual 106, 3) := by decide +kernel
theorem dX5_weigh_58 : decode cX5_weigh 58 = .ok (.aload_n 0, 1) := by decide +kernel
theorem dX5_weigh_59 : decode cX5_weigh 59 = .ok (.iload 4, 2) := by decide +kernel
theorem dX5_weigh_61 : decode cX5_weigh 61 = .ok (.invokevirtual 109, 3) := by decide +kernel
theorem dX5_weigh_64 : decode cX5_weigh 64 = .ok (.invokestatic 112, 3) := by decide +kernel
theorem dX5_weigh_67 : decode cX5_weigh 67 = .ok (.putfield 33, 3) := by decide +kernel
theorem dX5_weigh_70 : decode cX5_weigh 70 = .ok (.aload_n 0, 1) := by decide +kernel
theorem dX5_weigh_71 : decode cX5_weigh 71 = .ok (.getfield 33, 3) := by decide +kernel
theorem dX5_weigh_74 : decode cX5_weigh 74 = .ok (.ifCond .eq 10, 3) := by decide +kernel
theorem dX5_weigh_77 : decode cX5_weigh 77 = .ok (.aload_n 0, 1) := by decide +kernel
theorem dX5_weigh_78 : decode cX5_weigh 78 = .ok (.iload 4, 2) := by decide +kernel
theorem dX5_weigh_80 : decode cX5_weigh 80 = .ok (.putfield 37, 3) := by decide +kernel
theorem dX5_weigh_83 : decode cX5_weigh 83 = .ok (.return_, 1) := by decide +kernel
theorem dX5_weigh_84 : decode cX5_weigh 84 = .ok (.iinc 4 1, 3) := by decide +kernel
theorem dX5_weigh_87 : decode cX5_weigh 87 = .ok (.goto (-51), 3) := by decide +kernel
theorem dX5_weigh_90 : decode cX5_weigh 90 = .ok (.aload_n 0, 1) := by decide +kernel
theorem dX5_weigh_91 : decode cX5_weigh 91 = .ok (.aload_n 0, 1) := by decide +kernel
theorem dX5_weigh_92 : decode cX5_weigh 92 = .ok (.aload_n 1, 1) := by decide +kernel
theorem dX5_weigh_93 : decode cX5_weigh 93 = .ok (.iload_n 3, 1) := by decide +kernel
theorem dX5_weigh_94 : decode cX5_weigh 94 = .ok (.invokevirtual 116, 3) := by decide +kernel
theorem dX5_weigh_97 : decode cX5_weigh 97 = .ok (.ifCond .eq 7, 3) := by decide +kernel
theorem dX5_weigh_100 : decode cX5_weigh 100 = .ok (.iconst 0, 1) := by decide +kernel
theorem dX5_weigh_101 : decode cX5_weigh 101 = .ok (.goto 4, 3) := by decide +kernel
theorem dX5_weigh_104 : decode cX5_weigh 104 = .ok (.iconst 5, 1) := by decide +kernel
theorem dX5_weigh_105 : decode cX5_weigh 105 = .ok (.putfield 33, 3) := by decide +kernel
theorem dX5_weigh_108 : decode cX5_weigh 108 = .ok (.return_, 1) := by decide +kernel
theorem dX5_linkAll_0 : decode cX5_linkAll 0 = .ok (.aload_n 1, 1) := by decide +kernel
theorem dX5_linkAll_1 : decode cX5_linkAll 1 = .ok (.invokevirtual 101, 3) := by decide +kernel
theorem dX5_linkAll_4 : decode cX5_linkAll 4 = .ok (.bipush 7, 2) := by decide +kernel
theorem dX5_linkAll_6 : decode cX5_linkAll 6 = .ok (.invokestatic 120, 3) := by decide +kernel
theorem dX5_linkAll_9 : decode cX5_linkAll 9 = .ok (.iconst 1, 1) := by decide +kernel
theorem dX5_linkAll_10 : decode cX5_linkAll 10 = .ok (.isub, 1) := by decide +kernel
theorem dX5_linkAll_11 : decode cX5_linkAll 11 = .ok (.istore_n 3, 1) := by decide +kernel
theorem dX5_linkAll_12 : decode cX5_linkAll 12 = .ok (.iload_n 3, 1) := by decide +kernel
theorem dX5_linkAll_13 : decode cX5_linkAll 13 = .ok (.ifCond .lt 80, 3) := by decide +kernel
theorem dX5_linkAll_16 : decode cX5_linkAll 16 = .ok (.aload_n 0, 1) := by decide +kernel
theorem dX5_linkAll_17 : decode cX5_linkAll 17 = .ok (.getfield 9, 3) := by decide +kernel
theorem dX5_linkAll_20 : decode cX5_linkAll 20 = .ok (.iload_n 3, 1) := by decide +kernel
theorem dX5_linkAll_21 : decode cX5_linkAll 21 = .ok (.iaload, 1) := by decide +kernel
theorem dX5_linkAll_22 : decode cX5_linkAll 22 = .ok (.istore 4, 2) := by decide +kernel
theorem dX5_linkAll_24 : decode cX5_linkAll 24 = .ok (.iload_n 3, 1) := by decide +kernel
theorem dX5_linkAll_25 : decode cX5_linkAll 25 = .ok (.istore 5, 2) := by decide +kernel
theorem dX5_linkAll_27 : decode cX5_linkAll 27 = .ok (.iload 5, 2) := by decide +kernel
theorem dX5_linkAll_29 : decode cX5_linkAll 29 = .ok (.aload_n 1, 1) := by decide +kernel
theorem dX5_linkAll_30 : decode cX5_linkAll 30 = .ok (.invokevirtual 125, 3) := by decide +kernel
theorem dX5_linkAll_33 : decode cX5_linkAll 33 = .ok (.if_icmp .ge 46, 3) := by decide +kernel
theorem dX5_linkAll_36 : decode cX5_linkAll 36 = .ok (.iload_n 2, 1) := by decide +kernel
theorem dX5_linkAll_37 : decode cX5_linkAll 37 = .ok (.iload 5, 2) := by decide +kernel
theorem dX5_linkAll_39 : decode cX5_linkAll 39 = .ok (.invokestatic 128, 3) := by decide +kernel
theorem dX5_linkAll_42 : decode cX5_linkAll 42 = .ok (.iload_n 3, 1) := by decide +kernel
theorem dX5_linkAll_43 : decode cX5_linkAll 43 = .ok (.iconst 1, 1) := by decide +kernel
theorem dX5_linkAll_44 : decode cX5_linkAll 44 = .ok (.iadd, 1) := by decide +kernel
theorem dX5_linkAll_45 : decode cX5_linkAll 45 = .ok (.if_icmp .ne 28, 3) := by decide +kernel
theorem dX5_linkAll_48 : decode cX5_linkAll 48 = .ok (.aload_n 0, 1) := by decide +kernel
theorem dX5_linkAll_49 : decode cX5_linkAll 49 = .ok (.getfield 21, 3) := by decide +kernel
theorem dX5_linkAll_52 : decode cX5_linkAll 52 = .ok (.iload 4, 2) := by decide +kernel
theorem dX5_linkAll_54 : decode cX5_linkAll 54 = .ok (.aload_n 1, 1) := by decide +kernel
theorem dX5_linkAll_55 : decode cX5_linkAll 55 = .ok (.iload 5, 2) := by decide +kernel
theorem dX5_linkAll_57 : decode cX5_linkAll 57 = .ok (.invokevirtual 131, 3) := by decide +kernel
theorem dX5_linkAll_60 : decode cX5_linkAll 60 = .ok (.aload_n 0, 1) := by decide +kernel
theorem dX5_linkAll_61 : decode cX5_linkAll 61 = .ok (.iload 5, 2) := by decide +kernel
theorem dX5_linkAll_63 : decode cX5_linkAll 63 = .ok (.iconst 1, 1) := by decide +kernel
theorem dX5_linkAll_64 : decode cX5_linkAll 64 = .ok (.iadd, 1) := by decide +kernel
theorem dX5_linkAll_65 : decode cX5_linkAll 65 = .ok (.invokevirtual 109, 3) := by decide +kernel
theorem dX5_linkAll_68 : decode cX5_linkAll 68 = .ok (.invokevirtual 134, 3) := by decide +kernel
theorem dX5_linkAll_71 : decode cX5_linkAll 71 = .ok (.istore 4, 2) := by decide +kernel
theorem dX5_linkAll_73 : decode cX5_linkAll 73 = .ok (.iinc 5 1, 3) := by decide +kernel
theorem dX5_linkAll_76 : decode cX5_linkAll 76 = .ok (.goto (-49), 3) := by decide +kernel
theorem dX5_linkAll_79 : decode cX5_linkAll 79 = .ok (.aload_n 0, 1) := by decide +kernel
theorem dX5_linkAll_80 : decode cX5_linkAll 80 = .ok (.getfield 15, 3) := by decide +kernel
theorem dX5_linkAll_83 : decode cX5_linkAll 83 = .ok (.iload_n 3, 1) := by decide +kernel
theorem dX5_linkAll_84 : decode cX5_linkAll 84 = .ok (.iload 4, 2) := by decide +kernel
theorem dX5_linkAll_86 : decode cX5_linkAll 86 = .ok (.iastore, 1) := by decide +kernel
theorem dX5_linkAll_87 : decode cX5_linkAll 87 = .ok (.iinc 3 (-1), 3) := by decide +kernel
theorem dX5_linkAll_90 : decode cX5_linkAll 90 = .ok (.goto (-78), 3) := by decide +kernel
theorem dX5_linkAll_93 : decode cX5_linkAll 93 = .ok (.return_, 1) := by decide +kernel
theorem dX5_lookAlone_0 : decode cX5_lookAlone 0 = .ok (.iconst 0, 1) := by decide +kernel
theorem dX5_lookAlone_1 : decode cX5_lookAlone 1 = .ok (.istore_n 3, 1) := by decide +kernel
theorem dX5_lookAlone_2 : decode cX5_lookAlone 2 = .ok (.iload_n 3, 1) := by decide +kernel
theorem dX5_lookAlone_3 : decode cX5_lookAlone 3 = .ok (.aload_n 1, 1) := by decide +kernel
theorem dX5_lookAlone_4 : decode cX5_lookAlone 4 = .ok (.invokevirtual 101, 3) := by decide +kernel
theorem dX5_lookAlone_7 : decode cX5_lookAlone 7 = .ok (.if_icmp .ge 28, 3) := by decide +kernel
theorem dX5_lookAlone_10 : decode cX5_lookAlone 10 = .ok (.iload_n 3, 1) := by decide +kernel
theorem dX5_lookAlone_11 : decode cX5_lookAlone 11 = .ok (.bipush 7, 2) := by decide +kernel
theorem dX5_lookAlone_13 : decode cX5_lookAlone 13 = .ok (.if_icmp .ge 22, 3) := by decide +kernel
theorem dX5_lookAlone_16 : decode cX5_lookAlone 16 = .ok (.aload_n 0, 1) := by decide +kernel
theorem dX5_lookAlone_17 : decode cX5_lookAlone 17 = .ok (.getfield 9, 3) := by decide +kernel
theorem dX5_lookAlone_20 : decode cX5_lookAlone 20 = .ok (.iload_n 3, 1) := by decide +kernel
theorem dX5_lookAlone_21 : decode cX5_lookAlone 21 = .ok (.aload_n 0, 1) := by decide +kernel
theorem dX5_lookAlone_22 : decode cX5_lookAlone 22 = .ok (.aload_n 1, 1) := by decide +kernel
theorem dX5_lookAlone_23 : decode cX5_lookAlone 23 = .ok (.iload_n 3, 1) := by decide +kernel
theorem dX5_lookAlone_24 : decode cX5_lookAlone 24 = .ok (.iload_n 2, 1) := by decide +kernel
theorem dX5_lookAlone_25 : decode cX5_lookAlone 25 = .ok (.invokevirtual 140, 3) := by decide +kernel
theorem dX5_lookAlone_28 : decode cX5_lookAlone 28 = .ok (.iastore, 1) := by decide +kernel
theorem dX5_lookAlone_29 : decode cX5_lookAlone 29 = .ok (.iinc 3 1, 3) := by decide +kernel
theorem dX5_lookAlone_32 : decode cX5_lookAlone 32 = .ok (.goto (-30), 3) := by decide +kernel
theorem dX5_lookAlone_35 : decode cX5_lookAlone 35 = .ok (.return_, 1) := by decide +kernel
theorem dX5_meantAlone_0 : decode cX5_meantAlone 0 = .ok (.aload_n 1, 1) := by decide +kernel
theorem dX5_meantAlone_1 : decode cX5_meantAlone 1 = .ok (.iload_n 2, 1) := by decide +kernel
theorem dX5_meantAlone_2 : decode cX5_meantAlone 2 = .ok (.invokevirtual 106, 3) := by decide +kernel
theorem dX5_meantAlone_5 : decode cX5_meantAlone 5 = .ok (.lookupswitch 52 #[(23, 27), (24, 40)], 27) := by decide +kernel
theorem dX5_meantAlone_32 : decode cX5_meantAlone 32 = .ok (.aload_n 0, 1) := by decide +kernel
theorem dX5_meantAlone_33 : decode cX5_meantAlone 33 = .ok (.aload_n 0, 1) := by decide +kernel
theorem dX5_meantAlone_34 : decode cX5_meantAlone 34 = .ok (.getfield 29, 3) := by decide +kernel
theorem dX5_meantAlone_37 : decode cX5_meantAlone 37 = .ok (.iconst 0, 1) := by decide +kernel
theorem dX5_meantAlone_38 : decode cX5_meantAlone 38 = .ok (.invokevirtual 144, 3) := by decide +kernel
theorem dX5_meantAlone_41 : decode cX5_meantAlone 41 = .ok (.invokevirtual 147, 3) := by decide +kernel
theorem dX5_meantAlone_44 : decode cX5_meantAlone 44 = .ok (.ireturn, 1) := by decide +kernel
theorem dX5_meantAlone_45 : decode cX5_meantAlone 45 = .ok (.aload_n 0, 1) := by decide +kernel
theorem dX5_meantAlone_46 : decode cX5_meantAlone 46 = .ok (.aload_n 0, 1) := by decide +kernel
theorem dX5_meantAlone_47 : decode cX5_meantAlone 47 = .ok (.getfield 21, 3) := by decide +kernel
theorem dX5_meantAlone_50 : decode cX5_meantAlone 50 = .ok (.invokevirtual 150, 3) := by decide +kernel
theorem dX5_meantAlone_53 : decode cX5_meantAlone 53 = .ok (.invokevirtual 147, 3) := by decide +kernel
theorem dX5_meantAlone_56 : decode cX5_meantAlone 56 = .ok (.ireturn, 1) := by decide +kernel
theorem dX5_meantAlone_57 : decode cX5_meantAlone 57 = .ok (.aload_n 1, 1) := by decide +kernel
theorem dX5_meantAlone_58 : decode cX5_meantAlone 58 = .ok (.iload_n 2, 1) := by decide +kernel
theorem dX5_meantAlone_59 : decode cX5_meantAlone 59 = .ok (.invokevirtual 153, 3) := by decide +kernel
theorem dX5_meantAlone_62 : decode cX5_meantAlone 62 = .ok (.istore 4, 2) := by decide +kernel
theorem dX5_meantAlone_64 : decode cX5_meantAlone 64 = .ok (.aload_n 0, 1) := by decide +kernel
theorem dX5_meantAlone_65 : decode cX5_meantAlone 65 = .ok (.aload_n 1, 1) := by decide +kernel
theorem dX5_meantAlone_66 : decode cX5_meantAlone 66 = .ok (.iload_n 2, 1) := by decide +kernel
theorem dX5_meantAlone_67 : decode cX5_meantAlone 67 = .ok (.aload_n 0, 1) := by decide +kernel
theorem dX5_meantAlone_68 : decode cX5_meantAlone 68 = .ok (.iload 4, 2) := by decide +kernel
theorem dX5_meantAlone_70 : decode cX5_meantAlone 70 = .ok (.iconst 4, 1) := by decide +kernel
theorem dX5_meantAlone_71 : decode cX5_meantAlone 71 = .ok (.if_icmp .ne 7, 3) := by decide +kernel
theorem dX5_meantAlone_74 : decode cX5_meantAlone 74 = .ok (.iload_n 3, 1) := by decide +kernel
theorem dX5_meantAlone_75 : decode cX5_meantAlone 75 = .ok (.goto 5, 3) := by decide +kernel
theorem dX5_meantAlone_78 : decode cX5_meantAlone 78 = .ok (.iload 4, 2) := by decide +kernel
theorem dX5_meantAlone_80 : decode cX5_meantAlone 80 = .ok (.invokevirtual 156, 3) := by decide +kernel
theorem dX5_meantAlone_83 : decode cX5_meantAlone 83 = .ok (.invokevirtual 159, 3) := by decide +kernel
theorem dX5_meantAlone_86 : decode cX5_meantAlone 86 = .ok (.ireturn, 1) := by decide +kernel
theorem dX5_justThis_0 : decode cX5_justThis 0 = .ok (.aload_n 0, 1) := by decide +kernel
theorem dX5_justThis_1 : decode cX5_justThis 1 = .ok (.getfield 21, 3) := by decide +kernel
theorem dX5_justThis_4 : decode cX5_justThis 4 = .ok (.iload_n 1, 1) := by decide +kernel
theorem dX5_justThis_5 : decode cX5_justThis 5 = .ok (.invokevirtual 162, 3) := by decide +kernel
theorem dX5_justThis_8 : decode cX5_justThis 8 = .ok (.ifCond .eq 9, 3) := by decide +kernel
theorem dX5_justThis_11 : decode cX5_justThis 11 = .ok (.iconst 1, 1) := by decide +kernel
theorem dX5_justThis_12 : decode cX5_justThis 12 = .ok (.iload_n 1, 1) := by decide +kernel
theorem dX5_justThis_13 : decode cX5_justThis 13 = .ok (.ishl, 1) := by decide +kernel
theorem dX5_justThis_14 : decode cX5_justThis 14 = .ok (.goto 4, 3) := by decide +kernel
theorem dX5_justThis_17 : decode cX5_justThis 17 = .ok (.iconst 0, 1) := by decide +kernel
theorem dX5_justThis_18 : decode cX5_justThis 18 = .ok (.ireturn, 1) := by decide +kernel
theorem dX5_meantByNoun_0 : decode cX5_meantByNoun 0 = .ok (.iload_n 1, 1) := by decide +kernel
theorem dX5_meantByNoun_1 : decode cX5_meantByNoun 1 = .ok (.bipush 29, 2) := by decide +kernel
theorem dX5_meantByNoun_3 : decode cX5_meantByNoun 3 = .ok (.if_icmp .lt 19, 3) := by decide +kernel
theorem dX5_meantByNoun_6 : decode cX5_meantByNoun 6 = .ok (.iload_n 1, 1) := by decide +kernel
theorem dX5_meantByNoun_7 : decode cX5_meantByNoun 7 = .ok (.bipush 37, 2) := by decide +kernel
theorem dX5_meantByNoun_9 : decode cX5_meantByNoun 9 = .ok (.if_icmp .ge 13, 3) := by decide +kernel
theorem dX5_meantByNoun_12 : decode cX5_meantByNoun 12 = .ok (.aload_n 0, 1) := by decide +kernel
theorem dX5_meantByNoun_13 : decode cX5_meantByNoun 13 = .ok (.getfield 18, 3) := by decide +kernel
theorem dX5_meantByNoun_16 : decode cX5_meantByNoun 16 = .ok (.iload_n 1, 1) := by decide +kernel
theorem dX5_meantByNoun_17 : decode cX5_meantByNoun 17 = .ok (.bipush 29, 2) := by decide +kernel
theorem dX5_meantByNoun_19 : decode cX5_meantByNoun 19 = .ok (.isub, 1) := by decide +kernel
theorem dX5_meantByNoun_20 : decode cX5_meantByNoun 20 = .ok (.iaload, 1) := by decide +kernel
theorem dX5_meantByNoun_21 : decode cX5_meantByNoun 21 = .ok (.ireturn, 1) := by decide +kernel
theorem dX5_meantByNoun_22 : decode cX5_meantByNoun 22 = .ok (.iload_n 1, 1) := by decide +kernel
theorem dX5_meantByNoun_23 : decode cX5_meantByNoun 23 = .ok (.ifCond .lt 19, 3) := by decide +kernel
theorem dX5_meantByNoun_26 : decode cX5_meantByNoun 26 = .ok (.iload_n 1, 1) := by decide +kernel
theorem dX5_meantByNoun_27 : decode cX5_meantByNoun 27 = .ok (.iconst 4, 1) := by decide +kernel
theorem dX5_meantByNoun_28 : decode cX5_meantByNoun 28 = .ok (.if_icmp .ge 14, 3) := by decide +kernel
theorem dX5_meantByNoun_31 : decode cX5_meantByNoun 31 = .ok (.aload_n 0, 1) := by decide +kernel
theorem dX5_meantByNoun_32 : decode cX5_meantByNoun 32 = .ok (.getfield 21, 3) := by decide +kernel
theorem dX5_meantByNoun_35 : decode cX5_meantByNoun 35 = .ok (.iload_n 1, 1) := by decide +kernel
theorem dX5_meantByNoun_36 : decode cX5_meantByNoun 36 = .ok (.invokevirtual 166, 3) := by decide +kernel
theorem dX5_meantByNoun_39 : decode cX5_meantByNoun 39 = .ok (.goto 4, 3) := by decide +kernel
theorem dX5_meantByNoun_42 : decode cX5_meantByNoun 42 = .ok (.iconst 0, 1) := by decide +kernel
theorem dX5_meantByNoun_43 : decode cX5_meantByNoun 43 = .ok (.ireturn, 1) := by decide +kernel
theorem dX5_thoseLooking_0 : decode cX5_thoseLooking 0 = .ok (.iload_n 3, 1) := by decide +kernel
theorem dX5_thoseLooking_1 : decode cX5_thoseLooking 1 = .ok (.istore 4, 2) := by decide +kernel
theorem dX5_thoseLooking_3 : decode cX5_thoseLooking 3 = .ok (.iconst 5, 1) := by decide +kernel
theorem dX5_thoseLooking_4 : decode cX5_thoseLooking 4 = .ok (.istore 5, 2) := by decide +kernel
theorem dX5_thoseLooking_6 : decode cX5_thoseLooking 6 = .ok (.iload 5, 2) := by decide +kernel
theorem dX5_thoseLooking_8 : decode cX5_thoseLooking 8 = .ok (.bipush 10, 2) := by decide +kernel
theorem dX5_thoseLooking_10 : decode cX5_thoseLooking 10 = .ok (.if_icmp .gt 65, 3) := by decide +kernel
theorem dX5_thoseLooking_13 : decode cX5_thoseLooking 13 = .ok (.aload_n 1, 1) := by decide +kernel
theorem dX5_thoseLooking_14 : decode cX5_thoseLooking 14 = .ok (.iload_n 2, 1) := by decide +kernel
theorem dX5_thoseLooking_15 : decode cX5_thoseLooking 15 = .ok (.iload 5, 2) := by decide +kernel
theorem dX5_thoseLooking_17 : decode cX5_thoseLooking 17 = .ok (.invokevirtual 169, 3) := by decide +kernel
theorem dX5_thoseLooking_20 : decode cX5_thoseLooking 20 = .ok (.ifCond .eq 49, 3) := by decide +kernel
theorem dX5_thoseLooking_23 : decode cX5_thoseLooking 23 = .ok (.iconst 0, 1) := by decide +kernel
theorem dX5_thoseLooking_24 : decode cX5_thoseLooking 24 = .ok (.istore 6, 2) := by decide +kernel
theorem dX5_thoseLooking_26 : decode cX5_thoseLooking 26 = .ok (.iload 6, 2) := by decide +kernel
theorem dX5_thoseLooking_28 : decode cX5_thoseLooking 28 = .ok (.aload_n 0, 1) := by decide +kernel
theorem dX5_thoseLooking_29 : decode cX5_thoseLooking 29 = .ok (.getfield 21, 3) := by decide +kernel
theorem dX5_thoseLooking_32 : decode cX5_thoseLooking 32 = .ok (.invokevirtual 173, 3) := by decide +kernel
theorem dX5_thoseLooking_35 : decode cX5_thoseLooking 35 = .ok (.if_icmp .ge 34, 3) := by decide +kernel
theorem dX5_thoseLooking_38 : decode cX5_thoseLooking 38 = .ok (.aload_n 0, 1) := by decide +kernel
theorem dX5_thoseLooking_39 : decode cX5_thoseLooking 39 = .ok (.getfield 21, 3) := by decide +kernel
theorem dX5_thoseLooking_42 : decode cX5_thoseLooking 42 = .ok (.iload 6, 2) := by decide +kernel
theorem dX5_thoseLooking_44 : decode cX5_thoseLooking 44 = .ok (.iload 5, 2) := by decide +kernel
theorem dX5_thoseLooking_46 : decode cX5_thoseLooking 46 = .ok (.invokevirtual 176, 3) := by decide +kernel
theorem dX5_thoseLooking_49 : decode cX5_thoseLooking 49 = .ok (.ifCond .ne 14, 3) := by decide +kernel
theorem dX5_thoseLooking_52 : decode cX5_thoseLooking 52 = .ok (.iload 4, 2) := by decide +kernel
theorem dX5_thoseLooking_54 : decode cX5_thoseLooking 54 = .ok (.iconst 1, 1) := by decide +kernel
theorem dX5_thoseLooking_55 : decode cX5_thoseLooking 55 = .ok (.iload 6, 2) := by decide +kernel
theorem dX5_thoseLooking_57 : decode cX5_thoseLooking 57 = .ok (.ishl, 1) := by decide +kernel
theorem dX5_thoseLooking_58 : decode cX5_thoseLooking 58 = .ok (.iconst (-1), 1) := by decide +kernel
theorem dX5_thoseLooking_59 : decode cX5_thoseLooking 59 = .ok (.ixor, 1) := by decide +kernel
theorem dX5_thoseLooking_60 : decode cX5_thoseLooking 60 = .ok (.iand, 1) := by decide +kernel
theorem dX5_thoseLooking_61 : decode cX5_thoseLooking 61 = .ok (.istore 4, 2) := by decide +kernel
theorem dX5_thoseLooking_63 : decode cX5_thoseLooking 63 = .ok (.iinc 6 1, 3) := by decide +kernel
theorem dX5_thoseLooking_66 : decode cX5_thoseLooking 66 = .ok (.goto (-40), 3) := by decide +kernel
theorem dX5_thoseLooking_69 : decode cX5_thoseLooking 69 = .ok (.iinc 5 1, 3) := by decide +kernel
theorem dX5_thoseLooking_72 : decode cX5_thoseLooking 72 = .ok (.goto (-66), 3) := by decide +kernel
theorem dX5_thoseLooking_75 : decode cX5_thoseLooking 75 = .ok (.iload 4, 2) := by decide +kernel
theorem dX5_thoseLooking_77 : decode cX5_thoseLooking 77 = .ok (.ireturn, 1) := by decide +kernel
theorem dX5_troubleOfNp_0 : decode cX5_troubleOfNp 0 = .ok (.iload_n 0, 1) := by decide +kernel
theorem dX5_troubleOfNp_1 : decode cX5_troubleOfNp 1 = .ok (.tableswitch 73 21 24 #[31, 53, 63, 63], 31) := by decide +kernel
theorem dX5_troubleOfNp_32 : decode cX5_troubleOfNp 32 = .ok (.iload_n 1, 1) := by decide +kernel
theorem dX5_troubleOfNp_33 : decode cX5_troubleOfNp 33 = .ok (.ifCond .ne 7, 3) := by decide +kernel
theorem dX5_troubleOfNp_36 : decode cX5_troubleOfNp 36 = .ok (.iconst 1, 1) := by decide +kernel
theorem dX5_troubleOfNp_37 : decode cX5_troubleOfNp 37 = .ok (.goto 16, 3) := by decide +kernel
theorem dX5_troubleOfNp_40 : decode cX5_troubleOfNp 40 = .ok (.iload_n 1, 1) := by decide +kernel
theorem dX5_troubleOfNp_41 : decode cX5_troubleOfNp 41 = .ok (.invokestatic 179, 3) := by decide +kernel
theorem dX5_troubleOfNp_44 : decode cX5_troubleOfNp 44 = .ok (.iconst 1, 1) := by decide +kernel
theorem dX5_troubleOfNp_45 : decode cX5_troubleOfNp 45 = .ok (.if_icmp .le 7, 3) := by decide +kernel
theorem dX5_troubleOfNp_48 : decode cX5_troubleOfNp 48 = .ok (.iconst 2, 1) := by decide +kernel
theorem dX5_troubleOfNp_49 : decode cX5_troubleOfNp 49 = .ok (.goto 4, 3) := by decide +kernel
theorem dX5_troubleOfNp_52 : decode cX5_troubleOfNp 52 = .ok (.iconst 0, 1) := by decide +kernel
theorem dX5_troubleOfNp_53 : decode cX5_troubleOfNp 53 = .ok (.ireturn, 1) := by decide +kernel
theorem dX5_troubleOfNp_54 : decode cX5_troubleOfNp 54 = .ok (.iload_n 1, 1) := by decide +kernel
theorem dX5_troubleOfNp_55 : decode cX5_troubleOfNp 55 = .ok (.ifCond .ne 7, 3) := by decide +kernel
theorem dX5_troubleOfNp_58 : decode cX5_troubleOfNp 58 = .ok (.iconst 3, 1) := by decide +kernel
theorem dX5_troubleOfNp_59 : decode cX5_troubleOfNp 59 = .ok (.goto 4, 3) := by decide +kernel
theorem dX5_troubleOfNp_62 : decode cX5_troubleOfNp 62 = .ok (.iconst 0, 1) := by decide +kernel
theorem dX5_troubleOfNp_63 : decode cX5_troubleOfNp 63 = .ok (.ireturn, 1) := by decide +kernel
theorem dX5_troubleOfNp_64 : decode cX5_troubleOfNp 64 = .ok (.iload_n 1, 1) := by decide +kernel
theorem dX5_troubleOfNp_65 : decode cX5_troubleOfNp 65 = .ok (.ifCond .ne 7, 3) := by decide +kernel
theorem dX5_troubleOfNp_68 : decode cX5_troubleOfNp 68 = .ok (.iconst 4, 1) := by decide +kernel
theorem dX5_troubleOfNp_69 : decode cX5_troubleOfNp 69 = .ok (.goto 4, 3) := by decide +kernel
theorem dX5_troubleOfNp_72 : decode cX5_troubleOfNp 72 = .ok (.iconst 0, 1) := by decide +kernel
theorem dX5_troubleOfNp_73 : decode cX5_troubleOfNp 73 = .ok (.ireturn, 1) := by decide +kernel
theorem dX5_troubleOfNp_74 : decode cX5_troubleOfNp 74 = .ok (.iconst 0, 1) := by decide +kernel
theorem dX5_troubleOfNp_75 : decode cX5_troubleOfNp 75 = .ok (.ireturn, 1) := by decide +kernel
theorem dX5_canBeDone_0 : decode cX5_canBeDone 0 = .ok (.aload_n 1, 1) := by decide +kernel
theorem dX5_canBeDone_1 : decode cX5_canBeDone 1 = .ok (.invokevirtual 184, 3) := by decide +kernel
theorem dX5_canBeDone_4 : decode cX5_canBeDone 4 = .ok (.tableswitch 135 11 13 #[78, 45, 28], 28) := by decide +kernel
theorem dX5_canBeDone_32 : decode cX5_canBeDone 32 = .ok (.aload_n 0, 1) := by decide +kernel
theorem dX5_canBeDone_33 : decode cX5_canBeDone 33 = .ok (.getfield 21, 3) := by decide +kernel
theorem dX5_canBeDone_36 : decode cX5_canBeDone 36 = .ok (.invokevirtual 187, 3) := by decide +kernel
theorem dX5_canBeDone_39 : decode cX5_canBeDone 39 = .ok (.iconst (-1), 1) := by decide +kernel
theorem dX5_canBeDone_40 : decode cX5_canBeDone 40 = .ok (.if_icmp .eq 7, 3) := by decide +kernel
theorem dX5_canBeDone_43 : decode cX5_canBeDone 43 = .ok (.iconst 1, 1) := by decide +kernel
theorem dX5_canBeDone_44 : decode cX5_canBeDone 44 = .ok (.goto 4, 3) := by decide +kernel
theorem dX5_canBeDone_47 : decode cX5_canBeDone 47 = .ok (.iconst 0, 1) := by decide +kernel
theorem dX5_canBeDone_48 : decode cX5_canBeDone 48 = .ok (.ireturn, 1) := by decide +kernel
theorem dX5_canBeDone_49 : decode cX5_canBeDone 49 = .ok (.aload_n 0, 1) := by decide +kernel
theorem dX5_canBeDone_50 : decode cX5_canBeDone 50 = .ok (.aload_n 0, 1) := by decide +kernel
theorem dX5_canBeDone_51 : decode cX5_canBeDone 51 = .ok (.aload_n 0, 1) := by decide +kernel
theorem dX5_canBeDone_52 : decode cX5_canBeDone 52 = .ok (.iconst 0, 1) := by decide +kernel
theorem dX5_canBeDone_53 : decode cX5_canBeDone 53 = .ok (.invokevirtual 109, 3) := by decide +kernel
theorem dX5_canBeDone_56 : decode cX5_canBeDone 56 = .ok (.invokevirtual 190, 3) := by decide +kernel
theorem dX5_canBeDone_59 : decode cX5_canBeDone 59 = .ok (.putfield 40, 3) := by decide +kernel
theorem dX5_canBeDone_62 : decode cX5_canBeDone 62 = .ok (.aload_n 0, 1) := by decide +kernel
theorem dX5_canBeDone_63 : decode cX5_canBeDone 63 = .ok (.bipush 17, 2) := by decide +kernel
theorem dX5_canBeDone_65 : decode cX5_canBeDone 65 = .ok (.putfield 43, 3) := by decide +kernel
theorem dX5_canBeDone_68 : decode cX5_canBeDone 68 = .ok (.aload_n 0, 1) := by decide +kernel
theorem dX5_canBeDone_69 : decode cX5_canBeDone 69 = .ok (.getfield 40, 3) := by decide +kernel
theorem dX5_canBeDone_72 : decode cX5_canBeDone 72 = .ok (.iconst (-1), 1) := by decide +kernel
theorem dX5_canBeDone_73 : decode cX5_canBeDone 73 = .ok (.if_icmp .eq 7, 3) := by decide +kernel
theorem dX5_canBeDone_76 : decode cX5_canBeDone 76 = .ok (.iconst 1, 1) := by decide +kernel
theorem dX5_canBeDone_77 : decode cX5_canBeDone 77 = .ok (.goto 4, 3) := by decide +kernel
theorem dX5_canBeDone_80 : decode cX5_canBeDone 80 = .ok (.iconst 0, 1) := by decide +kernel
theorem dX5_canBeDone_81 : decode cX5_canBeDone 81 = .ok (.ireturn, 1) := by decide +kernel
theorem dX5_canBeDone_82 : decode cX5_canBeDone 82 = .ok (.aload_n 0, 1) := by decide +kernel
theorem dX5_canBeDone_83 : decode cX5_canBeDone 83 = .ok (.aload_n 0, 1) := by decide +kernel
theorem dX5_canBeDone_84 : decode cX5_canBeDone 84 = .ok (.aload_n 0, 1) := by decide +kernel
theorem dX5_canBeDone_85 : decode cX5_canBeDone 85 = .ok (.iconst 0, 1) := by decide +kernel
theorem dX5_canBeDone_86 : decode cX5_canBeDone 86 = .ok (.invokevirtual 109, 3) := by decide +kernel
theorem dX5_canBeDone_89 : decode cX5_canBeDone 89 = .ok (.invokevirtual 190, 3) := by decide +kernel
theorem dX5_canBeDone_92 : decode cX5_canBeDone 92 = .ok (.putfield 40, 3) := by decide +kernel
theorem dX5_canBeDone_95 : decode cX5_canBeDone 95 = .ok (.aload_n 0, 1) := by decide +kernel
theorem dX5_canBeDone_96 : decode cX5_canBeDone 96 = .ok (.aload_n 1, 1) := by decide +kernel
theorem dX5_canBeDone_97 : decode cX5_canBeDone 97 = .ok (.invokevirtual 193, 3) := by decide +kernel
theorem dX5_canBeDone_100 : decode cX5_canBeDone 100 = .ok (.ifCond .eq 8, 3) := by decide +kernel
theorem dX5_canBeDone_103 : decode cX5_canBeDone 103 = .ok (.bipush 16, 2) := by decide +kernel
theorem dX5_canBeDone_105 : decode cX5_canBeDone 105 = .ok (.goto 9, 3) := by decide +kernel
theorem dX5_canBeDone_108 : decode cX5_canBeDone 108 = .ok (.aload_n 0, 1) := by decide +kernel
theorem dX5_canBeDone_109 : decode cX5_canBeDone 109 = .ok (.aload_n 1, 1) := by decide +kernel
theorem dX5_canBeDone_110 : decode cX5_canBeDone 110 = .ok (.iload_n 2, 1) := by decide +kernel
theorem dX5_canBeDone_111 : decode cX5_canBeDone 111 = .ok (.invokevirtual 197, 3) := by decide +kernel
theorem dX5_canBeDone_114 : decode cX5_canBeDone 114 = .ok (.putfield 43, 3) := by decide +kernel
theorem dX5_canBeDone_117 : decode cX5_canBeDone 117 = .ok (.aload_n 0, 1) := by decide +kernel
theorem dX5_canBeDone_118 : decode cX5_canBeDone 118 = .ok (.getfield 40, 3) := by decide +kernel
theorem dX5_canBeDone_121 : decode cX5_canBeDone 121 = .ok (.iconst (-1), 1) := by decide +kernel
theorem dX5_canBeDone_122 : decode cX5_canBeDone 122 = .ok (.if_icmp .eq 15, 3) := by decide +kernel
theorem dX5_canBeDone_125 : decode cX5_canBeDone 125 = .ok (.aload_n 0, 1) := by decide +kernel
theorem dX5_canBeDone_126 : decode cX5_canBeDone 126 = .ok (.getfield 43, 3) := by decide +kernel
theorem dX5_canBeDone_129 : decode cX5_canBeDone 129 = .ok (.iconst (-1), 1) := by decide +kernel
theorem dX5_canBeDone_130 : decode cX5_canBeDone 130 = .ok (.if_icmp .eq 7, 3) := by decide +kernel
theorem dX5_canBeDone_133 : decode cX5_canBeDone 133 = .ok (.iconst 1, 1) := by decide +kernel
theorem dX5_canBeDone_134 : decode cX5_canBeDone 134 = .ok (.goto 4, 3) := by decide +kernel
theorem dX5_canBeDone_137 : decode cX5_canBeDone 137 = .ok (.iconst 0, 1) := by decide +kernel
theorem dX5_canBeDone_138 : decode cX5_canBeDone 138 = .ok (.ireturn, 1) := by decide +kernel
theorem dX5_canBeDone_139 : decode cX5_canBeDone 139 = .ok (.iconst 1, 1) := by decide +kernel
theorem dX5_canBeDone_140 : decode cX5_canBeDone 140 = .ok (.ireturn, 1) := by decide +kernel
theorem dX5_lowestToMove_0 : decode cX5_lowestToMove 0 = .ok (.iconst 0, 1) := by decide +kernel
theorem dX5_lowestToMove_1 : decode cX5_lowestToMove 1 = .ok (.istore_n 2, 1) := by decide +kernel
theorem dX5_lowestToMove_2 : decode cX5_lowestToMove 2 = .ok (.iload_n 2, 1) := by decide +kernel
theorem dX5_lowestToMove_3 : decode cX5_lowestToMove 3 = .ok (.aload_n 0, 1) := by decide +kernel
theorem dX5_lowestToMove_4 : decode cX5_lowestToMove 4 = .ok (.getfield 21, 3) := by decide +kernel
theorem dX5_lowestToMove_7 : decode cX5_lowestToMove 7 = .ok (.invokevirtual 173, 3) := by decide +kernel
theorem dX5_lowestToMove_10 : decode cX5_lowestToMove 10 = .ok (.if_icmp .ge 31, 3) := by decide +kernel
theorem dX5_lowestToMove_13 : decode cX5_lowestToMove 13 = .ok (.iload_n 1, 1) := by decide +kernel
theorem dX5_lowestToMove_14 : decode cX5_lowestToMove 14 = .ok (.iload_n 2, 1) := by decide +kernel
theorem dX5_lowestToMove_15 : decode cX5_lowestToMove 15 = .ok (.ishr, 1) := by decide +kernel
theorem dX5_lowestToMove_16 : decode cX5_lowestToMove 16 = .ok (.iconst 1, 1) := by decide +kernel
theorem dX5_lowestToMove_17 : decode cX5_lowestToMove 17 = .ok (.iand, 1) := by decide +kernel
theorem dX5_lowestToMove_18 : decode cX5_lowestToMove 18 = .ok (.ifCond .eq 17, 3) := by decide +kernel
theorem dX5_lowestToMove_21 : decode cX5_lowestToMove 21 = .ok (.aload_n 0, 1) := by decide +kernel
theorem dX5_lowestToMove_22 : decode cX5_lowestToMove 22 = .ok (.getfield 21, 3) := by decide +kernel
theorem dX5_lowestToMove_25 : decode cX5_lowestToMove 25 = .ok (.iload_n 2, 1) := by decide +kernel
theorem dX5_lowestToMove_26 : decode cX5_lowestToMove 26 = .ok (.iconst 2, 1) := by decide +kernel
theorem dX5_lowestToMove_27 : decode cX5_lowestToMove 27 = .ok (.invokevirtual 200, 3) := by decide +kernel
theorem dX5_lowestToMove_30 : decode cX5_lowestToMove 30 = .ok (.ifCond .ne 5, 3) := by decide +kernel
theorem dX5_lowestToMove_33 : decode cX5_lowestToMove 33 = .ok (.iload_n 2, 1) := by decide +kernel
theorem dX5_lowestToMove_34 : decode cX5_lowestToMove 34 = .ok (.ireturn, 1) := by decide +kernel
theorem dX5_lowestToMove_35 : decode cX5_lowestToMove 35 = .ok (.iinc 2 1, 3) := by decide +kernel
theorem dX5_lowestToMove_38 : decode cX5_lowestToMove 38 = .ok (.goto (-36), 3) := by decide +kernel
theorem dX5_lowestToMove_41 : decode cX5_lowestToMove 41 = .ok (.iconst (-1), 1) := by decide +kernel
theorem dX5_lowestToMove_42 : decode cX5_lowestToMove 42 = .ok (.ireturn, 1) := by decide +kernel
theorem dX5_goalOf_0 : decode cX5_goalOf 0 = .ok (.aload_n 1, 1) := by decide +kernel
theorem dX5_goalOf_1 : decode cX5_goalOf 1 = .ok (.getfield 69, 3) := by decide +kernel
theorem dX5_goalOf_4 : decode cX5_goalOf 4 = .ok (.iload_n 2, 1) := by decide +kernel
theorem dX5_goalOf_5 : decode cX5_goalOf 5 = .ok (.invokevirtual 203, 3) := by decide +kernel
theorem dX5_goalOf_8 : decode cX5_goalOf 8 = .ok (.istore_n 3, 1) := by decide +kernel
theorem dX5_goalOf_9 : decode cX5_goalOf 9 = .ok (.iload_n 3, 1) := by decide +kernel
theorem dX5_goalOf_10 : decode cX5_goalOf 10 = .ok (.iconst (-1), 1) := by decide +kernel
theorem dX5_goalOf_11 : decode cX5_goalOf 11 = .ok (.if_icmp .ne 7, 3) := by decide +kernel
theorem dX5_goalOf_14 : decode cX5_goalOf 14 = .ok (.iconst 0, 1) := by decide +kernel
theorem dX5_goalOf_15 : decode cX5_goalOf 15 = .ok (.goto 10, 3) := by decide +kernel
theorem dX5_goalOf_18 : decode cX5_goalOf 18 = .ok (.aload_n 0, 1) := by decide +kernel
theorem dX5_goalOf_19 : decode cX5_goalOf 19 = .ok (.iload_n 3, 1) := by decide +kernel
theorem dX5_goalOf_20 : decode cX5_goalOf 20 = .ok (.iconst 1, 1) := by decide +kernel
theorem dX5_goalOf_21 : decode cX5_goalOf 21 = .ok (.iadd, 1) := by decide +kernel
theorem dX5_goalOf_22 : decode cX5_goalOf 22 = .ok (.invokevirtual 109, 3) := by decide +kernel
theorem dX5_goalOf_25 : decode cX5_goalOf 25 = .ok (.istore 4, 2) := by decide +kernel
theorem dX5_goalOf_27 : decode cX5_goalOf 27 = .ok (.aload_n 1, 1) := by decide +kernel
theorem dX5_goalOf_28 : decode cX5_goalOf 28 = .ok (.getfield 49, 3) := by decide +kernel
theorem dX5_goalOf_31 : decode cX5_goalOf 31 = .ok (.iload_n 3, 1) := by decide +kernel
theorem dX5_goalOf_32 : decode cX5_goalOf 32 = .ok (.invokevirtual 131, 3) := by decide +kernel
theorem dX5_goalOf_35 : decode cX5_goalOf 35 = .ok (.bipush 25, 2) := by decide +kernel
theorem dX5_goalOf_37 : decode cX5_goalOf 37 = .ok (.if_icmp .ne 7, 3) := by decide +kernel
theorem dX5_goalOf_40 : decode cX5_goalOf 40 = .ok (.iconst 0, 1) := by decide +kernel
theorem dX5_goalOf_41 : decode cX5_goalOf 41 = .ok (.goto 4, 3) := by decide +kernel
theorem dX5_goalOf_44 : decode cX5_goalOf 44 = .ok (.iconst 2, 1) := by decide +kernel
theorem dX5_goalOf_45 : decode cX5_goalOf 45 = .ok (.istore 5, 2) := by decide +kernel
theorem dX5_goalOf_47 : decode cX5_goalOf 47 = .ok (.iconst 0, 1) := by decide +kernel
theorem dX5_goalOf_48 : decode cX5_goalOf 48 = .ok (.istore 6, 2) := by decide +kernel
theorem dX5_goalOf_50 : decode cX5_goalOf 50 = .ok (.iload 6, 2) := by decide +kernel
theorem dX5_goalOf_52 : decode cX5_goalOf 52 = .ok (.aload_n 0, 1) := by decide +kernel
theorem dX5_goalOf_53 : decode cX5_goalOf 53 = .ok (.getfield 21, 3) := by decide +kernel
theorem dX5_goalOf_56 : decode cX5_goalOf 56 = .ok (.invokevirtual 173, 3) := by decide +kernel
theorem dX5_goalOf_59 : decode cX5_goalOf 59 = .ok (.if_icmp .ge 61, 3) := by decide +kernel
theorem dX5_goalOf_62 : decode cX5_goalOf 62 = .ok (.iload 4, 2) := by decide +kernel
theorem dX5_goalOf_64 : decode cX5_goalOf 64 = .ok (.iload 6, 2) := by decide +kernel
theorem dX5_goalOf_66 : decode cX5_goalOf 66 = .ok (.ishr, 1) := by decide +kernel
theorem dX5_goalOf_67 : decode cX5_goalOf 67 = .ok (.iconst 1, 1) := by decide +kernel
theorem dX5_goalOf_68 : decode cX5_goalOf 68 = .ok (.iand, 1) := by decide +kernel
theorem dX5_goalOf_69 : decode cX5_goalOf 69 = .ok (.ifCond .eq 45, 3) := by decide +kernel
theorem dX5_goalOf_72 : decode cX5_goalOf 72 = .ok (.aload_n 0, 1) := by decide +kernel
theorem dX5_goalOf_73 : decode cX5_goalOf 73 = .ok (.getfield 21, 3) := by decide +kernel
theorem dX5_goalOf_76 : decode cX5_goalOf 76 = .ok (.iload 6, 2) := by decide +kernel
theorem dX5_goalOf_78 : decode cX5_goalOf 78 = .ok (.iload 5, 2) := by decide +kernel
theorem dX5_goalOf_80 : decode cX5_goalOf 80 = .ok (.invokevirtual 200, 3) := by decide +kernel
theorem dX5_goalOf_83 : decode cX5_goalOf 83 = .ok (.ifCond .eq 31, 3) := by decide +kernel
theorem dX5_goalOf_86 : decode cX5_goalOf 86 = .ok (.iload 6, 2) := by decide +kernel
theorem dX5_goalOf_88 : decode cX5_goalOf 88 = .ok (.aload_n 0, 1) := by decide +kernel
theorem dX5_goalOf_89 : decode cX5_goalOf 89 = .ok (.getfield 40, 3) := by decide +kernel
theorem dX5_goalOf_92 : decode cX5_goalOf 92 = .ok (.if_icmp .eq 22, 3) := by decide +kernel
theorem dX5_goalOf_95 : decode cX5_goalOf 95 = .ok (.aload_n 0, 1) := by decide +kernel
theorem dX5_goalOf_96 : decode cX5_goalOf 96 = .ok (.getfield 21, 3) := by decide +kernel
theorem dX5_goalOf_99 : decode cX5_goalOf 99 = .ok (.iload 6, 2) := by decide +kernel
theorem dX5_goalOf_101 : decode cX5_goalOf 101 = .ok (.aload_n 0, 1) := by decide +kernel
theorem dX5_goalOf_102 : decode cX5_goalOf 102 = .ok (.getfield 40, 3) := by decide +kernel
theorem dX5_goalOf_105 : decode cX5_goalOf 105 = .ok (.invokevirtual 206, 3) := by decide +kernel
theorem dX5_goalOf_108 : decode cX5_goalOf 108 = .ok (.ifCond .ne 6, 3) := by decide +kernel
theorem dX5_goalOf_111 : decode cX5_goalOf 111 = .ok (.iload 6, 2) := by decide +kernel
theorem dX5_goalOf_113 : decode cX5_goalOf 113 = .ok (.ireturn, 1) := by decide +kernel
theorem dX5_goalOf_114 : decode cX5_goalOf 114 = .ok (.iinc 6 1, 3) := by decide +kernel
theorem dX5_goalOf_117 : decode cX5_goalOf 117 = .ok (.goto (-67), 3) := by decide +kernel
theorem dX5_goalOf_120 : decode cX5_goalOf 120 = .ok (.iconst (-1), 1) := by decide +kernel
theorem dX5_goalOf_121 : decode cX5_goalOf 121 = .ok (.ireturn, 1) := by decide +kernel
theorem dX5_upshotOf_0 : decode cX5_upshotOf 0 = .ok (.aload_n 1, 1) := by decide +kernel
theorem dX5_upshotOf_1 : decode cX5_upshotOf 1 = .ok (.invokevirtual 184, 3) := by decide +kernel
theorem dX5_upshotOf_4 : decode cX5_upshotOf 4 = .ok (.lookupswitch 55 #[(11, 36), (12, 36), (19, 49)], 36) := by decide +kernel
theorem dX5_upshotOf_40 : decode cX5_upshotOf 40 = .ok (.aload_n 0, 1) := by decide +kernel
theorem dX5_upshotOf_41 : decode cX5_upshotOf 41 = .ok (.getfield 40, 3) := by decide +kernel
theorem dX5_upshotOf_44 : decode cX5_upshotOf 44 = .ok (.bipush 32, 2) := by decide +kernel
theorem dX5_upshotOf_46 : decode cX5_upshotOf 46 = .ok (.imul, 1) := by decide +kernel
theorem dX5_upshotOf_47 : decode cX5_upshotOf 47 = .ok (.aload_n 0, 1) := by decide +kernel
theorem dX5_upshotOf_48 : decode cX5_upshotOf 48 = .ok (.getfield 43, 3) := by decide +kernel
theorem dX5_upshotOf_51 : decode cX5_upshotOf 51 = .ok (.iadd, 1) := by decide +kernel
theorem dX5_upshotOf_52 : decode cX5_upshotOf 52 = .ok (.ireturn, 1) := by decide +kernel
theorem dX5_upshotOf_53 : decode cX5_upshotOf 53 = .ok (.aload_n 0, 1) := by decide +kernel
theorem dX5_upshotOf_54 : decode cX5_upshotOf 54 = .ok (.iconst 0, 1) := by decide +kernel
theorem dX5_upshotOf_55 : decode cX5_upshotOf 55 = .ok (.invokevirtual 109, 3) := by decide +kernel
theorem dX5_upshotOf_58 : decode cX5_upshotOf 58 = .ok (.ireturn, 1) := by decide +kernel
theorem dX5_upshotOf_59 : decode cX5_upshotOf 59 = .ok (.aload_n 1, 1) := by decide +kernel
theorem dX5_upshotOf_60 : decode cX5_upshotOf 60 = .ok (.invokevirtual 209, 3) := by decide +kernel
theorem dX5_upshotOf_63 : decode cX5_upshotOf 63 = .ok (.ifCond .eq 12, 3) := by decide +kernel
theorem dX5_upshotOf_66 : decode cX5_upshotOf 66 = .ok (.aload_n 0, 1) := by decide +kernel
theorem dX5_upshotOf_67 : decode cX5_upshotOf 67 = .ok (.aload_n 1, 1) := by decide +kernel
theorem dX5_upshotOf_68 : decode cX5_upshotOf 68 = .ok (.iload_n 2, 1) := by decide +kernel
theorem dX5_upshotOf_69 : decode cX5_upshotOf 69 = .ok (.invokevirtual 212, 3) := by decide +kernel
theorem dX5_upshotOf_72 : decode cX5_upshotOf 72 = .ok (.goto 4, 3) := by decide +kernel
theorem dX5_upshotOf_75 : decode cX5_upshotOf 75 = .ok (.iconst 0, 1) := by decide +kernel
theorem dX5_upshotOf_76 : decode cX5_upshotOf 76 = .ok (.ireturn, 1) := by decide +kernel
theorem dX5_answerFor_0 : decode cX5_answerFor 0 = .ok (.aload_n 1, 1) := by decide +kernel
theorem dX5_answerFor_1 : decode cX5_answerFor 1 = .ok (.invokevirtual 184, 3) := by decide +kernel
theorem dX5_answerFor_4 : decode cX5_answerFor 4 = .ok (.lookupswitch 43 #[(15, 28), (16, 37)], 28) := by decide +kernel
theorem dX5_answerFor_32 : decode cX5_answerFor 32 = .ok (.aload_n 0, 1) := by decide +kernel
theorem dX5_answerFor_33 : decode cX5_answerFor 33 = .ok (.iconst 0, 1) := by decide +kernel
theorem dX5_answerFor_34 : decode cX5_answerFor 34 = .ok (.invokevirtual 109, 3) := by decide +kernel
theorem dX5_answerFor_37 : decode cX5_answerFor 37 = .ok (.invokestatic 179, 3) := by decide +kernel
theorem dX5_answerFor_40 : decode cX5_answerFor 40 = .ok (.ireturn, 1) := by decide +kernel
theorem dX5_answerFor_41 : decode cX5_answerFor 41 = .ok (.aload_n 0, 1) := by decide +kernel
theorem dX5_answerFor_42 : decode cX5_answerFor 42 = .ok (.iconst 0, 1) := by decide +kernel
theorem dX5_answerFor_43 : decode cX5_answerFor 43 = .ok (.invokevirtual 109, 3) := by decide +kernel
theorem dX5_answerFor_46 : decode cX5_answerFor 46 = .ok (.ireturn, 1) := by decide +kernel
theorem dX5_answerFor_47 : decode cX5_answerFor 47 = .ok (.aload_n 1, 1) := by decide +kernel
theorem dX5_answerFor_48 : decode cX5_answerFor 48 = .ok (.getfield 69, 3) := by decide +kernel
theorem dX5_answerFor_51 : decode cX5_answerFor 51 = .ok (.aload_n 1, 1) := by decide +kernel
theorem dX5_answerFor_52 : decode cX5_answerFor 52 = .ok (.getfield 69, 3) := by decide +kernel
theorem dX5_answerFor_55 : decode cX5_answerFor 55 = .ok (.iload_n 2, 1) := by decide +kernel
theorem dX5_answerFor_56 : decode cX5_answerFor 56 = .ok (.invokevirtual 100, 3) := by decide +kernel
theorem dX5_answerFor_59 : decode cX5_answerFor 59 = .ok (.invokevirtual 203, 3) := by decide +kernel
theorem dX5_answerFor_62 : decode cX5_answerFor 62 = .ok (.istore_n 3, 1) := by decide +kernel
theorem dX5_answerFor_63 : decode cX5_answerFor 63 = .ok (.iload_n 3, 1) := by decide +kernel
theorem dX5_answerFor_64 : decode cX5_answerFor 64 = .ok (.iconst (-1), 1) := by decide +kernel
theorem dX5_answerFor_65 : decode cX5_answerFor 65 = .ok (.if_icmp .ne 5, 3) := by decide +kernel
theorem dX5_answerFor_68 : decode cX5_answerFor 68 = .ok (.iconst 0, 1) := by decide +kernel
theorem dX5_answerFor_69 : decode cX5_answerFor 69 = .ok (.ireturn, 1) := by decide +kernel
theorem dX5_answerFor_70 : decode cX5_answerFor 70 = .ok (.aload_n 0, 1) := by decide +kernel
theorem dX5_answerFor_71 : decode cX5_answerFor 71 = .ok (.getfield 21, 3) := by decide +kernel
theorem dX5_answerFor_74 : decode cX5_answerFor 74 = .ok (.aload_n 0, 1) := by decide +kernel
theorem dX5_answerFor_75 : decode cX5_answerFor 75 = .ok (.iconst 0, 1) := by decide +kernel
theorem dX5_answerFor_76 : decode cX5_answerFor 76 = .ok (.invokevirtual 109, 3) := by decide +kernel
theorem dX5_answerFor_79 : decode cX5_answerFor 79 = .ok (.aload_n 1, 1) := by decide +kernel
theorem dX5_answerFor_80 : decode cX5_answerFor 80 = .ok (.getfield 49, 3) := by decide +kernel
theorem dX5_answerFor_83 : decode cX5_answerFor 83 = .ok (.iload_n 3, 1) := by decide +kernel
theorem dX5_answerFor_84 : decode cX5_answerFor 84 = .ok (.invokevirtual 131, 3) := by decide +kernel
theorem dX5_answerFor_87 : decode cX5_answerFor 87 = .ok (.aload_n 0, 1) := by decide +kernel
theorem dX5_answerFor_88 : decode cX5_answerFor 88 = .ok (.iload_n 3, 1) := by decide +kernel
theorem dX5_answerFor_89 : decode cX5_answerFor 89 = .ok (.iconst 1, 1) := by decide +kernel
theorem dX5_answerFor_90 : decode cX5_answerFor 90 = .ok (.iadd, 1) := by decide +kernel
theorem dX5_answerFor_91 : decode cX5_answerFor 91 = .ok (.invokevirtual 109, 3) := by decide +kernel
theorem dX5_answerFor_94 : decode cX5_answerFor 94 = .ok (.invokevirtual 134, 3) := by decide +kernel
theorem dX5_answerFor_97 : decode cX5_answerFor 97 = .ok (.ifCond .eq 7, 3) := by decide +kernel
theorem dX5_answerFor_100 : decode cX5_answerFor 100 = .ok (.iconst 1, 1) := by decide +kernel
theorem dX5_answerFor_101 : decode cX5_answerFor 101 = .ok (.goto 4, 3) := by decide +kernel
theorem dX5_answerFor_104 : decode cX5_answerFor 104 = .ok (.iconst 0, 1) := by decide +kernel
theorem dX5_answerFor_105 : decode cX5_answerFor 105 = .ok (.ireturn, 1) := by decide +kernel
theorem dX6_init_0 : decode cX6_init 0 = .ok (.aload_n 0, 1) := by decide +kernel
theorem dX6_init_1 : decode cX6_init 1 = .ok (.invokespecial 3, 3) := by decide +kernel
theorem dX6_init_4 : decode cX6_init 4 = .ok (.aload_n 0, 1) := by decide +kernel
theorem dX6_init_5 : decode cX6_init 5 = .ok (.bipush 120, 2) := by decide +kernel
theorem dX6_init_7 : decode cX6_init 7 = .ok (.newarray .int, 2) := by decide +kernel
theorem dX6_init_9 : decode cX6_init 9 = .ok (.putfield 9, 3) := by decide +kernel
theorem dX6_init_12 : decode cX6_init 12 = .ok (.return_, 1) := by decide +kernel
theorem dX6_length_0 : decode cX6_length 0 = .ok (.aload_n 0, 1) := by decide +kernel
theorem dX6_length_1 : decode cX6_length 1 = .ok (.getfield 15, 3) := by decide +kernel
theorem dX6_length_4 : decode cX6_length 4 = .ok (.ireturn, 1) := by decide +kernel
theorem dX6_clear_0 : decode cX6_clear 0 = .ok (.aload_n 0, 1) := by decide +kernel
theorem dX6_clear_1 : decode cX6_clear 1 = .ok (.iconst 0, 1) := by decide +kernel
theorem dX6_clear_2 : decode cX6_clear 2 = .ok (.putfield 15, 3) := by decide +kernel
theorem dX6_clear_5 : decode cX6_clear 5 = .ok (.return_, 1) := by decide +kernel
theorem dX6_part_0 : decode cX6_part 0 = .ok (.iload_n 1, 1) := by decide +kernel
theorem dX6_part_1 : decode cX6_part 1 = .ok (.ifCond .lt 22, 3) := by decide +kernel
theorem dX6_part_4 : decode cX6_part 4 = .ok (.iload_n 1, 1) := by decide +kernel
theorem dX6_part_5 : decode cX6_part 5 = .ok (.iconst 3, 1) := by decide +kernel
theorem dX6_part_6 : decode cX6_part 6 = .ok (.aload_n 0, 1) := by decide +kernel
theorem dX6_part_7 : decode cX6_part 7 = .ok (.getfield 15, 3) := by decide +kernel
theorem dX6_part_10 : decode cX6_part 10 = .ok (.imul, 1) := by decide +kernel
theorem dX6_part_11 : decode cX6_part 11 = .ok (.if_icmp .ge 12, 3) := by decide +kernel
theorem dX6_part_14 : decode cX6_part 14 = .ok (.aload_n 0, 1) := by decide +kernel
theorem dX6_part_15 : decode cX6_part 15 = .ok (.getfield 9, 3) := by decide +kernel
theorem dX6_part_18 : decode cX6_part 18 = .ok (.iload_n 1, 1) := by decide +kernel
theorem dX6_part_19 : decode cX6_part 19 = .ok (.iaload, 1) := by decide +kernel
theorem dX6_part_20 : decode cX6_part 20 = .ok (.goto 4, 3) := by decide +kernel
theorem dX6_part_23 : decode cX6_part 23 = .ok (.iconst (-1), 1) := by decide +kernel
theorem dX6_part_24 : decode cX6_part 24 = .ok (.ireturn, 1) := by decide +kernel
theorem dX6_build_0 : decode cX6_build 0 = .ok (.aload_n 0, 1) := by decide +kernel
theorem dX6_build_1 : decode cX6_build 1 = .ok (.invokevirtual 19, 3) := by decide +kernel
theorem dX6_build_4 : decode cX6_build 4 = .ok (.iload_n 2, 1) := by decide +kernel
theorem dX6_build_5 : decode cX6_build 5 = .ok (.bipush 13, 2) := by decide +kernel
theorem dX6_build_7 : decode cX6_build 7 = .ok (.if_icmp .ne 13, 3) := by decide +kernel
theorem dX6_build_10 : decode cX6_build 10 = .ok (.aload_n 0, 1) := by decide +kernel
theorem dX6_build_11 : decode cX6_build 11 = .ok (.iconst 2, 1) := by decide +kernel
theorem dX6_build_12 : decode cX6_build 12 = .ok (.iconst (-1), 1) := by decide +kernel
theorem dX6_build_13 : decode cX6_build 13 = .ok (.iconst (-1), 1) := by decide +kernel
theorem dX6_build_14 : decode cX6_build 14 = .ok (.invokevirtual 22, 3) := by decide +kernel
theorem dX6_build_17 : decode cX6_build 17 = .ok (.goto 21, 3) := by decide +kernel
theorem dX6_build_20 : decode cX6_build 20 = .ok (.aload_n 1, 1) := by decide +kernel
theorem dX6_build_21 : decode cX6_build 21 = .ok (.iload_n 3, 1) := by decide +kernel
theorem dX6_build_22 : decode cX6_build 22 = .ok (.invokevirtual 26, 3) := by decide +kernel
theorem dX6_build_25 : decode cX6_build 25 = .ok (.iload 4, 2) := by decide +kernel
theorem dX6_build_27 : decode cX6_build 27 = .ok (.if_icmp .eq 11, 3) := by decide +kernel
theorem dX6_build_30 : decode cX6_build 30 = .ok (.aload_n 0, 1) := by decide +kernel
theorem dX6_build_31 : decode cX6_build 31 = .ok (.aload_n 1, 1) := by decide +kernel
theorem dX6_build_32 : decode cX6_build 32 = .ok (.iload_n 3, 1) := by decide +kernel
theorem dX6_build_33 : decode cX6_build 33 = .ok (.iload 4, 2) := by decide +kernel
theorem dX6_build_35 : decode cX6_build 35 = .ok (.invokevirtual 32, 3) := by decide +kernel
theorem dX6_build_38 : decode cX6_build 38 = .ok (.return_, 1) := by decide +kernel
