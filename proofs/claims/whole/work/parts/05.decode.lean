theorem dX10_in_0 : decode cX10_in 0 = .ok (.iload_n 0, 1) := by decide +kernel
theorem dX10_in_1 : decode cX10_in 1 = .ok (.iload_n 1, 1) := by decide +kernel
theorem dX10_in_2 : decode cX10_in 2 = .ok (.if_icmp .lt 12, 3) := by decide +kernel
theorem dX10_in_5 : decode cX10_in 5 = .ok (.iload_n 0, 1) := by decide +kernel
theorem dX10_in_6 : decode cX10_in 6 = .ok (.iload_n 2, 1) := by decide +kernel
theorem dX10_in_7 : decode cX10_in 7 = .ok (.if_icmp .gt 7, 3) := by decide +kernel
theorem dX10_in_10 : decode cX10_in 10 = .ok (.iconst 1, 1) := by decide +kernel
theorem dX10_in_11 : decode cX10_in 11 = .ok (.goto 4, 3) := by decide +kernel
theorem dX10_in_14 : decode cX10_in 14 = .ok (.iconst 0, 1) := by decide +kernel
theorem dX10_in_15 : decode cX10_in 15 = .ok (.ireturn, 1) := by decide +kernel
theorem dX10_isThing_0 : decode cX10_isThing 0 = .ok (.iload_n 1, 1) := by decide +kernel
theorem dX10_isThing_1 : decode cX10_isThing 1 = .ok (.ifCond .lt 15, 3) := by decide +kernel
theorem dX10_isThing_4 : decode cX10_isThing 4 = .ok (.iload_n 1, 1) := by decide +kernel
theorem dX10_isThing_5 : decode cX10_isThing 5 = .ok (.aload_n 0, 1) := by decide +kernel
theorem dX10_isThing_6 : decode cX10_isThing 6 = .ok (.getfield 184, 3) := by decide +kernel
theorem dX10_isThing_9 : decode cX10_isThing 9 = .ok (.if_icmp .ge 7, 3) := by decide +kernel
theorem dX10_isThing_12 : decode cX10_isThing 12 = .ok (.iconst 1, 1) := by decide +kernel
theorem dX10_isThing_13 : decode cX10_isThing 13 = .ok (.goto 4, 3) := by decide +kernel
theorem dX10_isThing_16 : decode cX10_isThing 16 = .ok (.iconst 0, 1) := by decide +kernel
theorem dX10_isThing_17 : decode cX10_isThing 17 = .ok (.ireturn, 1) := by decide +kernel
theorem dX10_thing_0 : decode cX10_thing 0 = .ok (.iload_n 1, 1) := by decide +kernel
theorem dX10_thing_1 : decode cX10_thing 1 = .ok (.iconst 0, 1) := by decide +kernel
theorem dX10_thing_2 : decode cX10_thing 2 = .ok (.iconst 2, 1) := by decide +kernel
theorem dX10_thing_3 : decode cX10_thing 3 = .ok (.invokestatic 187, 3) := by decide +kernel
theorem dX10_thing_6 : decode cX10_thing 6 = .ok (.ifCond .eq 31, 3) := by decide +kernel
theorem dX10_thing_9 : decode cX10_thing 9 = .ok (.iload_n 2, 1) := by decide +kernel
theorem dX10_thing_10 : decode cX10_thing 10 = .ok (.iconst 0, 1) := by decide +kernel
theorem dX10_thing_11 : decode cX10_thing 11 = .ok (.iconst 3, 1) := by decide +kernel
theorem dX10_thing_12 : decode cX10_thing 12 = .ok (.invokestatic 187, 3) := by decide +kernel
theorem dX10_thing_15 : decode cX10_thing 15 = .ok (.ifCond .eq 22, 3) := by decide +kernel
theorem dX10_thing_18 : decode cX10_thing 18 = .ok (.iload_n 3, 1) := by decide +kernel
theorem dX10_thing_19 : decode cX10_thing 19 = .ok (.iconst 1, 1) := by decide +kernel
theorem dX10_thing_20 : decode cX10_thing 20 = .ok (.bipush 9, 2) := by decide +kernel
theorem dX10_thing_22 : decode cX10_thing 22 = .ok (.invokestatic 187, 3) := by decide +kernel
theorem dX10_thing_25 : decode cX10_thing 25 = .ok (.ifCond .eq 12, 3) := by decide +kernel
theorem dX10_thing_28 : decode cX10_thing 28 = .ok (.aload_n 0, 1) := by decide +kernel
theorem dX10_thing_29 : decode cX10_thing 29 = .ok (.getfield 184, 3) := by decide +kernel
theorem dX10_thing_32 : decode cX10_thing 32 = .ok (.bipush 16, 2) := by decide +kernel
theorem dX10_thing_34 : decode cX10_thing 34 = .ok (.if_icmp .ne 5, 3) := by decide +kernel
theorem dX10_thing_37 : decode cX10_thing 37 = .ok (.iconst (-1), 1) := by decide +kernel
theorem dX10_thing_38 : decode cX10_thing 38 = .ok (.ireturn, 1) := by decide +kernel
theorem dX10_thing_39 : decode cX10_thing 39 = .ok (.aload_n 0, 1) := by decide +kernel
theorem dX10_thing_40 : decode cX10_thing 40 = .ok (.getfield 7, 3) := by decide +kernel
theorem dX10_thing_43 : decode cX10_thing 43 = .ok (.aload_n 0, 1) := by decide +kernel
theorem dX10_thing_44 : decode cX10_thing 44 = .ok (.getfield 184, 3) := by decide +kernel
theorem dX10_thing_47 : decode cX10_thing 47 = .ok (.iload_n 1, 1) := by decide +kernel
theorem dX10_thing_48 : decode cX10_thing 48 = .ok (.iastore, 1) := by decide +kernel
theorem dX10_thing_49 : decode cX10_thing 49 = .ok (.aload_n 0, 1) := by decide +kernel
theorem dX10_thing_50 : decode cX10_thing 50 = .ok (.getfield 13, 3) := by decide +kernel
theorem dX10_thing_53 : decode cX10_thing 53 = .ok (.aload_n 0, 1) := by decide +kernel
theorem dX10_thing_54 : decode cX10_thing 54 = .ok (.getfield 184, 3) := by decide +kernel
theorem dX10_thing_57 : decode cX10_thing 57 = .ok (.iload_n 2, 1) := by decide +kernel
theorem dX10_thing_58 : decode cX10_thing 58 = .ok (.iastore, 1) := by decide +kernel
theorem dX10_thing_59 : decode cX10_thing 59 = .ok (.aload_n 0, 1) := by decide +kernel
theorem dX10_thing_60 : decode cX10_thing 60 = .ok (.getfield 16, 3) := by decide +kernel
theorem dX10_thing_63 : decode cX10_thing 63 = .ok (.aload_n 0, 1) := by decide +kernel
theorem dX10_thing_64 : decode cX10_thing 64 = .ok (.getfield 184, 3) := by decide +kernel
theorem dX10_thing_67 : decode cX10_thing 67 = .ok (.iload_n 3, 1) := by decide +kernel
theorem dX10_thing_68 : decode cX10_thing 68 = .ok (.iastore, 1) := by decide +kernel
theorem dX10_thing_69 : decode cX10_thing 69 = .ok (.aload_n 0, 1) := by decide +kernel
theorem dX10_thing_70 : decode cX10_thing 70 = .ok (.getfield 19, 3) := by decide +kernel
theorem dX10_thing_73 : decode cX10_thing 73 = .ok (.aload_n 0, 1) := by decide +kernel
theorem dX10_thing_74 : decode cX10_thing 74 = .ok (.getfield 184, 3) := by decide +kernel
theorem dX10_thing_77 : decode cX10_thing 77 = .ok (.bipush 16, 2) := by decide +kernel
theorem dX10_thing_79 : decode cX10_thing 79 = .ok (.iastore, 1) := by decide +kernel
theorem dX10_thing_80 : decode cX10_thing 80 = .ok (.aload_n 0, 1) := by decide +kernel
theorem dX10_thing_81 : decode cX10_thing 81 = .ok (.aload_n 0, 1) := by decide +kernel
theorem dX10_thing_82 : decode cX10_thing 82 = .ok (.getfield 184, 3) := by decide +kernel
theorem dX10_thing_85 : decode cX10_thing 85 = .ok (.iconst 1, 1) := by decide +kernel
theorem dX10_thing_86 : decode cX10_thing 86 = .ok (.iadd, 1) := by decide +kernel
theorem dX10_thing_87 : decode cX10_thing 87 = .ok (.putfield 184, 3) := by decide +kernel
theorem dX10_thing_90 : decode cX10_thing 90 = .ok (.aload_n 0, 1) := by decide +kernel
theorem dX10_thing_91 : decode cX10_thing 91 = .ok (.getfield 184, 3) := by decide +kernel
theorem dX10_thing_94 : decode cX10_thing 94 = .ok (.iconst 1, 1) := by decide +kernel
theorem dX10_thing_95 : decode cX10_thing 95 = .ok (.isub, 1) := by decide +kernel
theorem dX10_thing_96 : decode cX10_thing 96 = .ok (.ireturn, 1) := by decide +kernel
theorem dX10_above_0 : decode cX10_above 0 = .ok (.aload_n 0, 1) := by decide +kernel
theorem dX10_above_1 : decode cX10_above 1 = .ok (.getfield 7, 3) := by decide +kernel
theorem dX10_above_4 : decode cX10_above 4 = .ok (.iload_n 1, 1) := by decide +kernel
theorem dX10_above_5 : decode cX10_above 5 = .ok (.iaload, 1) := by decide +kernel
theorem dX10_above_6 : decode cX10_above 6 = .ok (.iconst 2, 1) := by decide +kernel
theorem dX10_above_7 : decode cX10_above 7 = .ok (.if_icmp .ne 5, 3) := by decide +kernel
theorem dX10_above_10 : decode cX10_above 10 = .ok (.iconst (-1), 1) := by decide +kernel
theorem dX10_above_11 : decode cX10_above 11 = .ok (.ireturn, 1) := by decide +kernel
theorem dX10_above_12 : decode cX10_above 12 = .ok (.iconst 0, 1) := by decide +kernel
theorem dX10_above_13 : decode cX10_above 13 = .ok (.istore_n 2, 1) := by decide +kernel
theorem dX10_above_14 : decode cX10_above 14 = .ok (.iload_n 2, 1) := by decide +kernel
theorem dX10_above_15 : decode cX10_above 15 = .ok (.aload_n 0, 1) := by decide +kernel
theorem dX10_above_16 : decode cX10_above 16 = .ok (.getfield 184, 3) := by decide +kernel
theorem dX10_above_19 : decode cX10_above 19 = .ok (.if_icmp .ge 21, 3) := by decide +kernel
theorem dX10_above_22 : decode cX10_above 22 = .ok (.aload_n 0, 1) := by decide +kernel
theorem dX10_above_23 : decode cX10_above 23 = .ok (.getfield 19, 3) := by decide +kernel
theorem dX10_above_26 : decode cX10_above 26 = .ok (.iload_n 2, 1) := by decide +kernel
theorem dX10_above_27 : decode cX10_above 27 = .ok (.iaload, 1) := by decide +kernel
theorem dX10_above_28 : decode cX10_above 28 = .ok (.iload_n 1, 1) := by decide +kernel
theorem dX10_above_29 : decode cX10_above 29 = .ok (.if_icmp .ne 5, 3) := by decide +kernel
theorem dX10_above_32 : decode cX10_above 32 = .ok (.iload_n 2, 1) := by decide +kernel
theorem dX10_above_33 : decode cX10_above 33 = .ok (.ireturn, 1) := by decide +kernel
theorem dX10_above_34 : decode cX10_above 34 = .ok (.iinc 2 1, 3) := by decide +kernel
theorem dX10_above_37 : decode cX10_above 37 = .ok (.goto (-23), 3) := by decide +kernel
theorem dX10_above_40 : decode cX10_above 40 = .ok (.iconst (-1), 1) := by decide +kernel
theorem dX10_above_41 : decode cX10_above 41 = .ok (.ireturn, 1) := by decide +kernel
theorem dX10_highest_0 : decode cX10_highest 0 = .ok (.iconst (-1), 1) := by decide +kernel
theorem dX10_highest_1 : decode cX10_highest 1 = .ok (.istore_n 2, 1) := by decide +kernel
theorem dX10_highest_2 : decode cX10_highest 2 = .ok (.aload_n 0, 1) := by decide +kernel
theorem dX10_highest_3 : decode cX10_highest 3 = .ok (.iload_n 1, 1) := by decide +kernel
theorem dX10_highest_4 : decode cX10_highest 4 = .ok (.invokevirtual 191, 3) := by decide +kernel
theorem dX10_highest_7 : decode cX10_highest 7 = .ok (.istore_n 3, 1) := by decide +kernel
theorem dX10_highest_8 : decode cX10_highest 8 = .ok (.iload_n 3, 1) := by decide +kernel
theorem dX10_highest_9 : decode cX10_highest 9 = .ok (.iconst (-1), 1) := by decide +kernel
theorem dX10_highest_10 : decode cX10_highest 10 = .ok (.if_icmp .eq 14, 3) := by decide +kernel
theorem dX10_highest_13 : decode cX10_highest 13 = .ok (.iload_n 3, 1) := by decide +kernel
theorem dX10_highest_14 : decode cX10_highest 14 = .ok (.istore_n 2, 1) := by decide +kernel
theorem dX10_highest_15 : decode cX10_highest 15 = .ok (.aload_n 0, 1) := by decide +kernel
theorem dX10_highest_16 : decode cX10_highest 16 = .ok (.iload_n 2, 1) := by decide +kernel
theorem dX10_highest_17 : decode cX10_highest 17 = .ok (.invokevirtual 191, 3) := by decide +kernel
theorem dX10_highest_20 : decode cX10_highest 20 = .ok (.istore_n 3, 1) := by decide +kernel
theorem dX10_highest_21 : decode cX10_highest 21 = .ok (.goto (-13), 3) := by decide +kernel
theorem dX10_highest_24 : decode cX10_highest 24 = .ok (.iload_n 2, 1) := by decide +kernel
theorem dX10_highest_25 : decode cX10_highest 25 = .ok (.ireturn, 1) := by decide +kernel
theorem dX10_held_0 : decode cX10_held 0 = .ok (.iconst 0, 1) := by decide +kernel
theorem dX10_held_1 : decode cX10_held 1 = .ok (.istore_n 1, 1) := by decide +kernel
theorem dX10_held_2 : decode cX10_held 2 = .ok (.iload_n 1, 1) := by decide +kernel
theorem dX10_held_3 : decode cX10_held 3 = .ok (.aload_n 0, 1) := by decide +kernel
theorem dX10_held_4 : decode cX10_held 4 = .ok (.getfield 184, 3) := by decide +kernel
theorem dX10_held_7 : decode cX10_held 7 = .ok (.if_icmp .ge 22, 3) := by decide +kernel
theorem dX10_held_10 : decode cX10_held 10 = .ok (.aload_n 0, 1) := by decide +kernel
theorem dX10_held_11 : decode cX10_held 11 = .ok (.getfield 19, 3) := by decide +kernel
theorem dX10_held_14 : decode cX10_held 14 = .ok (.iload_n 1, 1) := by decide +kernel
theorem dX10_held_15 : decode cX10_held 15 = .ok (.iaload, 1) := by decide +kernel
theorem dX10_held_16 : decode cX10_held 16 = .ok (.bipush 17, 2) := by decide +kernel
theorem dX10_held_18 : decode cX10_held 18 = .ok (.if_icmp .ne 5, 3) := by decide +kernel
theorem dX10_held_21 : decode cX10_held 21 = .ok (.iload_n 1, 1) := by decide +kernel
theorem dX10_held_22 : decode cX10_held 22 = .ok (.ireturn, 1) := by decide +kernel
theorem dX10_held_23 : decode cX10_held 23 = .ok (.iinc 1 1, 3) := by decide +kernel
theorem dX10_held_26 : decode cX10_held 26 = .ok (.goto (-24), 3) := by decide +kernel
theorem dX10_held_29 : decode cX10_held 29 = .ok (.iconst (-1), 1) := by decide +kernel
theorem dX10_held_30 : decode cX10_held 30 = .ok (.ireturn, 1) := by decide +kernel
theorem dX10_can_0 : decode cX10_can 0 = .ok (.iload_n 1, 1) := by decide +kernel
theorem dX10_can_1 : decode cX10_can 1 = .ok (.ifCond .ne 44, 3) := by decide +kernel
theorem dX10_can_4 : decode cX10_can 4 = .ok (.aload_n 0, 1) := by decide +kernel
theorem dX10_can_5 : decode cX10_can 5 = .ok (.invokevirtual 195, 3) := by decide +kernel
theorem dX10_can_8 : decode cX10_can 8 = .ok (.iconst (-1), 1) := by decide +kernel
theorem dX10_can_9 : decode cX10_can 9 = .ok (.if_icmp .ne 34, 3) := by decide +kernel
theorem dX10_can_12 : decode cX10_can 12 = .ok (.aload_n 0, 1) := by decide +kernel
theorem dX10_can_13 : decode cX10_can 13 = .ok (.iload_n 2, 1) := by decide +kernel
theorem dX10_can_14 : decode cX10_can 14 = .ok (.invokevirtual 199, 3) := by decide +kernel
theorem dX10_can_17 : decode cX10_can 17 = .ok (.ifCond .eq 26, 3) := by decide +kernel
theorem dX10_can_20 : decode cX10_can 20 = .ok (.aload_n 0, 1) := by decide +kernel
theorem dX10_can_21 : decode cX10_can 21 = .ok (.getfield 7, 3) := by decide +kernel
theorem dX10_can_24 : decode cX10_can 24 = .ok (.iload_n 2, 1) := by decide +kernel
theorem dX10_can_25 : decode cX10_can 25 = .ok (.iaload, 1) := by decide +kernel
theorem dX10_can_26 : decode cX10_can 26 = .ok (.iconst 2, 1) := by decide +kernel
theorem dX10_can_27 : decode cX10_can 27 = .ok (.if_icmp .eq 16, 3) := by decide +kernel
theorem dX10_can_30 : decode cX10_can 30 = .ok (.aload_n 0, 1) := by decide +kernel
theorem dX10_can_31 : decode cX10_can 31 = .ok (.iload_n 2, 1) := by decide +kernel
theorem dX10_can_32 : decode cX10_can 32 = .ok (.invokevirtual 191, 3) := by decide +kernel
theorem dX10_can_35 : decode cX10_can 35 = .ok (.iconst (-1), 1) := by decide +kernel
theorem dX10_can_36 : decode cX10_can 36 = .ok (.if_icmp .ne 7, 3) := by decide +kernel
theorem dX10_can_39 : decode cX10_can 39 = .ok (.iconst 1, 1) := by decide +kernel
theorem dX10_can_40 : decode cX10_can 40 = .ok (.goto 4, 3) := by decide +kernel
theorem dX10_can_43 : decode cX10_can 43 = .ok (.iconst 0, 1) := by decide +kernel
theorem dX10_can_44 : decode cX10_can 44 = .ok (.ireturn, 1) := by decide +kernel
theorem dX10_can_45 : decode cX10_can 45 = .ok (.aload_n 0, 1) := by decide +kernel
theorem dX10_can_46 : decode cX10_can 46 = .ok (.invokevirtual 195, 3) := by decide +kernel
theorem dX10_can_49 : decode cX10_can 49 = .ok (.iconst (-1), 1) := by decide +kernel
theorem dX10_can_50 : decode cX10_can 50 = .ok (.if_icmp .ne 5, 3) := by decide +kernel
theorem dX10_can_53 : decode cX10_can 53 = .ok (.iconst 0, 1) := by decide +kernel
theorem dX10_can_54 : decode cX10_can 54 = .ok (.ireturn, 1) := by decide +kernel
theorem dX10_can_55 : decode cX10_can 55 = .ok (.iload_n 1, 1) := by decide +kernel
theorem dX10_can_56 : decode cX10_can 56 = .ok (.iconst 2, 1) := by decide +kernel
theorem dX10_can_57 : decode cX10_can 57 = .ok (.if_icmp .ne 14, 3) := by decide +kernel
theorem dX10_can_60 : decode cX10_can 60 = .ok (.iload_n 2, 1) := by decide +kernel
theorem dX10_can_61 : decode cX10_can 61 = .ok (.iconst (-1), 1) := by decide +kernel
theorem dX10_can_62 : decode cX10_can 62 = .ok (.if_icmp .ne 7, 3) := by decide +kernel
theorem dX10_can_65 : decode cX10_can 65 = .ok (.iconst 1, 1) := by decide +kernel
theorem dX10_can_66 : decode cX10_can 66 = .ok (.goto 4, 3) := by decide +kernel
theorem dX10_can_69 : decode cX10_can 69 = .ok (.iconst 0, 1) := by decide +kernel
theorem dX10_can_70 : decode cX10_can 70 = .ok (.ireturn, 1) := by decide +kernel
theorem dX10_can_71 : decode cX10_can 71 = .ok (.aload_n 0, 1) := by decide +kernel
theorem dX10_can_72 : decode cX10_can 72 = .ok (.iload_n 2, 1) := by decide +kernel
theorem dX10_can_73 : decode cX10_can 73 = .ok (.invokevirtual 199, 3) := by decide +kernel
theorem dX10_can_76 : decode cX10_can 76 = .ok (.ifCond .eq 11, 3) := by decide +kernel
theorem dX10_can_79 : decode cX10_can 79 = .ok (.iload_n 2, 1) := by decide +kernel
theorem dX10_can_80 : decode cX10_can 80 = .ok (.aload_n 0, 1) := by decide +kernel
theorem dX10_can_81 : decode cX10_can 81 = .ok (.invokevirtual 195, 3) := by decide +kernel
theorem dX10_can_84 : decode cX10_can 84 = .ok (.if_icmp .ne 5, 3) := by decide +kernel
theorem dX10_can_87 : decode cX10_can 87 = .ok (.iconst 0, 1) := by decide +kernel
theorem dX10_can_88 : decode cX10_can 88 = .ok (.ireturn, 1) := by decide +kernel
theorem dX10_can_89 : decode cX10_can 89 = .ok (.iload_n 1, 1) := by decide +kernel
theorem dX10_can_90 : decode cX10_can 90 = .ok (.iconst 1, 1) := by decide +kernel
theorem dX10_can_91 : decode cX10_can 91 = .ok (.if_icmp .ne 29, 3) := by decide +kernel
theorem dX10_can_94 : decode cX10_can 94 = .ok (.aload_n 0, 1) := by decide +kernel
theorem dX10_can_95 : decode cX10_can 95 = .ok (.getfield 7, 3) := by decide +kernel
theorem dX10_can_98 : decode cX10_can 98 = .ok (.iload_n 2, 1) := by decide +kernel
theorem dX10_can_99 : decode cX10_can 99 = .ok (.iaload, 1) := by decide +kernel
theorem dX10_can_100 : decode cX10_can 100 = .ok (.ifCond .ne 16, 3) := by decide +kernel
theorem dX10_can_103 : decode cX10_can 103 = .ok (.aload_n 0, 1) := by decide +kernel
theorem dX10_can_104 : decode cX10_can 104 = .ok (.iload_n 2, 1) := by decide +kernel
theorem dX10_can_105 : decode cX10_can 105 = .ok (.invokevirtual 191, 3) := by decide +kernel
theorem dX10_can_108 : decode cX10_can 108 = .ok (.iconst (-1), 1) := by decide +kernel
theorem dX10_can_109 : decode cX10_can 109 = .ok (.if_icmp .ne 7, 3) := by decide +kernel
theorem dX10_can_112 : decode cX10_can 112 = .ok (.iconst 1, 1) := by decide +kernel
theorem dX10_can_113 : decode cX10_can 113 = .ok (.goto 22, 3) := by decide +kernel
theorem dX10_can_116 : decode cX10_can 116 = .ok (.iconst 0, 1) := by decide +kernel
theorem dX10_can_117 : decode cX10_can 117 = .ok (.goto 18, 3) := by decide +kernel
theorem dX10_can_120 : decode cX10_can 120 = .ok (.aload_n 0, 1) := by decide +kernel
theorem dX10_can_121 : decode cX10_can 121 = .ok (.getfield 7, 3) := by decide +kernel
theorem dX10_can_124 : decode cX10_can 124 = .ok (.iload_n 2, 1) := by decide +kernel
theorem dX10_can_125 : decode cX10_can 125 = .ok (.iaload, 1) := by decide +kernel
theorem dX10_can_126 : decode cX10_can 126 = .ok (.iconst 2, 1) := by decide +kernel
theorem dX10_can_127 : decode cX10_can 127 = .ok (.if_icmp .ne 7, 3) := by decide +kernel
theorem dX10_can_130 : decode cX10_can 130 = .ok (.iconst 1, 1) := by decide +kernel
theorem dX10_can_131 : decode cX10_can 131 = .ok (.goto 4, 3) := by decide +kernel
theorem dX10_can_134 : decode cX10_can 134 = .ok (.iconst 0, 1) := by decide +kernel
theorem dX10_can_135 : decode cX10_can 135 = .ok (.ireturn, 1) := by decide +kernel
theorem dX10_happens_0 : decode cX10_happens 0 = .ok (.iload_n 1, 1) := by decide +kernel
theorem dX10_happens_1 : decode cX10_happens 1 = .ok (.ifCond .ne 7, 3) := by decide +kernel
theorem dX10_happens_4 : decode cX10_happens 4 = .ok (.iload_n 2, 1) := by decide +kernel
theorem dX10_happens_5 : decode cX10_happens 5 = .ok (.goto 7, 3) := by decide +kernel
theorem dX10_happens_8 : decode cX10_happens 8 = .ok (.aload_n 0, 1) := by decide +kernel
theorem dX10_happens_9 : decode cX10_happens 9 = .ok (.invokevirtual 195, 3) := by decide +kernel
theorem dX10_happens_12 : decode cX10_happens 12 = .ok (.istore 5, 2) := by decide +kernel
theorem dX10_happens_14 : decode cX10_happens 14 = .ok (.aload_n 0, 1) := by decide +kernel
theorem dX10_happens_15 : decode cX10_happens 15 = .ok (.getfield 22, 3) := by decide +kernel
theorem dX10_happens_18 : decode cX10_happens 18 = .ok (.aload_n 0, 1) := by decide +kernel
theorem dX10_happens_19 : decode cX10_happens 19 = .ok (.getfield 203, 3) := by decide +kernel
theorem dX10_happens_22 : decode cX10_happens 22 = .ok (.iload_n 1, 1) := by decide +kernel
theorem dX10_happens_23 : decode cX10_happens 23 = .ok (.iastore, 1) := by decide +kernel
theorem dX10_happens_24 : decode cX10_happens 24 = .ok (.aload_n 0, 1) := by decide +kernel
theorem dX10_happens_25 : decode cX10_happens 25 = .ok (.getfield 25, 3) := by decide +kernel
theorem dX10_happens_28 : decode cX10_happens 28 = .ok (.aload_n 0, 1) := by decide +kernel
theorem dX10_happens_29 : decode cX10_happens 29 = .ok (.getfield 203, 3) := by decide +kernel
theorem dX10_happens_32 : decode cX10_happens 32 = .ok (.iload 5, 2) := by decide +kernel
theorem dX10_happens_34 : decode cX10_happens 34 = .ok (.iastore, 1) := by decide +kernel
theorem dX10_happens_35 : decode cX10_happens 35 = .ok (.aload_n 0, 1) := by decide +kernel
theorem dX10_happens_36 : decode cX10_happens 36 = .ok (.getfield 28, 3) := by decide +kernel
theorem dX10_happens_39 : decode cX10_happens 39 = .ok (.aload_n 0, 1) := by decide +kernel
theorem dX10_happens_40 : decode cX10_happens 40 = .ok (.getfield 203, 3) := by decide +kernel
theorem dX10_happens_43 : decode cX10_happens 43 = .ok (.iload_n 1, 1) := by decide +kernel
theorem dX10_happens_44 : decode cX10_happens 44 = .ok (.ifCond .ne 8, 3) := by decide +kernel
theorem dX10_happens_47 : decode cX10_happens 47 = .ok (.bipush 17, 2) := by decide +kernel
theorem dX10_happens_49 : decode cX10_happens 49 = .ok (.goto 14, 3) := by decide +kernel
theorem dX10_happens_52 : decode cX10_happens 52 = .ok (.iload_n 1, 1) := by decide +kernel
theorem dX10_happens_53 : decode cX10_happens 53 = .ok (.iconst 2, 1) := by decide +kernel
theorem dX10_happens_54 : decode cX10_happens 54 = .ok (.if_icmp .ne 8, 3) := by decide +kernel
theorem dX10_happens_57 : decode cX10_happens 57 = .ok (.bipush 16, 2) := by decide +kernel
theorem dX10_happens_59 : decode cX10_happens 59 = .ok (.goto 4, 3) := by decide +kernel
theorem dX10_happens_62 : decode cX10_happens 62 = .ok (.iload_n 2, 1) := by decide +kernel
theorem dX10_happens_63 : decode cX10_happens 63 = .ok (.iastore, 1) := by decide +kernel
theorem dX10_happens_64 : decode cX10_happens 64 = .ok (.aload_n 0, 1) := by decide +kernel
theorem dX10_happens_65 : decode cX10_happens 65 = .ok (.getfield 31, 3) := by decide +kernel
theorem dX10_happens_68 : decode cX10_happens 68 = .ok (.aload_n 0, 1) := by decide +kernel
theorem dX10_happens_69 : decode cX10_happens 69 = .ok (.getfield 203, 3) := by decide +kernel
theorem dX10_happens_72 : decode cX10_happens 72 = .ok (.iload_n 3, 1) := by decide +kernel
theorem dX10_happens_73 : decode cX10_happens 73 = .ok (.iastore, 1) := by decide +kernel
theorem dX10_happens_74 : decode cX10_happens 74 = .ok (.aload_n 0, 1) := by decide +kernel
theorem dX10_happens_75 : decode cX10_happens 75 = .ok (.getfield 34, 3) := by decide +kernel
theorem dX10_happens_78 : decode cX10_happens 78 = .ok (.aload_n 0, 1) := by decide +kernel
theorem dX10_happens_79 : decode cX10_happens 79 = .ok (.getfield 203, 3) := by decide +kernel
theorem dX10_happens_82 : decode cX10_happens 82 = .ok (.iload 4, 2) := by decide +kernel
theorem dX10_happens_84 : decode cX10_happens 84 = .ok (.iastore, 1) := by decide +kernel
theorem dX10_happens_85 : decode cX10_happens 85 = .ok (.aload_n 0, 1) := by decide +kernel
theorem dX10_happens_86 : decode cX10_happens 86 = .ok (.getfield 37, 3) := by decide +kernel
theorem dX10_happens_89 : decode cX10_happens 89 = .ok (.aload_n 0, 1) := by decide +kernel
theorem dX10_happens_90 : decode cX10_happens 90 = .ok (.getfield 203, 3) := by decide +kernel
theorem dX10_happens_93 : decode cX10_happens 93 = .ok (.aload_n 0, 1) := by decide +kernel
theorem dX10_happens_94 : decode cX10_happens 94 = .ok (.getfield 19, 3) := by decide +kernel
theorem dX10_happens_97 : decode cX10_happens 97 = .ok (.iload 5, 2) := by decide +kernel
theorem dX10_happens_99 : decode cX10_happens 99 = .ok (.iaload, 1) := by decide +kernel
theorem dX10_happens_100 : decode cX10_happens 100 = .ok (.iastore, 1) := by decide +kernel
theorem dX10_happens_101 : decode cX10_happens 101 = .ok (.aload_n 0, 1) := by decide +kernel
theorem dX10_happens_102 : decode cX10_happens 102 = .ok (.getfield 19, 3) := by decide +kernel
theorem dX10_happens_105 : decode cX10_happens 105 = .ok (.iload 5, 2) := by decide +kernel
theorem dX10_happens_107 : decode cX10_happens 107 = .ok (.aload_n 0, 1) := by decide +kernel
theorem dX10_happens_108 : decode cX10_happens 108 = .ok (.getfield 28, 3) := by decide +kernel
theorem dX10_happens_111 : decode cX10_happens 111 = .ok (.aload_n 0, 1) := by decide +kernel
theorem dX10_happens_112 : decode cX10_happens 112 = .ok (.getfield 203, 3) := by decide +kernel
theorem dX10_happens_115 : decode cX10_happens 115 = .ok (.iaload, 1) := by decide +kernel
theorem dX10_happens_116 : decode cX10_happens 116 = .ok (.iastore, 1) := by decide +kernel
theorem dX10_happens_117 : decode cX10_happens 117 = .ok (.aload_n 0, 1) := by decide +kernel
theorem dX10_happens_118 : decode cX10_happens 118 = .ok (.aload_n 0, 1) := by decide +kernel
theorem dX10_happens_119 : decode cX10_happens 119 = .ok (.getfield 203, 3) := by decide +kernel
theorem dX10_happens_122 : decode cX10_happens 122 = .ok (.iconst 1, 1) := by decide +kernel
theorem dX10_happens_123 : decode cX10_happens 123 = .ok (.iadd, 1) := by decide +kernel
theorem dX10_happens_124 : decode cX10_happens 124 = .ok (.putfield 203, 3) := by decide +kernel
theorem dX10_happens_127 : decode cX10_happens 127 = .ok (.return_, 1) := by decide +kernel
theorem dX10_act_0 : decode cX10_act 0 = .ok (.iload_n 1, 1) := by decide +kernel
theorem dX10_act_1 : decode cX10_act 1 = .ok (.iconst 0, 1) := by decide +kernel
theorem dX10_act_2 : decode cX10_act 2 = .ok (.iconst 3, 1) := by decide +kernel
theorem dX10_act_3 : decode cX10_act 3 = .ok (.invokestatic 187, 3) := by decide +kernel
theorem dX10_act_6 : decode cX10_act 6 = .ok (.ifCond .eq 22, 3) := by decide +kernel
theorem dX10_act_9 : decode cX10_act 9 = .ok (.aload_n 0, 1) := by decide +kernel
theorem dX10_act_10 : decode cX10_act 10 = .ok (.getfield 203, 3) := by decide +kernel
theorem dX10_act_13 : decode cX10_act 13 = .ok (.sipush 200, 3) := by decide +kernel
theorem dX10_act_16 : decode cX10_act 16 = .ok (.if_icmp .eq 12, 3) := by decide +kernel
theorem dX10_act_19 : decode cX10_act 19 = .ok (.aload_n 0, 1) := by decide +kernel
theorem dX10_act_20 : decode cX10_act 20 = .ok (.iload_n 1, 1) := by decide +kernel
theorem dX10_act_21 : decode cX10_act 21 = .ok (.iload_n 2, 1) := by decide +kernel
theorem dX10_act_22 : decode cX10_act 22 = .ok (.invokevirtual 206, 3) := by decide +kernel
theorem dX10_act_25 : decode cX10_act 25 = .ok (.ifCond .ne 5, 3) := by decide +kernel
theorem dX10_act_28 : decode cX10_act 28 = .ok (.iconst (-1), 1) := by decide +kernel
theorem dX10_act_29 : decode cX10_act 29 = .ok (.ireturn, 1) := by decide +kernel
theorem dX10_act_30 : decode cX10_act 30 = .ok (.aload_n 0, 1) := by decide +kernel
theorem dX10_act_31 : decode cX10_act 31 = .ok (.iload_n 1, 1) := by decide +kernel
theorem dX10_act_32 : decode cX10_act 32 = .ok (.iload_n 2, 1) := by decide +kernel
theorem dX10_act_33 : decode cX10_act 33 = .ok (.iconst (-1), 1) := by decide +kernel
theorem dX10_act_34 : decode cX10_act 34 = .ok (.iconst (-1), 1) := by decide +kernel
theorem dX10_act_35 : decode cX10_act 35 = .ok (.invokevirtual 210, 3) := by decide +kernel
theorem dX10_act_38 : decode cX10_act 38 = .ok (.aload_n 0, 1) := by decide +kernel
theorem dX10_act_39 : decode cX10_act 39 = .ok (.getfield 203, 3) := by decide +kernel
theorem dX10_act_42 : decode cX10_act 42 = .ok (.iconst 1, 1) := by decide +kernel
theorem dX10_act_43 : decode cX10_act 43 = .ok (.isub, 1) := by decide +kernel
theorem dX10_act_44 : decode cX10_act 44 = .ok (.ireturn, 1) := by decide +kernel
theorem dX10_undo_0 : decode cX10_undo 0 = .ok (.aload_n 0, 1) := by decide +kernel
theorem dX10_undo_1 : decode cX10_undo 1 = .ok (.getfield 203, 3) := by decide +kernel
theorem dX10_undo_4 : decode cX10_undo 4 = .ok (.ifCond .ne 5, 3) := by decide +kernel
theorem dX10_undo_7 : decode cX10_undo 7 = .ok (.iconst (-1), 1) := by decide +kernel
theorem dX10_undo_8 : decode cX10_undo 8 = .ok (.ireturn, 1) := by decide +kernel
theorem dX10_undo_9 : decode cX10_undo 9 = .ok (.aload_n 0, 1) := by decide +kernel
theorem dX10_undo_10 : decode cX10_undo 10 = .ok (.aload_n 0, 1) := by decide +kernel
theorem dX10_undo_11 : decode cX10_undo 11 = .ok (.getfield 203, 3) := by decide +kernel
theorem dX10_undo_14 : decode cX10_undo 14 = .ok (.iconst 1, 1) := by decide +kernel
theorem dX10_undo_15 : decode cX10_undo 15 = .ok (.isub, 1) := by decide +kernel
theorem dX10_undo_16 : decode cX10_undo 16 = .ok (.putfield 203, 3) := by decide +kernel
theorem dX10_undo_19 : decode cX10_undo 19 = .ok (.aload_n 0, 1) := by decide +kernel
theorem dX10_undo_20 : decode cX10_undo 20 = .ok (.getfield 19, 3) := by decide +kernel
theorem dX10_undo_23 : decode cX10_undo 23 = .ok (.aload_n 0, 1) := by decide +kernel
theorem dX10_undo_24 : decode cX10_undo 24 = .ok (.getfield 25, 3) := by decide +kernel
theorem dX10_undo_27 : decode cX10_undo 27 = .ok (.aload_n 0, 1) := by decide +kernel
theorem dX10_undo_28 : decode cX10_undo 28 = .ok (.getfield 203, 3) := by decide +kernel
theorem dX10_undo_31 : decode cX10_undo 31 = .ok (.iaload, 1) := by decide +kernel
theorem dX10_undo_32 : decode cX10_undo 32 = .ok (.aload_n 0, 1) := by decide +kernel
theorem dX10_undo_33 : decode cX10_undo 33 = .ok (.getfield 37, 3) := by decide +kernel
theorem dX10_undo_36 : decode cX10_undo 36 = .ok (.aload_n 0, 1) := by decide +kernel
theorem dX10_undo_37 : decode cX10_undo 37 = .ok (.getfield 203, 3) := by decide +kernel
theorem dX10_undo_40 : decode cX10_undo 40 = .ok (.iaload, 1) := by decide +kernel
theorem dX10_undo_41 : decode cX10_undo 41 = .ok (.iastore, 1) := by decide +kernel
theorem dX10_undo_42 : decode cX10_undo 42 = .ok (.aload_n 0, 1) := by decide +kernel
theorem dX10_undo_43 : decode cX10_undo 43 = .ok (.getfield 203, 3) := by decide +kernel
theorem dX10_undo_46 : decode cX10_undo 46 = .ok (.ireturn, 1) := by decide +kernel
theorem dX10_where_0 : decode cX10_where 0 = .ok (.aload_n 0, 1) := by decide +kernel
theorem dX10_where_1 : decode cX10_where 1 = .ok (.iload_n 1, 1) := by decide +kernel
theorem dX10_where_2 : decode cX10_where 2 = .ok (.invokevirtual 199, 3) := by decide +kernel
theorem dX10_where_5 : decode cX10_where 5 = .ok (.ifCond .eq 12, 3) := by decide +kernel
theorem dX10_where_8 : decode cX10_where 8 = .ok (.aload_n 0, 1) := by decide +kernel
theorem dX10_where_9 : decode cX10_where 9 = .ok (.getfield 19, 3) := by decide +kernel
theorem dX10_where_12 : decode cX10_where 12 = .ok (.iload_n 1, 1) := by decide +kernel
theorem dX10_where_13 : decode cX10_where 13 = .ok (.iaload, 1) := by decide +kernel
theorem dX10_where_14 : decode cX10_where 14 = .ok (.goto 4, 3) := by decide +kernel
theorem dX10_where_17 : decode cX10_where 17 = .ok (.iconst (-1), 1) := by decide +kernel
theorem dX10_where_18 : decode cX10_where 18 = .ok (.ireturn, 1) := by decide +kernel
theorem dX10_over_0 : decode cX10_over 0 = .ok (.aload_n 0, 1) := by decide +kernel
theorem dX10_over_1 : decode cX10_over 1 = .ok (.iload_n 1, 1) := by decide +kernel
theorem dX10_over_2 : decode cX10_over 2 = .ok (.invokevirtual 199, 3) := by decide +kernel
theorem dX10_over_5 : decode cX10_over 5 = .ok (.ifCond .eq 12, 3) := by decide +kernel
theorem dX10_over_8 : decode cX10_over 8 = .ok (.iload_n 2, 1) := by decide +kernel
theorem dX10_over_9 : decode cX10_over 9 = .ok (.iconst 0, 1) := by decide +kernel
theorem dX10_over_10 : decode cX10_over 10 = .ok (.iconst 1, 1) := by decide +kernel
theorem dX10_over_11 : decode cX10_over 11 = .ok (.invokestatic 187, 3) := by decide +kernel
theorem dX10_over_14 : decode cX10_over 14 = .ok (.ifCond .ne 5, 3) := by decide +kernel
theorem dX10_over_17 : decode cX10_over 17 = .ok (.iconst (-1), 1) := by decide +kernel
theorem dX10_over_18 : decode cX10_over 18 = .ok (.ireturn, 1) := by decide +kernel
theorem dX10_over_19 : decode cX10_over 19 = .ok (.iload_n 2, 1) := by decide +kernel
theorem dX10_over_20 : decode cX10_over 20 = .ok (.ifCond .ne 11, 3) := by decide +kernel
theorem dX10_over_23 : decode cX10_over 23 = .ok (.aload_n 0, 1) := by decide +kernel
theorem dX10_over_24 : decode cX10_over 24 = .ok (.iload_n 1, 1) := by decide +kernel
theorem dX10_over_25 : decode cX10_over 25 = .ok (.invokevirtual 191, 3) := by decide +kernel
theorem dX10_over_28 : decode cX10_over 28 = .ok (.goto 8, 3) := by decide +kernel
theorem dX10_over_31 : decode cX10_over 31 = .ok (.aload_n 0, 1) := by decide +kernel
theorem dX10_over_32 : decode cX10_over 32 = .ok (.iload_n 1, 1) := by decide +kernel
theorem dX10_over_33 : decode cX10_over 33 = .ok (.invokevirtual 214, 3) := by decide +kernel
theorem dX10_over_36 : decode cX10_over 36 = .ok (.ireturn, 1) := by decide +kernel
theorem dX10_isEvent_0 : decode cX10_isEvent 0 = .ok (.iload_n 1, 1) := by decide +kernel
theorem dX10_isEvent_1 : decode cX10_isEvent 1 = .ok (.ifCond .lt 15, 3) := by decide +kernel
theorem dX10_isEvent_4 : decode cX10_isEvent 4 = .ok (.iload_n 1, 1) := by decide +kernel
theorem dX10_isEvent_5 : decode cX10_isEvent 5 = .ok (.aload_n 0, 1) := by decide +kernel
theorem dX10_isEvent_6 : decode cX10_isEvent 6 = .ok (.getfield 203, 3) := by decide +kernel
theorem dX10_isEvent_9 : decode cX10_isEvent 9 = .ok (.if_icmp .ge 7, 3) := by decide +kernel
theorem dX10_isEvent_12 : decode cX10_isEvent 12 = .ok (.iconst 1, 1) := by decide +kernel
theorem dX10_isEvent_13 : decode cX10_isEvent 13 = .ok (.goto 4, 3) := by decide +kernel
theorem dX10_isEvent_16 : decode cX10_isEvent 16 = .ok (.iconst 0, 1) := by decide +kernel
theorem dX10_isEvent_17 : decode cX10_isEvent 17 = .ok (.ireturn, 1) := by decide +kernel
theorem dX10_was_0 : decode cX10_was 0 = .ok (.aload_n 0, 1) := by decide +kernel
theorem dX10_was_1 : decode cX10_was 1 = .ok (.iload_n 1, 1) := by decide +kernel
theorem dX10_was_2 : decode cX10_was 2 = .ok (.invokevirtual 199, 3) := by decide +kernel
theorem dX10_was_5 : decode cX10_was 5 = .ok (.ifCond .eq 11, 3) := by decide +kernel
theorem dX10_was_8 : decode cX10_was 8 = .ok (.aload_n 0, 1) := by decide +kernel
theorem dX10_was_9 : decode cX10_was 9 = .ok (.iload_n 2, 1) := by decide +kernel
theorem dX10_was_10 : decode cX10_was 10 = .ok (.invokevirtual 217, 3) := by decide +kernel
theorem dX10_was_13 : decode cX10_was 13 = .ok (.ifCond .ne 5, 3) := by decide +kernel
theorem dX10_was_16 : decode cX10_was 16 = .ok (.iconst (-1), 1) := by decide +kernel
theorem dX10_was_17 : decode cX10_was 17 = .ok (.ireturn, 1) := by decide +kernel
theorem dX10_was_18 : decode cX10_was 18 = .ok (.iload_n 2, 1) := by decide +kernel
theorem dX10_was_19 : decode cX10_was 19 = .ok (.istore_n 3, 1) := by decide +kernel
theorem dX10_was_20 : decode cX10_was 20 = .ok (.iload_n 3, 1) := by decide +kernel
theorem dX10_was_21 : decode cX10_was 21 = .ok (.ifCond .lt 26, 3) := by decide +kernel
theorem dX10_was_24 : decode cX10_was 24 = .ok (.aload_n 0, 1) := by decide +kernel
theorem dX10_was_25 : decode cX10_was 25 = .ok (.getfield 25, 3) := by decide +kernel
theorem dX10_was_28 : decode cX10_was 28 = .ok (.iload_n 3, 1) := by decide +kernel
theorem dX10_was_29 : decode cX10_was 29 = .ok (.iaload, 1) := by decide +kernel
theorem dX10_was_30 : decode cX10_was 30 = .ok (.iload_n 1, 1) := by decide +kernel
theorem dX10_was_31 : decode cX10_was 31 = .ok (.if_icmp .ne 10, 3) := by decide +kernel
theorem dX10_was_34 : decode cX10_was 34 = .ok (.aload_n 0, 1) := by decide +kernel
theorem dX10_was_35 : decode cX10_was 35 = .ok (.getfield 28, 3) := by decide +kernel
theorem dX10_was_38 : decode cX10_was 38 = .ok (.iload_n 3, 1) := by decide +kernel
theorem dX10_was_39 : decode cX10_was 39 = .ok (.iaload, 1) := by decide +kernel
theorem dX10_was_40 : decode cX10_was 40 = .ok (.ireturn, 1) := by decide +kernel
theorem dX10_was_41 : decode cX10_was 41 = .ok (.iinc 3 (-1), 3) := by decide +kernel
theorem dX10_was_44 : decode cX10_was 44 = .ok (.goto (-24), 3) := by decide +kernel
theorem dX10_was_47 : decode cX10_was 47 = .ok (.bipush 16, 2) := by decide +kernel
theorem dX10_was_49 : decode cX10_was 49 = .ok (.ireturn, 1) := by decide +kernel
theorem dX10_event_0 : decode cX10_event 0 = .ok (.aload_n 0, 1) := by decide +kernel
theorem dX10_event_1 : decode cX10_event 1 = .ok (.iload_n 1, 1) := by decide +kernel
theorem dX10_event_2 : decode cX10_event 2 = .ok (.invokevirtual 217, 3) := by decide +kernel
theorem dX10_event_5 : decode cX10_event 5 = .ok (.ifCond .ne 5, 3) := by decide +kernel
theorem dX10_event_8 : decode cX10_event 8 = .ok (.iconst (-1), 1) := by decide +kernel
theorem dX10_event_9 : decode cX10_event 9 = .ok (.ireturn, 1) := by decide +kernel
theorem dX10_event_10 : decode cX10_event 10 = .ok (.iload_n 2, 1) := by decide +kernel
theorem dX10_event_11 : decode cX10_event 11 = .ok (.tableswitch 79 0 5 #[37, 44, 51, 58, 65, 72], 37) := by decide +kernel
theorem dX10_event_48 : decode cX10_event 48 = .ok (.aload_n 0, 1) := by decide +kernel
theorem dX10_event_49 : decode cX10_event 49 = .ok (.getfield 22, 3) := by decide +kernel
theorem dX10_event_52 : decode cX10_event 52 = .ok (.iload_n 1, 1) := by decide +kernel
theorem dX10_event_53 : decode cX10_event 53 = .ok (.iaload, 1) := by decide +kernel
theorem dX10_event_54 : decode cX10_event 54 = .ok (.ireturn, 1) := by decide +kernel
theorem dX10_event_55 : decode cX10_event 55 = .ok (.aload_n 0, 1) := by decide +kernel
theorem dX10_event_56 : decode cX10_event 56 = .ok (.getfield 25, 3) := by decide +kernel
theorem dX10_event_59 : decode cX10_event 59 = .ok (.iload_n 1, 1) := by decide +kernel
theorem dX10_event_60 : decode cX10_event 60 = .ok (.iaload, 1) := by decide +kernel
theorem dX10_event_61 : decode cX10_event 61 = .ok (.ireturn, 1) := by decide +kernel
theorem dX10_event_62 : decode cX10_event 62 = .ok (.aload_n 0, 1) := by decide +kernel
theorem dX10_event_63 : decode cX10_event 63 = .ok (.getfield 28, 3) := by decide +kernel
theorem dX10_event_66 : decode cX10_event 66 = .ok (.iload_n 1, 1) := by decide +kernel
theorem dX10_event_67 : decode cX10_event 67 = .ok (.iaload, 1) := by decide +kernel
theorem dX10_event_68 : decode cX10_event 68 = .ok (.ireturn, 1) := by decide +kernel
theorem dX10_event_69 : decode cX10_event 69 = .ok (.aload_n 0, 1) := by decide +kernel
theorem dX10_event_70 : decode cX10_event 70 = .ok (.getfield 31, 3) := by decide +kernel
theorem dX10_event_73 : decode cX10_event 73 = .ok (.iload_n 1, 1) := by decide +kernel
theorem dX10_event_74 : decode cX10_event 74 = .ok (.iaload, 1) := by decide +kernel
theorem dX10_event_75 : decode cX10_event 75 = .ok (.ireturn, 1) := by decide +kernel
theorem dX10_event_76 : decode cX10_event 76 = .ok (.aload_n 0, 1) := by decide +kernel
theorem dX10_event_77 : decode cX10_event 77 = .ok (.getfield 34, 3) := by decide +kernel
theorem dX10_event_80 : decode cX10_event 80 = .ok (.iload_n 1, 1) := by decide +kernel
theorem dX10_event_81 : decode cX10_event 81 = .ok (.iaload, 1) := by decide +kernel
theorem dX10_event_82 : decode cX10_event 82 = .ok (.ireturn, 1) := by decide +kernel
theorem dX10_event_83 : decode cX10_event 83 = .ok (.aload_n 0, 1) := by decide +kernel
theorem dX10_event_84 : decode cX10_event 84 = .ok (.getfield 37, 3) := by decide +kernel
theorem dX10_event_87 : decode cX10_event 87 = .ok (.iload_n 1, 1) := by decide +kernel
theorem dX10_event_88 : decode cX10_event 88 = .ok (.iaload, 1) := by decide +kernel
theorem dX10_event_89 : decode cX10_event 89 = .ok (.ireturn, 1) := by decide +kernel
theorem dX10_event_90 : decode cX10_event 90 = .ok (.iconst (-1), 1) := by decide +kernel
theorem dX10_event_91 : decode cX10_event 91 = .ok (.ireturn, 1) := by decide +kernel
theorem dX10_types_0 : decode cX10_types 0 = .ok (.iconst 3, 1) := by decide +kernel
theorem dX10_types_1 : decode cX10_types 1 = .ok (.istore_n 2, 1) := by decide +kernel
theorem dX10_types_2 : decode cX10_types 2 = .ok (.iload_n 2, 1) := by decide +kernel
theorem dX10_types_3 : decode cX10_types 3 = .ok (.ifCond .lt 35, 3) := by decide +kernel
theorem dX10_types_6 : decode cX10_types 6 = .ok (.aload_n 0, 1) := by decide +kernel
theorem dX10_types_7 : decode cX10_types 7 = .ok (.getfield 40, 3) := by decide +kernel
theorem dX10_types_10 : decode cX10_types 10 = .ok (.aload_n 0, 1) := by decide +kernel
theorem dX10_types_11 : decode cX10_types 11 = .ok (.getfield 220, 3) := by decide +kernel
theorem dX10_types_14 : decode cX10_types 14 = .ok (.iload_n 1, 1) := by decide +kernel
theorem dX10_types_15 : decode cX10_types 15 = .ok (.bipush 8, 2) := by decide +kernel
theorem dX10_types_17 : decode cX10_types 17 = .ok (.iload_n 2, 1) := by decide +kernel
theorem dX10_types_18 : decode cX10_types 18 = .ok (.imul, 1) := by decide +kernel
theorem dX10_types_19 : decode cX10_types 19 = .ok (.ishr, 1) := by decide +kernel
theorem dX10_types_20 : decode cX10_types 20 = .ok (.i2b, 1) := by decide +kernel
theorem dX10_types_21 : decode cX10_types 21 = .ok (.bastore, 1) := by decide +kernel
theorem dX10_types_22 : decode cX10_types 22 = .ok (.aload_n 0, 1) := by decide +kernel
theorem dX10_types_23 : decode cX10_types 23 = .ok (.aload_n 0, 1) := by decide +kernel
theorem dX10_types_24 : decode cX10_types 24 = .ok (.getfield 220, 3) := by decide +kernel
theorem dX10_types_27 : decode cX10_types 27 = .ok (.iconst 1, 1) := by decide +kernel
theorem dX10_types_28 : decode cX10_types 28 = .ok (.iadd, 1) := by decide +kernel
theorem dX10_types_29 : decode cX10_types 29 = .ok (.putfield 220, 3) := by decide +kernel
theorem dX10_types_32 : decode cX10_types 32 = .ok (.iinc 2 (-1), 3) := by decide +kernel
theorem dX10_types_35 : decode cX10_types 35 = .ok (.goto (-33), 3) := by decide +kernel
theorem dX10_types_38 : decode cX10_types 38 = .ok (.return_, 1) := by decide +kernel
theorem dX10_feed_0 : decode cX10_feed 0 = .ok (.aload_n 0, 1) := by decide +kernel
theorem dX10_feed_1 : decode cX10_feed 1 = .ok (.getfield 220, 3) := by decide +kernel
theorem dX10_feed_4 : decode cX10_feed 4 = .ok (.bipush 20, 2) := by decide +kernel
theorem dX10_feed_6 : decode cX10_feed 6 = .ok (.iadd, 1) := by decide +kernel
theorem dX10_feed_7 : decode cX10_feed 7 = .ok (.sipush 200, 3) := by decide +kernel
theorem dX10_feed_10 : decode cX10_feed 10 = .ok (.if_icmp .le 5, 3) := by decide +kernel
theorem dX10_feed_13 : decode cX10_feed 13 = .ok (.iconst (-1), 1) := by decide +kernel
theorem dX10_feed_14 : decode cX10_feed 14 = .ok (.ireturn, 1) := by decide +kernel
theorem dX10_feed_15 : decode cX10_feed 15 = .ok (.aload_n 0, 1) := by decide +kernel
theorem dX10_feed_16 : decode cX10_feed 16 = .ok (.iload_n 1, 1) := by decide +kernel
theorem dX10_feed_17 : decode cX10_feed 17 = .ok (.invokevirtual 223, 3) := by decide +kernel
theorem dX10_feed_20 : decode cX10_feed 20 = .ok (.aload_n 0, 1) := by decide +kernel
theorem dX10_feed_21 : decode cX10_feed 21 = .ok (.iload_n 2, 1) := by decide +kernel
theorem dX10_feed_22 : decode cX10_feed 22 = .ok (.invokevirtual 223, 3) := by decide +kernel
theorem dX10_feed_25 : decode cX10_feed 25 = .ok (.aload_n 0, 1) := by decide +kernel
theorem dX10_feed_26 : decode cX10_feed 26 = .ok (.iload_n 3, 1) := by decide +kernel
theorem dX10_feed_27 : decode cX10_feed 27 = .ok (.invokevirtual 223, 3) := by decide +kernel
theorem dX10_feed_30 : decode cX10_feed 30 = .ok (.aload_n 0, 1) := by decide +kernel
theorem dX10_feed_31 : decode cX10_feed 31 = .ok (.iload 4, 2) := by decide +kernel
theorem dX10_feed_33 : decode cX10_feed 33 = .ok (.invokevirtual 223, 3) := by decide +kernel
theorem dX10_feed_36 : decode cX10_feed 36 = .ok (.aload_n 0, 1) := by decide +kernel
theorem dX10_feed_37 : decode cX10_feed 37 = .ok (.iload 5, 2) := by decide +kernel
theorem dX10_feed_39 : decode cX10_feed 39 = .ok (.invokevirtual 223, 3) := by decide +kernel
theorem dX10_feed_42 : decode cX10_feed 42 = .ok (.aload_n 0, 1) := by decide +kernel
theorem dX10_feed_43 : decode cX10_feed 43 = .ok (.getfield 220, 3) := by decide +kernel
theorem dX10_feed_46 : decode cX10_feed 46 = .ok (.ireturn, 1) := by decide +kernel
theorem dX10_wrong_0 : decode cX10_wrong 0 = .ok (.aload_n 0, 1) := by decide +kernel
theorem dX10_wrong_1 : decode cX10_wrong 1 = .ok (.sipush (-1000), 3) := by decide +kernel
theorem dX10_wrong_4 : decode cX10_wrong 4 = .ok (.iload_n 1, 1) := by decide +kernel
theorem dX10_wrong_5 : decode cX10_wrong 5 = .ok (.imul, 1) := by decide +kernel
theorem dX10_wrong_6 : decode cX10_wrong 6 = .ok (.iload_n 2, 1) := by decide +kernel
theorem dX10_wrong_7 : decode cX10_wrong 7 = .ok (.isub, 1) := by decide +kernel
theorem dX10_wrong_8 : decode cX10_wrong 8 = .ok (.putfield 227, 3) := by decide +kernel
theorem dX10_wrong_11 : decode cX10_wrong 11 = .ok (.iconst 0, 1) := by decide +kernel
theorem dX10_wrong_12 : decode cX10_wrong 12 = .ok (.ireturn, 1) := by decide +kernel
theorem dX10_isLetter_0 : decode cX10_isLetter 0 = .ok (.iload_n 1, 1) := by decide +kernel
theorem dX10_isLetter_1 : decode cX10_isLetter 1 = .ok (.aload_n 0, 1) := by decide +kernel
theorem dX10_isLetter_2 : decode cX10_isLetter 2 = .ok (.getfield 230, 3) := by decide +kernel
theorem dX10_isLetter_5 : decode cX10_isLetter 5 = .ok (.if_icmp .ge 29, 3) := by decide +kernel
theorem dX10_isLetter_8 : decode cX10_isLetter 8 = .ok (.aload_n 0, 1) := by decide +kernel
theorem dX10_isLetter_9 : decode cX10_isLetter 9 = .ok (.getfield 40, 3) := by decide +kernel
theorem dX10_isLetter_12 : decode cX10_isLetter 12 = .ok (.iload_n 1, 1) := by decide +kernel
theorem dX10_isLetter_13 : decode cX10_isLetter 13 = .ok (.baload, 1) := by decide +kernel
theorem dX10_isLetter_14 : decode cX10_isLetter 14 = .ok (.bipush 97, 2) := by decide +kernel
theorem dX10_isLetter_16 : decode cX10_isLetter 16 = .ok (.if_icmp .lt 18, 3) := by decide +kernel
theorem dX10_isLetter_19 : decode cX10_isLetter 19 = .ok (.aload_n 0, 1) := by decide +kernel
theorem dX10_isLetter_20 : decode cX10_isLetter 20 = .ok (.getfield 40, 3) := by decide +kernel
theorem dX10_isLetter_23 : decode cX10_isLetter 23 = .ok (.iload_n 1, 1) := by decide +kernel
theorem dX10_isLetter_24 : decode cX10_isLetter 24 = .ok (.baload, 1) := by decide +kernel
theorem dX10_isLetter_25 : decode cX10_isLetter 25 = .ok (.bipush 122, 2) := by decide +kernel
theorem dX10_isLetter_27 : decode cX10_isLetter 27 = .ok (.if_icmp .gt 7, 3) := by decide +kernel
theorem dX10_isLetter_30 : decode cX10_isLetter 30 = .ok (.iconst 1, 1) := by decide +kernel
theorem dX10_isLetter_31 : decode cX10_isLetter 31 = .ok (.goto 4, 3) := by decide +kernel
theorem dX10_isLetter_34 : decode cX10_isLetter 34 = .ok (.iconst 0, 1) := by decide +kernel
theorem dX10_isLetter_35 : decode cX10_isLetter 35 = .ok (.ireturn, 1) := by decide +kernel
theorem dX10_readsWord_0 : decode cX10_readsWord 0 = .ok (.aload_n 0, 1) := by decide +kernel
theorem dX10_readsWord_1 : decode cX10_readsWord 1 = .ok (.iload_n 1, 1) := by decide +kernel
theorem dX10_readsWord_2 : decode cX10_readsWord 2 = .ok (.putfield 233, 3) := by decide +kernel
theorem dX10_readsWord_5 : decode cX10_readsWord 5 = .ok (.aload_n 0, 1) := by decide +kernel
theorem dX10_readsWord_6 : decode cX10_readsWord 6 = .ok (.iload_n 1, 1) := by decide +kernel
theorem dX10_readsWord_7 : decode cX10_readsWord 7 = .ok (.putfield 236, 3) := by decide +kernel
theorem dX10_readsWord_10 : decode cX10_readsWord 10 = .ok (.aload_n 0, 1) := by decide +kernel
theorem dX10_readsWord_11 : decode cX10_readsWord 11 = .ok (.lconst 0, 1) := by decide +kernel
theorem dX10_readsWord_12 : decode cX10_readsWord 12 = .ok (.putfield 239, 3) := by decide +kernel
theorem dX10_readsWord_15 : decode cX10_readsWord 15 = .ok (.aload_n 0, 1) := by decide +kernel
theorem dX10_readsWord_16 : decode cX10_readsWord 16 = .ok (.iconst 0, 1) := by decide +kernel
theorem dX10_readsWord_17 : decode cX10_readsWord 17 = .ok (.putfield 243, 3) := by decide +kernel
theorem dX10_readsWord_20 : decode cX10_readsWord 20 = .ok (.aload_n 0, 1) := by decide +kernel
theorem dX10_readsWord_21 : decode cX10_readsWord 21 = .ok (.iload_n 1, 1) := by decide +kernel
theorem dX10_readsWord_22 : decode cX10_readsWord 22 = .ok (.invokevirtual 246, 3) := by decide +kernel
theorem dX10_readsWord_25 : decode cX10_readsWord 25 = .ok (.ifCond .ne 10, 3) := by decide +kernel
theorem dX10_readsWord_28 : decode cX10_readsWord 28 = .ok (.aload_n 0, 1) := by decide +kernel
theorem dX10_readsWord_29 : decode cX10_readsWord 29 = .ok (.iconst 5, 1) := by decide +kernel
theorem dX10_readsWord_30 : decode cX10_readsWord 30 = .ok (.iload_n 1, 1) := by decide +kernel
theorem dX10_readsWord_31 : decode cX10_readsWord 31 = .ok (.invokevirtual 249, 3) := by decide +kernel
theorem dX10_readsWord_34 : decode cX10_readsWord 34 = .ok (.ireturn, 1) := by decide +kernel
theorem dX10_readsWord_35 : decode cX10_readsWord 35 = .ok (.aload_n 0, 1) := by decide +kernel
theorem dX10_readsWord_36 : decode cX10_readsWord 36 = .ok (.aload_n 0, 1) := by decide +kernel
theorem dX10_readsWord_37 : decode cX10_readsWord 37 = .ok (.getfield 236, 3) := by decide +kernel
theorem dX10_readsWord_40 : decode cX10_readsWord 40 = .ok (.invokevirtual 246, 3) := by decide +kernel
theorem dX10_readsWord_43 : decode cX10_readsWord 43 = .ok (.ifCond .eq 71, 3) := by decide +kernel
theorem dX10_readsWord_46 : decode cX10_readsWord 46 = .ok (.aload_n 0, 1) := by decide +kernel
theorem dX10_readsWord_47 : decode cX10_readsWord 47 = .ok (.aload_n 0, 1) := by decide +kernel
theorem dX10_readsWord_48 : decode cX10_readsWord 48 = .ok (.getfield 243, 3) := by decide +kernel
theorem dX10_readsWord_51 : decode cX10_readsWord 51 = .ok (.bipush 12, 2) := by decide +kernel
theorem dX10_readsWord_53 : decode cX10_readsWord 53 = .ok (.if_icmp .ge 31, 3) := by decide +kernel
theorem dX10_readsWord_56 : decode cX10_readsWord 56 = .ok (.aload_n 0, 1) := by decide +kernel
theorem dX10_readsWord_57 : decode cX10_readsWord 57 = .ok (.getfield 239, 3) := by decide +kernel
theorem dX10_readsWord_60 : decode cX10_readsWord 60 = .ok (.ldc2_w 252, 3) := by decide +kernel
theorem dX10_readsWord_63 : decode cX10_readsWord 63 = .ok (.lmul, 1) := by decide +kernel
theorem dX10_readsWord_64 : decode cX10_readsWord 64 = .ok (.aload_n 0, 1) := by decide +kernel
theorem dX10_readsWord_65 : decode cX10_readsWord 65 = .ok (.getfield 40, 3) := by decide +kernel
theorem dX10_readsWord_68 : decode cX10_readsWord 68 = .ok (.aload_n 0, 1) := by decide +kernel
theorem dX10_readsWord_69 : decode cX10_readsWord 69 = .ok (.getfield 236, 3) := by decide +kernel
theorem dX10_readsWord_72 : decode cX10_readsWord 72 = .ok (.baload, 1) := by decide +kernel
theorem dX10_readsWord_73 : decode cX10_readsWord 73 = .ok (.i2l, 1) := by decide +kernel
theorem dX10_readsWord_74 : decode cX10_readsWord 74 = .ok (.ladd, 1) := by decide +kernel
theorem dX10_readsWord_75 : decode cX10_readsWord 75 = .ok (.ldc2_w 254, 3) := by decide +kernel
theorem dX10_readsWord_78 : decode cX10_readsWord 78 = .ok (.lsub, 1) := by decide +kernel
theorem dX10_readsWord_79 : decode cX10_readsWord 79 = .ok (.lconst 1, 1) := by decide +kernel
theorem dX10_readsWord_80 : decode cX10_readsWord 80 = .ok (.ladd, 1) := by decide +kernel
theorem dX10_readsWord_81 : decode cX10_readsWord 81 = .ok (.goto 7, 3) := by decide +kernel
theorem dX10_readsWord_84 : decode cX10_readsWord 84 = .ok (.aload_n 0, 1) := by decide +kernel
theorem dX10_readsWord_85 : decode cX10_readsWord 85 = .ok (.getfield 239, 3) := by decide +kernel
theorem dX10_readsWord_88 : decode cX10_readsWord 88 = .ok (.putfield 239, 3) := by decide +kernel
theorem dX10_readsWord_91 : decode cX10_readsWord 91 = .ok (.aload_n 0, 1) := by decide +kernel
theorem dX10_readsWord_92 : decode cX10_readsWord 92 = .ok (.aload_n 0, 1) := by decide +kernel
theorem dX10_readsWord_93 : decode cX10_readsWord 93 = .ok (.getfield 243, 3) := by decide +kernel
theorem dX10_readsWord_96 : decode cX10_readsWord 96 = .ok (.iconst 1, 1) := by decide +kernel
theorem dX10_readsWord_97 : decode cX10_readsWord 97 = .ok (.iadd, 1) := by decide +kernel
theorem dX10_readsWord_98 : decode cX10_readsWord 98 = .ok (.putfield 243, 3) := by decide +kernel
theorem dX10_readsWord_101 : decode cX10_readsWord 101 = .ok (.aload_n 0, 1) := by decide +kernel
theorem dX10_readsWord_102 : decode cX10_readsWord 102 = .ok (.aload_n 0, 1) := by decide +kernel
theorem dX10_readsWord_103 : decode cX10_readsWord 103 = .ok (.getfield 236, 3) := by decide +kernel
theorem dX10_readsWord_106 : decode cX10_readsWord 106 = .ok (.iconst 1, 1) := by decide +kernel
theorem dX10_readsWord_107 : decode cX10_readsWord 107 = .ok (.iadd, 1) := by decide +kernel
theorem dX10_readsWord_108 : decode cX10_readsWord 108 = .ok (.putfield 236, 3) := by decide +kernel
theorem dX10_readsWord_111 : decode cX10_readsWord 111 = .ok (.goto (-76), 3) := by decide +kernel
theorem dX10_readsWord_114 : decode cX10_readsWord 114 = .ok (.aload_n 0, 1) := by decide +kernel
theorem dX10_readsWord_115 : decode cX10_readsWord 115 = .ok (.getfield 236, 3) := by decide +kernel
theorem dX10_readsWord_118 : decode cX10_readsWord 118 = .ok (.aload_n 0, 1) := by decide +kernel
theorem dX10_readsWord_119 : decode cX10_readsWord 119 = .ok (.getfield 230, 3) := by decide +kernel
theorem dX10_readsWord_122 : decode cX10_readsWord 122 = .ok (.if_icmp .ge 27, 3) := by decide +kernel
theorem dX10_readsWord_125 : decode cX10_readsWord 125 = .ok (.aload_n 0, 1) := by decide +kernel
theorem dX10_readsWord_126 : decode cX10_readsWord 126 = .ok (.getfield 40, 3) := by decide +kernel
theorem dX10_readsWord_129 : decode cX10_readsWord 129 = .ok (.aload_n 0, 1) := by decide +kernel
theorem dX10_readsWord_130 : decode cX10_readsWord 130 = .ok (.getfield 236, 3) := by decide +kernel
theorem dX10_readsWord_133 : decode cX10_readsWord 133 = .ok (.baload, 1) := by decide +kernel
theorem dX10_readsWord_134 : decode cX10_readsWord 134 = .ok (.bipush 32, 2) := by decide +kernel
theorem dX10_readsWord_136 : decode cX10_readsWord 136 = .ok (.if_icmp .eq 13, 3) := by decide +kernel
theorem dX10_readsWord_139 : decode cX10_readsWord 139 = .ok (.aload_n 0, 1) := by decide +kernel
theorem dX10_readsWord_140 : decode cX10_readsWord 140 = .ok (.iconst 5, 1) := by decide +kernel
theorem dX10_readsWord_141 : decode cX10_readsWord 141 = .ok (.aload_n 0, 1) := by decide +kernel
theorem dX10_readsWord_142 : decode cX10_readsWord 142 = .ok (.getfield 236, 3) := by decide +kernel
theorem dX10_readsWord_145 : decode cX10_readsWord 145 = .ok (.invokevirtual 249, 3) := by decide +kernel
theorem dX10_readsWord_148 : decode cX10_readsWord 148 = .ok (.ireturn, 1) := by decide +kernel
theorem dX10_readsWord_149 : decode cX10_readsWord 149 = .ok (.iconst 1, 1) := by decide +kernel
theorem dX10_readsWord_150 : decode cX10_readsWord 150 = .ok (.ireturn, 1) := by decide +kernel
theorem dX10_wordNumber_0 : decode cX10_wordNumber 0 = .ok (.aload_n 0, 1) := by decide +kernel
theorem dX10_wordNumber_1 : decode cX10_wordNumber 1 = .ok (.getfield 243, 3) := by decide +kernel
theorem dX10_wordNumber_4 : decode cX10_wordNumber 4 = .ok (.bipush 10, 2) := by decide +kernel
theorem dX10_wordNumber_6 : decode cX10_wordNumber 6 = .ok (.if_icmp .le 6, 3) := by decide +kernel
theorem dX10_wordNumber_9 : decode cX10_wordNumber 9 = .ok (.bipush 60, 2) := by decide +kernel
theorem dX10_wordNumber_11 : decode cX10_wordNumber 11 = .ok (.ireturn, 1) := by decide +kernel
theorem dX10_wordNumber_12 : decode cX10_wordNumber 12 = .ok (.iconst 0, 1) := by decide +kernel
theorem dX10_wordNumber_13 : decode cX10_wordNumber 13 = .ok (.istore_n 1, 1) := by decide +kernel
theorem dX10_wordNumber_14 : decode cX10_wordNumber 14 = .ok (.iload_n 1, 1) := by decide +kernel
theorem dX10_wordNumber_15 : decode cX10_wordNumber 15 = .ok (.bipush 29, 2) := by decide +kernel
theorem dX10_wordNumber_17 : decode cX10_wordNumber 17 = .ok (.if_icmp .ge 25, 3) := by decide +kernel
theorem dX10_wordNumber_20 : decode cX10_wordNumber 20 = .ok (.aload_n 0, 1) := by decide +kernel
theorem dX10_wordNumber_21 : decode cX10_wordNumber 21 = .ok (.getfield 44, 3) := by decide +kernel
theorem dX10_wordNumber_24 : decode cX10_wordNumber 24 = .ok (.iload_n 1, 1) := by decide +kernel
theorem dX10_wordNumber_25 : decode cX10_wordNumber 25 = .ok (.laload, 1) := by decide +kernel
theorem dX10_wordNumber_26 : decode cX10_wordNumber 26 = .ok (.aload_n 0, 1) := by decide +kernel
theorem dX10_wordNumber_27 : decode cX10_wordNumber 27 = .ok (.getfield 239, 3) := by decide +kernel
theorem dX10_wordNumber_30 : decode cX10_wordNumber 30 = .ok (.lcmp, 1) := by decide +kernel
theorem dX10_wordNumber_31 : decode cX10_wordNumber 31 = .ok (.ifCond .ne 5, 3) := by decide +kernel
theorem dX10_wordNumber_34 : decode cX10_wordNumber 34 = .ok (.iload_n 1, 1) := by decide +kernel
theorem dX10_wordNumber_35 : decode cX10_wordNumber 35 = .ok (.ireturn, 1) := by decide +kernel
theorem dX10_wordNumber_36 : decode cX10_wordNumber 36 = .ok (.iinc 1 1, 3) := by decide +kernel
theorem dX10_wordNumber_39 : decode cX10_wordNumber 39 = .ok (.goto (-25), 3) := by decide +kernel
theorem dX10_wordNumber_42 : decode cX10_wordNumber 42 = .ok (.iconst 0, 1) := by decide +kernel
theorem dX10_wordNumber_43 : decode cX10_wordNumber 43 = .ok (.istore_n 1, 1) := by decide +kernel
theorem dX10_wordNumber_44 : decode cX10_wordNumber 44 = .ok (.iload_n 1, 1) := by decide +kernel
theorem dX10_wordNumber_45 : decode cX10_wordNumber 45 = .ok (.aload_n 0, 1) := by decide +kernel
theorem dX10_wordNumber_46 : decode cX10_wordNumber 46 = .ok (.getfield 256, 3) := by decide +kernel
theorem dX10_wordNumber_49 : decode cX10_wordNumber 49 = .ok (.if_icmp .ge 28, 3) := by decide +kernel
theorem dX10_wordNumber_52 : decode cX10_wordNumber 52 = .ok (.aload_n 0, 1) := by decide +kernel
theorem dX10_wordNumber_53 : decode cX10_wordNumber 53 = .ok (.getfield 48, 3) := by decide +kernel
theorem dX10_wordNumber_56 : decode cX10_wordNumber 56 = .ok (.iload_n 1, 1) := by decide +kernel
theorem dX10_wordNumber_57 : decode cX10_wordNumber 57 = .ok (.laload, 1) := by decide +kernel
theorem dX10_wordNumber_58 : decode cX10_wordNumber 58 = .ok (.aload_n 0, 1) := by decide +kernel
theorem dX10_wordNumber_59 : decode cX10_wordNumber 59 = .ok (.getfield 239, 3) := by decide +kernel
theorem dX10_wordNumber_62 : decode cX10_wordNumber 62 = .ok (.lcmp, 1) := by decide +kernel
theorem dX10_wordNumber_63 : decode cX10_wordNumber 63 = .ok (.ifCond .ne 8, 3) := by decide +kernel
theorem dX10_wordNumber_66 : decode cX10_wordNumber 66 = .ok (.bipush 40, 2) := by decide +kernel
theorem dX10_wordNumber_68 : decode cX10_wordNumber 68 = .ok (.iload_n 1, 1) := by decide +kernel
theorem dX10_wordNumber_69 : decode cX10_wordNumber 69 = .ok (.iadd, 1) := by decide +kernel
theorem dX10_wordNumber_70 : decode cX10_wordNumber 70 = .ok (.ireturn, 1) := by decide +kernel
theorem dX10_wordNumber_71 : decode cX10_wordNumber 71 = .ok (.iinc 1 1, 3) := by decide +kernel
theorem dX10_wordNumber_74 : decode cX10_wordNumber 74 = .ok (.goto (-30), 3) := by decide +kernel
theorem dX10_wordNumber_77 : decode cX10_wordNumber 77 = .ok (.bipush 60, 2) := by decide +kernel
theorem dX10_wordNumber_79 : decode cX10_wordNumber 79 = .ok (.ireturn, 1) := by decide +kernel
theorem dX10_isMeansNext_0 : decode cX10_isMeansNext 0 = .ok (.aload_n 0, 1) := by decide +kernel
theorem dX10_isMeansNext_1 : decode cX10_isMeansNext 1 = .ok (.getfield 236, 3) := by decide +kernel
theorem dX10_isMeansNext_4 : decode cX10_isMeansNext 4 = .ok (.iconst 1, 1) := by decide +kernel
theorem dX10_isMeansNext_5 : decode cX10_isMeansNext 5 = .ok (.iadd, 1) := by decide +kernel
theorem dX10_isMeansNext_6 : decode cX10_isMeansNext 6 = .ok (.istore_n 1, 1) := by decide +kernel
theorem dX10_isMeansNext_7 : decode cX10_isMeansNext 7 = .ok (.iconst 0, 1) := by decide +kernel
theorem dX10_isMeansNext_8 : decode cX10_isMeansNext 8 = .ok (.istore_n 2, 1) := by decide +kernel
theorem dX10_isMeansNext_9 : decode cX10_isMeansNext 9 = .ok (.lconst 0, 1) := by decide +kernel
theorem dX10_isMeansNext_10 : decode cX10_isMeansNext 10 = .ok (.lstore_n 3, 1) := by decide +kernel
theorem dX10_isMeansNext_11 : decode cX10_isMeansNext 11 = .ok (.aload_n 0, 1) := by decide +kernel
theorem dX10_isMeansNext_12 : decode cX10_isMeansNext 12 = .ok (.iload_n 1, 1) := by decide +kernel
theorem dX10_isMeansNext_13 : decode cX10_isMeansNext 13 = .ok (.iload_n 2, 1) := by decide +kernel
theorem dX10_isMeansNext_14 : decode cX10_isMeansNext 14 = .ok (.iadd, 1) := by decide +kernel
theorem dX10_isMeansNext_15 : decode cX10_isMeansNext 15 = .ok (.invokevirtual 246, 3) := by decide +kernel
theorem dX10_isMeansNext_18 : decode cX10_isMeansNext 18 = .ok (.ifCond .eq 38, 3) := by decide +kernel
theorem dX10_isMeansNext_21 : decode cX10_isMeansNext 21 = .ok (.iload_n 2, 1) := by decide +kernel
theorem dX10_isMeansNext_22 : decode cX10_isMeansNext 22 = .ok (.bipush 6, 2) := by decide +kernel
theorem dX10_isMeansNext_24 : decode cX10_isMeansNext 24 = .ok (.if_icmp .ge 32, 3) := by decide +kernel
theorem dX10_isMeansNext_27 : decode cX10_isMeansNext 27 = .ok (.lload_n 3, 1) := by decide +kernel
theorem dX10_isMeansNext_28 : decode cX10_isMeansNext 28 = .ok (.ldc2_w 252, 3) := by decide +kernel
theorem dX10_isMeansNext_31 : decode cX10_isMeansNext 31 = .ok (.lmul, 1) := by decide +kernel
theorem dX10_isMeansNext_32 : decode cX10_isMeansNext 32 = .ok (.aload_n 0, 1) := by decide +kernel
theorem dX10_isMeansNext_33 : decode cX10_isMeansNext 33 = .ok (.getfield 40, 3) := by decide +kernel
theorem dX10_isMeansNext_36 : decode cX10_isMeansNext 36 = .ok (.iload_n 1, 1) := by decide +kernel
theorem dX10_isMeansNext_37 : decode cX10_isMeansNext 37 = .ok (.iload_n 2, 1) := by decide +kernel
theorem dX10_isMeansNext_38 : decode cX10_isMeansNext 38 = .ok (.iadd, 1) := by decide +kernel
theorem dX10_isMeansNext_39 : decode cX10_isMeansNext 39 = .ok (.baload, 1) := by decide +kernel
theorem dX10_isMeansNext_40 : decode cX10_isMeansNext 40 = .ok (.i2l, 1) := by decide +kernel
theorem dX10_isMeansNext_41 : decode cX10_isMeansNext 41 = .ok (.ladd, 1) := by decide +kernel
theorem dX10_isMeansNext_42 : decode cX10_isMeansNext 42 = .ok (.ldc2_w 254, 3) := by decide +kernel
theorem dX10_isMeansNext_45 : decode cX10_isMeansNext 45 = .ok (.lsub, 1) := by decide +kernel
theorem dX10_isMeansNext_46 : decode cX10_isMeansNext 46 = .ok (.lconst 1, 1) := by decide +kernel
theorem dX10_isMeansNext_47 : decode cX10_isMeansNext 47 = .ok (.ladd, 1) := by decide +kernel
theorem dX10_isMeansNext_48 : decode cX10_isMeansNext 48 = .ok (.lstore_n 3, 1) := by decide +kernel
theorem dX10_isMeansNext_49 : decode cX10_isMeansNext 49 = .ok (.iload_n 2, 1) := by decide +kernel
theorem dX10_isMeansNext_50 : decode cX10_isMeansNext 50 = .ok (.iconst 1, 1) := by decide +kernel
theorem dX10_isMeansNext_51 : decode cX10_isMeansNext 51 = .ok (.iadd, 1) := by decide +kernel
theorem dX10_isMeansNext_52 : decode cX10_isMeansNext 52 = .ok (.istore_n 2, 1) := by decide +kernel
theorem dX10_isMeansNext_53 : decode cX10_isMeansNext 53 = .ok (.goto (-42), 3) := by decide +kernel
theorem dX10_isMeansNext_56 : decode cX10_isMeansNext 56 = .ok (.iload_n 2, 1) := by decide +kernel
theorem dX10_isMeansNext_57 : decode cX10_isMeansNext 57 = .ok (.iconst 5, 1) := by decide +kernel
theorem dX10_isMeansNext_58 : decode cX10_isMeansNext 58 = .ok (.if_icmp .ne 42, 3) := by decide +kernel
theorem dX10_isMeansNext_61 : decode cX10_isMeansNext 61 = .ok (.lload_n 3, 1) := by decide +kernel
theorem dX10_isMeansNext_62 : decode cX10_isMeansNext 62 = .ok (.aload_n 0, 1) := by decide +kernel
theorem dX10_isMeansNext_63 : decode cX10_isMeansNext 63 = .ok (.getfield 44, 3) := by decide +kernel
theorem dX10_isMeansNext_66 : decode cX10_isMeansNext 66 = .ok (.bipush 6, 2) := by decide +kernel
theorem dX10_isMeansNext_68 : decode cX10_isMeansNext 68 = .ok (.laload, 1) := by decide +kernel
theorem dX10_isMeansNext_69 : decode cX10_isMeansNext 69 = .ok (.lcmp, 1) := by decide +kernel
theorem dX10_isMeansNext_70 : decode cX10_isMeansNext 70 = .ok (.ifCond .ne 30, 3) := by decide +kernel
theorem dX10_isMeansNext_73 : decode cX10_isMeansNext 73 = .ok (.iload_n 1, 1) := by decide +kernel
theorem dX10_isMeansNext_74 : decode cX10_isMeansNext 74 = .ok (.iload_n 2, 1) := by decide +kernel
theorem dX10_isMeansNext_75 : decode cX10_isMeansNext 75 = .ok (.iadd, 1) := by decide +kernel
theorem dX10_isMeansNext_76 : decode cX10_isMeansNext 76 = .ok (.aload_n 0, 1) := by decide +kernel
theorem dX10_isMeansNext_77 : decode cX10_isMeansNext 77 = .ok (.getfield 230, 3) := by decide +kernel
theorem dX10_isMeansNext_80 : decode cX10_isMeansNext 80 = .ok (.if_icmp .eq 16, 3) := by decide +kernel
theorem dX10_isMeansNext_83 : decode cX10_isMeansNext 83 = .ok (.aload_n 0, 1) := by decide +kernel
theorem dX10_isMeansNext_84 : decode cX10_isMeansNext 84 = .ok (.getfield 40, 3) := by decide +kernel
theorem dX10_isMeansNext_87 : decode cX10_isMeansNext 87 = .ok (.iload_n 1, 1) := by decide +kernel
theorem dX10_isMeansNext_88 : decode cX10_isMeansNext 88 = .ok (.iload_n 2, 1) := by decide +kernel
theorem dX10_isMeansNext_89 : decode cX10_isMeansNext 89 = .ok (.iadd, 1) := by decide +kernel
theorem dX10_isMeansNext_90 : decode cX10_isMeansNext 90 = .ok (.baload, 1) := by decide +kernel
theorem dX10_isMeansNext_91 : decode cX10_isMeansNext 91 = .ok (.bipush 32, 2) := by decide +kernel
theorem dX10_isMeansNext_93 : decode cX10_isMeansNext 93 = .ok (.if_icmp .ne 7, 3) := by decide +kernel
theorem dX10_isMeansNext_96 : decode cX10_isMeansNext 96 = .ok (.iconst 1, 1) := by decide +kernel
theorem dX10_isMeansNext_97 : decode cX10_isMeansNext 97 = .ok (.goto 4, 3) := by decide +kernel
theorem dX10_isMeansNext_100 : decode cX10_isMeansNext 100 = .ok (.iconst 0, 1) := by decide +kernel
theorem dX10_isMeansNext_101 : decode cX10_isMeansNext 101 = .ok (.ireturn, 1) := by decide +kernel
theorem dX10_phraseBegins_0 : decode cX10_phraseBegins 0 = .ok (.aload_n 0, 1) := by decide +kernel
theorem dX10_phraseBegins_1 : decode cX10_phraseBegins 1 = .ok (.getfield 51, 3) := by decide +kernel
theorem dX10_phraseBegins_4 : decode cX10_phraseBegins 4 = .ok (.iconst 0, 1) := by decide +kernel
theorem dX10_phraseBegins_5 : decode cX10_phraseBegins 5 = .ok (.iaload, 1) := by decide +kernel
theorem dX10_phraseBegins_6 : decode cX10_phraseBegins 6 = .ok (.istore_n 2, 1) := by decide +kernel
theorem dX10_phraseBegins_7 : decode cX10_phraseBegins 7 = .ok (.aload_n 0, 1) := by decide +kernel
theorem dX10_phraseBegins_8 : decode cX10_phraseBegins 8 = .ok (.getfield 57, 3) := by decide +kernel
theorem dX10_phraseBegins_11 : decode cX10_phraseBegins 11 = .ok (.iload_n 2, 1) := by decide +kernel
theorem dX10_phraseBegins_12 : decode cX10_phraseBegins 12 = .ok (.iload_n 1, 1) := by decide +kernel
theorem dX10_phraseBegins_13 : decode cX10_phraseBegins 13 = .ok (.iastore, 1) := by decide +kernel
theorem dX10_phraseBegins_14 : decode cX10_phraseBegins 14 = .ok (.aload_n 0, 1) := by decide +kernel
theorem dX10_phraseBegins_15 : decode cX10_phraseBegins 15 = .ok (.getfield 60, 3) := by decide +kernel
theorem dX10_phraseBegins_18 : decode cX10_phraseBegins 18 = .ok (.iload_n 2, 1) := by decide +kernel
theorem dX10_phraseBegins_19 : decode cX10_phraseBegins 19 = .ok (.iconst (-1), 1) := by decide +kernel
theorem dX10_phraseBegins_20 : decode cX10_phraseBegins 20 = .ok (.iastore, 1) := by decide +kernel
theorem dX10_phraseBegins_21 : decode cX10_phraseBegins 21 = .ok (.aload_n 0, 1) := by decide +kernel
theorem dX10_phraseBegins_22 : decode cX10_phraseBegins 22 = .ok (.getfield 63, 3) := by decide +kernel
theorem dX10_phraseBegins_25 : decode cX10_phraseBegins 25 = .ok (.iload_n 2, 1) := by decide +kernel
theorem dX10_phraseBegins_26 : decode cX10_phraseBegins 26 = .ok (.iconst 0, 1) := by decide +kernel
theorem dX10_phraseBegins_27 : decode cX10_phraseBegins 27 = .ok (.iastore, 1) := by decide +kernel
theorem dX10_phraseBegins_28 : decode cX10_phraseBegins 28 = .ok (.aload_n 0, 1) := by decide +kernel
theorem dX10_phraseBegins_29 : decode cX10_phraseBegins 29 = .ok (.getfield 51, 3) := by decide +kernel
theorem dX10_phraseBegins_32 : decode cX10_phraseBegins 32 = .ok (.iconst 0, 1) := by decide +kernel
theorem dX10_phraseBegins_33 : decode cX10_phraseBegins 33 = .ok (.iload_n 2, 1) := by decide +kernel
theorem dX10_phraseBegins_34 : decode cX10_phraseBegins 34 = .ok (.iconst 1, 1) := by decide +kernel
theorem dX10_phraseBegins_35 : decode cX10_phraseBegins 35 = .ok (.iadd, 1) := by decide +kernel
theorem dX10_phraseBegins_36 : decode cX10_phraseBegins 36 = .ok (.iastore, 1) := by decide +kernel
theorem dX10_phraseBegins_37 : decode cX10_phraseBegins 37 = .ok (.aload_n 0, 1) := by decide +kernel
theorem dX10_phraseBegins_38 : decode cX10_phraseBegins 38 = .ok (.iload_n 1, 1) := by decide +kernel
theorem dX10_phraseBegins_39 : decode cX10_phraseBegins 39 = .ok (.ifCond .eq 8, 3) := by decide +kernel
theorem dX10_phraseBegins_42 : decode cX10_phraseBegins 42 = .ok (.iload_n 1, 1) := by decide +kernel
theorem dX10_phraseBegins_43 : decode cX10_phraseBegins 43 = .ok (.iconst 1, 1) := by decide +kernel
theorem dX10_phraseBegins_44 : decode cX10_phraseBegins 44 = .ok (.if_icmp .ne 7, 3) := by decide +kernel
theorem dX10_phraseBegins_47 : decode cX10_phraseBegins 47 = .ok (.iconst 2, 1) := by decide +kernel
theorem dX10_phraseBegins_48 : decode cX10_phraseBegins 48 = .ok (.goto 4, 3) := by decide +kernel
theorem dX10_phraseBegins_51 : decode cX10_phraseBegins 51 = .ok (.iconst 1, 1) := by decide +kernel
theorem dX10_phraseBegins_52 : decode cX10_phraseBegins 52 = .ok (.putfield 259, 3) := by decide +kernel
theorem dX10_phraseBegins_55 : decode cX10_phraseBegins 55 = .ok (.return_, 1) := by decide +kernel
theorem dX10_puts_0 : decode cX10_puts 0 = .ok (.aload_n 0, 1) := by decide +kernel
theorem dX10_puts_1 : decode cX10_puts 1 = .ok (.getfield 84, 3) := by decide +kernel
theorem dX10_puts_4 : decode cX10_puts 4 = .ok (.aload_n 0, 1) := by decide +kernel
theorem dX10_puts_5 : decode cX10_puts 5 = .ok (.getfield 262, 3) := by decide +kernel
theorem dX10_puts_8 : decode cX10_puts 8 = .ok (.iload_n 1, 1) := by decide +kernel
theorem dX10_puts_9 : decode cX10_puts 9 = .ok (.iastore, 1) := by decide +kernel
theorem dX10_puts_10 : decode cX10_puts 10 = .ok (.aload_n 0, 1) := by decide +kernel
theorem dX10_puts_11 : decode cX10_puts 11 = .ok (.getfield 87, 3) := by decide +kernel
theorem dX10_puts_14 : decode cX10_puts 14 = .ok (.aload_n 0, 1) := by decide +kernel
theorem dX10_puts_15 : decode cX10_puts 15 = .ok (.getfield 262, 3) := by decide +kernel
theorem dX10_puts_18 : decode cX10_puts 18 = .ok (.iload_n 2, 1) := by decide +kernel
theorem dX10_puts_19 : decode cX10_puts 19 = .ok (.iastore, 1) := by decide +kernel
theorem dX10_puts_20 : decode cX10_puts 20 = .ok (.aload_n 0, 1) := by decide +kernel
theorem dX10_puts_21 : decode cX10_puts 21 = .ok (.getfield 94, 3) := by decide +kernel
theorem dX10_puts_24 : decode cX10_puts 24 = .ok (.aload_n 0, 1) := by decide +kernel
theorem dX10_puts_25 : decode cX10_puts 25 = .ok (.getfield 262, 3) := by decide +kernel
theorem dX10_puts_28 : decode cX10_puts 28 = .ok (.iload_n 3, 1) := by decide +kernel
theorem dX10_puts_29 : decode cX10_puts 29 = .ok (.bastore, 1) := by decide +kernel
theorem dX10_puts_30 : decode cX10_puts 30 = .ok (.aload_n 0, 1) := by decide +kernel
theorem dX10_puts_31 : decode cX10_puts 31 = .ok (.aload_n 0, 1) := by decide +kernel
theorem dX10_puts_32 : decode cX10_puts 32 = .ok (.getfield 262, 3) := by decide +kernel
theorem dX10_puts_35 : decode cX10_puts 35 = .ok (.iconst 1, 1) := by decide +kernel
theorem dX10_puts_36 : decode cX10_puts 36 = .ok (.iadd, 1) := by decide +kernel
theorem dX10_puts_37 : decode cX10_puts 37 = .ok (.putfield 262, 3) := by decide +kernel
theorem dX10_puts_40 : decode cX10_puts 40 = .ok (.return_, 1) := by decide +kernel
theorem dX10_goesOnward_0 : decode cX10_goesOnward 0 = .ok (.aload_n 0, 1) := by decide +kernel
theorem dX10_goesOnward_1 : decode cX10_goesOnward 1 = .ok (.getfield 54, 3) := by decide +kernel
theorem dX10_goesOnward_4 : decode cX10_goesOnward 4 = .ok (.iconst 0, 1) := by decide +kernel
theorem dX10_goesOnward_5 : decode cX10_goesOnward 5 = .ok (.iaload, 1) := by decide +kernel
theorem dX10_goesOnward_6 : decode cX10_goesOnward 6 = .ok (.istore_n 2, 1) := by decide +kernel
theorem dX10_goesOnward_7 : decode cX10_goesOnward 7 = .ok (.aload_n 0, 1) := by decide +kernel
theorem dX10_goesOnward_8 : decode cX10_goesOnward 8 = .ok (.iconst 0, 1) := by decide +kernel
theorem dX10_goesOnward_9 : decode cX10_goesOnward 9 = .ok (.putfield 262, 3) := by decide +kernel
theorem dX10_goesOnward_12 : decode cX10_goesOnward 12 = .ok (.iconst 0, 1) := by decide +kernel
theorem dX10_goesOnward_13 : decode cX10_goesOnward 13 = .ok (.istore_n 3, 1) := by decide +kernel
theorem dX10_goesOnward_14 : decode cX10_goesOnward 14 = .ok (.iload_n 3, 1) := by decide +kernel
theorem dX10_goesOnward_15 : decode cX10_goesOnward 15 = .ok (.aload_n 0, 1) := by decide +kernel
theorem dX10_goesOnward_16 : decode cX10_goesOnward 16 = .ok (.getfield 265, 3) := by decide +kernel
theorem dX10_goesOnward_19 : decode cX10_goesOnward 19 = .ok (.if_icmp .ge 165, 3) := by decide +kernel
theorem dX10_goesOnward_22 : decode cX10_goesOnward 22 = .ok (.aload_n 0, 1) := by decide +kernel
theorem dX10_goesOnward_23 : decode cX10_goesOnward 23 = .ok (.getfield 268, 3) := by decide +kernel
theorem dX10_goesOnward_26 : decode cX10_goesOnward 26 = .ok (.ifCond .ne 8, 3) := by decide +kernel
theorem dX10_goesOnward_29 : decode cX10_goesOnward 29 = .ok (.iload_n 1, 1) := by decide +kernel
theorem dX10_goesOnward_30 : decode cX10_goesOnward 30 = .ok (.iconst 2, 1) := by decide +kernel
theorem dX10_goesOnward_31 : decode cX10_goesOnward 31 = .ok (.if_icmp .ne 11, 3) := by decide +kernel
theorem dX10_goesOnward_34 : decode cX10_goesOnward 34 = .ok (.aload_n 0, 1) := by decide +kernel
theorem dX10_goesOnward_35 : decode cX10_goesOnward 35 = .ok (.getfield 268, 3) := by decide +kernel
theorem dX10_goesOnward_38 : decode cX10_goesOnward 38 = .ok (.iconst 3, 1) := by decide +kernel
theorem dX10_goesOnward_39 : decode cX10_goesOnward 39 = .ok (.if_icmp .ne 7, 3) := by decide +kernel
theorem dX10_goesOnward_42 : decode cX10_goesOnward 42 = .ok (.iconst 1, 1) := by decide +kernel
theorem dX10_goesOnward_43 : decode cX10_goesOnward 43 = .ok (.goto 4, 3) := by decide +kernel
theorem dX10_goesOnward_46 : decode cX10_goesOnward 46 = .ok (.iconst 0, 1) := by decide +kernel
theorem dX10_goesOnward_47 : decode cX10_goesOnward 47 = .ok (.istore 4, 2) := by decide +kernel
theorem dX10_goesOnward_49 : decode cX10_goesOnward 49 = .ok (.iload 4, 2) := by decide +kernel
theorem dX10_goesOnward_51 : decode cX10_goesOnward 51 = .ok (.ifCond .eq 31, 3) := by decide +kernel
theorem dX10_goesOnward_54 : decode cX10_goesOnward 54 = .ok (.aload_n 0, 1) := by decide +kernel
theorem dX10_goesOnward_55 : decode cX10_goesOnward 55 = .ok (.getfield 90, 3) := by decide +kernel
theorem dX10_goesOnward_58 : decode cX10_goesOnward 58 = .ok (.iload_n 3, 1) := by decide +kernel
theorem dX10_goesOnward_59 : decode cX10_goesOnward 59 = .ok (.baload, 1) := by decide +kernel
theorem dX10_goesOnward_60 : decode cX10_goesOnward 60 = .ok (.ifCond .ne 22, 3) := by decide +kernel
theorem dX10_goesOnward_63 : decode cX10_goesOnward 63 = .ok (.aload_n 0, 1) := by decide +kernel
theorem dX10_goesOnward_64 : decode cX10_goesOnward 64 = .ok (.aload_n 0, 1) := by decide +kernel
theorem dX10_goesOnward_65 : decode cX10_goesOnward 65 = .ok (.getfield 78, 3) := by decide +kernel
theorem dX10_goesOnward_68 : decode cX10_goesOnward 68 = .ok (.iload_n 3, 1) := by decide +kernel
theorem dX10_goesOnward_69 : decode cX10_goesOnward 69 = .ok (.iaload, 1) := by decide +kernel
theorem dX10_goesOnward_70 : decode cX10_goesOnward 70 = .ok (.bipush 8, 2) := by decide +kernel
theorem dX10_goesOnward_72 : decode cX10_goesOnward 72 = .ok (.imul, 1) := by decide +kernel
theorem dX10_goesOnward_73 : decode cX10_goesOnward 73 = .ok (.iconst 1, 1) := by decide +kernel
theorem dX10_goesOnward_74 : decode cX10_goesOnward 74 = .ok (.iload_n 2, 1) := by decide +kernel
theorem dX10_goesOnward_75 : decode cX10_goesOnward 75 = .ok (.iconst 1, 1) := by decide +kernel
theorem dX10_goesOnward_76 : decode cX10_goesOnward 76 = .ok (.iadd, 1) := by decide +kernel
theorem dX10_goesOnward_77 : decode cX10_goesOnward 77 = .ok (.ishl, 1) := by decide +kernel
theorem dX10_goesOnward_78 : decode cX10_goesOnward 78 = .ok (.iconst 1, 1) := by decide +kernel
theorem dX10_goesOnward_79 : decode cX10_goesOnward 79 = .ok (.invokevirtual 271, 3) := by decide +kernel
theorem dX10_goesOnward_82 : decode cX10_goesOnward 82 = .ok (.iconst 0, 1) := by decide +kernel
theorem dX10_goesOnward_83 : decode cX10_goesOnward 83 = .ok (.istore 5, 2) := by decide +kernel
theorem dX10_goesOnward_85 : decode cX10_goesOnward 85 = .ok (.iload 5, 2) := by decide +kernel
theorem dX10_goesOnward_87 : decode cX10_goesOnward 87 = .ok (.iload_n 2, 1) := by decide +kernel
theorem dX10_goesOnward_88 : decode cX10_goesOnward 88 = .ok (.if_icmp .gt 90, 3) := by decide +kernel
theorem dX10_goesOnward_91 : decode cX10_goesOnward 91 = .ok (.aload_n 0, 1) := by decide +kernel
theorem dX10_goesOnward_92 : decode cX10_goesOnward 92 = .ok (.getfield 81, 3) := by decide +kernel
theorem dX10_goesOnward_95 : decode cX10_goesOnward 95 = .ok (.iload_n 3, 1) := by decide +kernel
theorem dX10_goesOnward_96 : decode cX10_goesOnward 96 = .ok (.iaload, 1) := by decide +kernel
theorem dX10_goesOnward_97 : decode cX10_goesOnward 97 = .ok (.iload 5, 2) := by decide +kernel
theorem dX10_goesOnward_99 : decode cX10_goesOnward 99 = .ok (.ishr, 1) := by decide +kernel
theorem dX10_goesOnward_100 : decode cX10_goesOnward 100 = .ok (.iconst 1, 1) := by decide +kernel
theorem dX10_goesOnward_101 : decode cX10_goesOnward 101 = .ok (.iand, 1) := by decide +kernel
theorem dX10_goesOnward_102 : decode cX10_goesOnward 102 = .ok (.ifCond .eq 70, 3) := by decide +kernel
theorem dX10_goesOnward_105 : decode cX10_goesOnward 105 = .ok (.aload_n 0, 1) := by decide +kernel
theorem dX10_goesOnward_106 : decode cX10_goesOnward 106 = .ok (.getfield 57, 3) := by decide +kernel
theorem dX10_goesOnward_109 : decode cX10_goesOnward 109 = .ok (.iload 5, 2) := by decide +kernel
theorem dX10_goesOnward_111 : decode cX10_goesOnward 111 = .ok (.iaload, 1) := by decide +kernel
theorem dX10_goesOnward_112 : decode cX10_goesOnward 112 = .ok (.ifCond .eq 60, 3) := by decide +kernel
theorem dX10_goesOnward_115 : decode cX10_goesOnward 115 = .ok (.aload_n 0, 1) := by decide +kernel
theorem dX10_goesOnward_116 : decode cX10_goesOnward 116 = .ok (.getfield 57, 3) := by decide +kernel
theorem dX10_goesOnward_119 : decode cX10_goesOnward 119 = .ok (.iload 5, 2) := by decide +kernel
theorem dX10_goesOnward_121 : decode cX10_goesOnward 121 = .ok (.iaload, 1) := by decide +kernel
theorem dX10_goesOnward_122 : decode cX10_goesOnward 122 = .ok (.iconst 1, 1) := by decide +kernel
theorem dX10_goesOnward_123 : decode cX10_goesOnward 123 = .ok (.if_icmp .ne 6, 3) := by decide +kernel
theorem dX10_goesOnward_126 : decode cX10_goesOnward 126 = .ok (.goto 46, 3) := by decide +kernel
theorem dX10_goesOnward_129 : decode cX10_goesOnward 129 = .ok (.aload_n 0, 1) := by decide +kernel
theorem dX10_goesOnward_130 : decode cX10_goesOnward 130 = .ok (.aload_n 0, 1) := by decide +kernel
theorem dX10_goesOnward_131 : decode cX10_goesOnward 131 = .ok (.getfield 78, 3) := by decide +kernel
theorem dX10_goesOnward_134 : decode cX10_goesOnward 134 = .ok (.iload_n 3, 1) := by decide +kernel
theorem dX10_goesOnward_135 : decode cX10_goesOnward 135 = .ok (.iaload, 1) := by decide +kernel
theorem dX10_goesOnward_136 : decode cX10_goesOnward 136 = .ok (.bipush 8, 2) := by decide +kernel
theorem dX10_goesOnward_138 : decode cX10_goesOnward 138 = .ok (.imul, 1) := by decide +kernel
theorem dX10_goesOnward_139 : decode cX10_goesOnward 139 = .ok (.iconst 1, 1) := by decide +kernel
theorem dX10_goesOnward_140 : decode cX10_goesOnward 140 = .ok (.iadd, 1) := by decide +kernel
theorem dX10_goesOnward_141 : decode cX10_goesOnward 141 = .ok (.iload 5, 2) := by decide +kernel
theorem dX10_goesOnward_143 : decode cX10_goesOnward 143 = .ok (.iadd, 1) := by decide +kernel
theorem dX10_goesOnward_144 : decode cX10_goesOnward 144 = .ok (.aload_n 0, 1) := by decide +kernel
theorem dX10_goesOnward_145 : decode cX10_goesOnward 145 = .ok (.getfield 81, 3) := by decide +kernel
theorem dX10_goesOnward_148 : decode cX10_goesOnward 148 = .ok (.iload_n 3, 1) := by decide +kernel
theorem dX10_goesOnward_149 : decode cX10_goesOnward 149 = .ok (.iaload, 1) := by decide +kernel
theorem dX10_goesOnward_150 : decode cX10_goesOnward 150 = .ok (.iconst 2, 1) := by decide +kernel
theorem dX10_goesOnward_151 : decode cX10_goesOnward 151 = .ok (.iload 5, 2) := by decide +kernel
theorem dX10_goesOnward_153 : decode cX10_goesOnward 153 = .ok (.ishl, 1) := by decide +kernel
theorem dX10_goesOnward_154 : decode cX10_goesOnward 154 = .ok (.iconst 1, 1) := by decide +kernel
theorem dX10_goesOnward_155 : decode cX10_goesOnward 155 = .ok (.isub, 1) := by decide +kernel
theorem dX10_goesOnward_156 : decode cX10_goesOnward 156 = .ok (.iand, 1) := by decide +kernel
theorem dX10_goesOnward_157 : decode cX10_goesOnward 157 = .ok (.iconst 1, 1) := by decide +kernel
theorem dX10_goesOnward_158 : decode cX10_goesOnward 158 = .ok (.iload_n 2, 1) := by decide +kernel
theorem dX10_goesOnward_159 : decode cX10_goesOnward 159 = .ok (.iconst 1, 1) := by decide +kernel
theorem dX10_goesOnward_160 : decode cX10_goesOnward 160 = .ok (.iadd, 1) := by decide +kernel
theorem dX10_goesOnward_161 : decode cX10_goesOnward 161 = .ok (.ishl, 1) := by decide +kernel
theorem dX10_goesOnward_162 : decode cX10_goesOnward 162 = .ok (.ior, 1) := by decide +kernel
theorem dX10_goesOnward_163 : decode cX10_goesOnward 163 = .ok (.aload_n 0, 1) := by decide +kernel
theorem dX10_goesOnward_164 : decode cX10_goesOnward 164 = .ok (.getfield 90, 3) := by decide +kernel
theorem dX10_goesOnward_167 : decode cX10_goesOnward 167 = .ok (.iload_n 3, 1) := by decide +kernel
theorem dX10_goesOnward_168 : decode cX10_goesOnward 168 = .ok (.baload, 1) := by decide +kernel
theorem dX10_goesOnward_169 : decode cX10_goesOnward 169 = .ok (.invokevirtual 271, 3) := by decide +kernel
theorem dX10_goesOnward_172 : decode cX10_goesOnward 172 = .ok (.iinc 5 1, 3) := by decide +kernel
theorem dX10_goesOnward_175 : decode cX10_goesOnward 175 = .ok (.goto (-90), 3) := by decide +kernel
theorem dX10_goesOnward_178 : decode cX10_goesOnward 178 = .ok (.iinc 3 1, 3) := by decide +kernel
theorem dX10_goesOnward_181 : decode cX10_goesOnward 181 = .ok (.goto (-167), 3) := by decide +kernel
theorem dX10_goesOnward_184 : decode cX10_goesOnward 184 = .ok (.aload_n 0, 1) := by decide +kernel
theorem dX10_goesOnward_185 : decode cX10_goesOnward 185 = .ok (.getfield 262, 3) := by decide +kernel
theorem dX10_goesOnward_188 : decode cX10_goesOnward 188 = .ok (.ifCond .ne 5, 3) := by decide +kernel
theorem dX10_goesOnward_191 : decode cX10_goesOnward 191 = .ok (.iconst 0, 1) := by decide +kernel
theorem dX10_goesOnward_192 : decode cX10_goesOnward 192 = .ok (.ireturn, 1) := by decide +kernel
theorem dX10_goesOnward_193 : decode cX10_goesOnward 193 = .ok (.aload_n 0, 1) := by decide +kernel
theorem dX10_goesOnward_194 : decode cX10_goesOnward 194 = .ok (.invokevirtual 275, 3) := by decide +kernel
theorem dX10_goesOnward_197 : decode cX10_goesOnward 197 = .ok (.aload_n 0, 1) := by decide +kernel
theorem dX10_goesOnward_198 : decode cX10_goesOnward 198 = .ok (.getfield 66, 3) := by decide +kernel
theorem dX10_goesOnward_201 : decode cX10_goesOnward 201 = .ok (.iload_n 2, 1) := by decide +kernel
theorem dX10_goesOnward_202 : decode cX10_goesOnward 202 = .ok (.iload_n 1, 1) := by decide +kernel
theorem dX10_goesOnward_203 : decode cX10_goesOnward 203 = .ok (.iastore, 1) := by decide +kernel
theorem dX10_goesOnward_204 : decode cX10_goesOnward 204 = .ok (.aload_n 0, 1) := by decide +kernel
theorem dX10_goesOnward_205 : decode cX10_goesOnward 205 = .ok (.getfield 54, 3) := by decide +kernel
theorem dX10_goesOnward_208 : decode cX10_goesOnward 208 = .ok (.iconst 0, 1) := by decide +kernel
theorem dX10_goesOnward_209 : decode cX10_goesOnward 209 = .ok (.iload_n 2, 1) := by decide +kernel
theorem dX10_goesOnward_210 : decode cX10_goesOnward 210 = .ok (.iconst 1, 1) := by decide +kernel
theorem dX10_goesOnward_211 : decode cX10_goesOnward 211 = .ok (.iadd, 1) := by decide +kernel
theorem dX10_goesOnward_212 : decode cX10_goesOnward 212 = .ok (.iastore, 1) := by decide +kernel
theorem dX10_goesOnward_213 : decode cX10_goesOnward 213 = .ok (.aload_n 0, 1) := by decide +kernel
theorem dX10_goesOnward_214 : decode cX10_goesOnward 214 = .ok (.iconst 0, 1) := by decide +kernel
theorem dX10_goesOnward_215 : decode cX10_goesOnward 215 = .ok (.putfield 259, 3) := by decide +kernel
theorem dX10_goesOnward_218 : decode cX10_goesOnward 218 = .ok (.iconst 1, 1) := by decide +kernel
theorem dX10_goesOnward_219 : decode cX10_goesOnward 219 = .ok (.ireturn, 1) := by decide +kernel
theorem dX10_takesNext_0 : decode cX10_takesNext 0 = .ok (.aload_n 0, 1) := by decide +kernel
theorem dX10_takesNext_1 : decode cX10_takesNext 1 = .ok (.aload_n 0, 1) := by decide +kernel
theorem dX10_takesNext_2 : decode cX10_takesNext 2 = .ok (.getfield 262, 3) := by decide +kernel
theorem dX10_takesNext_5 : decode cX10_takesNext 5 = .ok (.putfield 265, 3) := by decide +kernel
theorem dX10_takesNext_8 : decode cX10_takesNext 8 = .ok (.iconst 0, 1) := by decide +kernel
theorem dX10_takesNext_9 : decode cX10_takesNext 9 = .ok (.istore_n 1, 1) := by decide +kernel
theorem dX10_takesNext_10 : decode cX10_takesNext 10 = .ok (.iload_n 1, 1) := by decide +kernel
theorem dX10_takesNext_11 : decode cX10_takesNext 11 = .ok (.aload_n 0, 1) := by decide +kernel
theorem dX10_takesNext_12 : decode cX10_takesNext 12 = .ok (.getfield 265, 3) := by decide +kernel
theorem dX10_takesNext_15 : decode cX10_takesNext 15 = .ok (.if_icmp .ge 45, 3) := by decide +kernel
theorem dX10_takesNext_18 : decode cX10_takesNext 18 = .ok (.aload_n 0, 1) := by decide +kernel
theorem dX10_takesNext_19 : decode cX10_takesNext 19 = .ok (.getfield 78, 3) := by decide +kernel
theorem dX10_takesNext_22 : decode cX10_takesNext 22 = .ok (.iload_n 1, 1) := by decide +kernel
theorem dX10_takesNext_23 : decode cX10_takesNext 23 = .ok (.aload_n 0, 1) := by decide +kernel
theorem dX10_takesNext_24 : decode cX10_takesNext 24 = .ok (.getfield 84, 3) := by decide +kernel
theorem dX10_takesNext_27 : decode cX10_takesNext 27 = .ok (.iload_n 1, 1) := by decide +kernel
theorem dX10_takesNext_28 : decode cX10_takesNext 28 = .ok (.iaload, 1) := by decide +kernel
theorem dX10_takesNext_29 : decode cX10_takesNext 29 = .ok (.iastore, 1) := by decide +kernel
theorem dX10_takesNext_30 : decode cX10_takesNext 30 = .ok (.aload_n 0, 1) := by decide +kernel
theorem dX10_takesNext_31 : decode cX10_takesNext 31 = .ok (.getfield 81, 3) := by decide +kernel
theorem dX10_takesNext_34 : decode cX10_takesNext 34 = .ok (.iload_n 1, 1) := by decide +kernel
theorem dX10_takesNext_35 : decode cX10_takesNext 35 = .ok (.aload_n 0, 1) := by decide +kernel
theorem dX10_takesNext_36 : decode cX10_takesNext 36 = .ok (.getfield 87, 3) := by decide +kernel
theorem dX10_takesNext_39 : decode cX10_takesNext 39 = .ok (.iload_n 1, 1) := by decide +kernel
theorem dX10_takesNext_40 : decode cX10_takesNext 40 = .ok (.iaload, 1) := by decide +kernel
theorem dX10_takesNext_41 : decode cX10_takesNext 41 = .ok (.iastore, 1) := by decide +kernel
theorem dX10_takesNext_42 : decode cX10_takesNext 42 = .ok (.aload_n 0, 1) := by decide +kernel
theorem dX10_takesNext_43 : decode cX10_takesNext 43 = .ok (.getfield 90, 3) := by decide +kernel
theorem dX10_takesNext_46 : decode cX10_takesNext 46 = .ok (.iload_n 1, 1) := by decide +kernel
theorem dX10_takesNext_47 : decode cX10_takesNext 47 = .ok (.aload_n 0, 1) := by decide +kernel
theorem dX10_takesNext_48 : decode cX10_takesNext 48 = .ok (.getfield 94, 3) := by decide +kernel
theorem dX10_takesNext_51 : decode cX10_takesNext 51 = .ok (.iload_n 1, 1) := by decide +kernel
theorem dX10_takesNext_52 : decode cX10_takesNext 52 = .ok (.baload, 1) := by decide +kernel
theorem dX10_takesNext_53 : decode cX10_takesNext 53 = .ok (.bastore, 1) := by decide +kernel
theorem dX10_takesNext_54 : decode cX10_takesNext 54 = .ok (.iinc 1 1, 3) := by decide +kernel
theorem dX10_takesNext_57 : decode cX10_takesNext 57 = .ok (.goto (-47), 3) := by decide +kernel
theorem dX10_takesNext_60 : decode cX10_takesNext 60 = .ok (.return_, 1) := by decide +kernel
theorem dX10_keepsThose_0 : decode cX10_keepsThose 0 = .ok (.aload_n 0, 1) := by decide +kernel
theorem dX10_keepsThose_1 : decode cX10_keepsThose 1 = .ok (.iconst 0, 1) := by decide +kernel
theorem dX10_keepsThose_2 : decode cX10_keepsThose 2 = .ok (.putfield 262, 3) := by decide +kernel
theorem dX10_keepsThose_5 : decode cX10_keepsThose 5 = .ok (.iconst 0, 1) := by decide +kernel
theorem dX10_keepsThose_6 : decode cX10_keepsThose 6 = .ok (.istore_n 2, 1) := by decide +kernel
theorem dX10_keepsThose_7 : decode cX10_keepsThose 7 = .ok (.iload_n 2, 1) := by decide +kernel
theorem dX10_keepsThose_8 : decode cX10_keepsThose 8 = .ok (.aload_n 0, 1) := by decide +kernel
theorem dX10_keepsThose_9 : decode cX10_keepsThose 9 = .ok (.getfield 265, 3) := by decide +kernel
theorem dX10_keepsThose_12 : decode cX10_keepsThose 12 = .ok (.if_icmp .ge 36, 3) := by decide +kernel
theorem dX10_keepsThose_15 : decode cX10_keepsThose 15 = .ok (.aload_n 0, 1) := by decide +kernel
theorem dX10_keepsThose_16 : decode cX10_keepsThose 16 = .ok (.getfield 90, 3) := by decide +kernel
theorem dX10_keepsThose_19 : decode cX10_keepsThose 19 = .ok (.iload_n 2, 1) := by decide +kernel
theorem dX10_keepsThose_20 : decode cX10_keepsThose 20 = .ok (.baload, 1) := by decide +kernel
theorem dX10_keepsThose_21 : decode cX10_keepsThose 21 = .ok (.iload_n 1, 1) := by decide +kernel
theorem dX10_keepsThose_22 : decode cX10_keepsThose 22 = .ok (.if_icmp .ne 20, 3) := by decide +kernel
theorem dX10_keepsThose_25 : decode cX10_keepsThose 25 = .ok (.aload_n 0, 1) := by decide +kernel
theorem dX10_keepsThose_26 : decode cX10_keepsThose 26 = .ok (.aload_n 0, 1) := by decide +kernel
theorem dX10_keepsThose_27 : decode cX10_keepsThose 27 = .ok (.getfield 78, 3) := by decide +kernel
theorem dX10_keepsThose_30 : decode cX10_keepsThose 30 = .ok (.iload_n 2, 1) := by decide +kernel
theorem dX10_keepsThose_31 : decode cX10_keepsThose 31 = .ok (.iaload, 1) := by decide +kernel
theorem dX10_keepsThose_32 : decode cX10_keepsThose 32 = .ok (.aload_n 0, 1) := by decide +kernel
theorem dX10_keepsThose_33 : decode cX10_keepsThose 33 = .ok (.getfield 81, 3) := by decide +kernel
theorem dX10_keepsThose_36 : decode cX10_keepsThose 36 = .ok (.iload_n 2, 1) := by decide +kernel
theorem dX10_keepsThose_37 : decode cX10_keepsThose 37 = .ok (.iaload, 1) := by decide +kernel
theorem dX10_keepsThose_38 : decode cX10_keepsThose 38 = .ok (.iload_n 1, 1) := by decide +kernel
theorem dX10_keepsThose_39 : decode cX10_keepsThose 39 = .ok (.invokevirtual 271, 3) := by decide +kernel
theorem dX10_keepsThose_42 : decode cX10_keepsThose 42 = .ok (.iinc 2 1, 3) := by decide +kernel
theorem dX10_keepsThose_45 : decode cX10_keepsThose 45 = .ok (.goto (-38), 3) := by decide +kernel
theorem dX10_keepsThose_48 : decode cX10_keepsThose 48 = .ok (.aload_n 0, 1) := by decide +kernel
theorem dX10_keepsThose_49 : decode cX10_keepsThose 49 = .ok (.invokevirtual 275, 3) := by decide +kernel
theorem dX10_keepsThose_52 : decode cX10_keepsThose 52 = .ok (.aload_n 0, 1) := by decide +kernel
theorem dX10_keepsThose_53 : decode cX10_keepsThose 53 = .ok (.getfield 265, 3) := by decide +kernel
theorem dX10_keepsThose_56 : decode cX10_keepsThose 56 = .ok (.ifCond .le 7, 3) := by decide +kernel
theorem dX10_keepsThose_59 : decode cX10_keepsThose 59 = .ok (.iconst 1, 1) := by decide +kernel
theorem dX10_keepsThose_60 : decode cX10_keepsThose 60 = .ok (.goto 4, 3) := by decide +kernel
theorem dX10_keepsThose_63 : decode cX10_keepsThose 63 = .ok (.iconst 0, 1) := by decide +kernel
theorem dX10_keepsThose_64 : decode cX10_keepsThose 64 = .ok (.ireturn, 1) := by decide +kernel
theorem dX10_takesNoun_0 : decode cX10_takesNoun 0 = .ok (.aload_n 0, 1) := by decide +kernel
theorem dX10_takesNoun_1 : decode cX10_takesNoun 1 = .ok (.getfield 51, 3) := by decide +kernel
theorem dX10_takesNoun_4 : decode cX10_takesNoun 4 = .ok (.iconst 0, 1) := by decide +kernel
theorem dX10_takesNoun_5 : decode cX10_takesNoun 5 = .ok (.iaload, 1) := by decide +kernel
theorem dX10_takesNoun_6 : decode cX10_takesNoun 6 = .ok (.iconst 1, 1) := by decide +kernel
theorem dX10_takesNoun_7 : decode cX10_takesNoun 7 = .ok (.isub, 1) := by decide +kernel
theorem dX10_takesNoun_8 : decode cX10_takesNoun 8 = .ok (.istore_n 2, 1) := by decide +kernel
theorem dX10_takesNoun_9 : decode cX10_takesNoun 9 = .ok (.iload_n 1, 1) := by decide +kernel
theorem dX10_takesNoun_10 : decode cX10_takesNoun 10 = .ok (.bipush 18, 2) := by decide +kernel
theorem dX10_takesNoun_12 : decode cX10_takesNoun 12 = .ok (.if_icmp .lt 30, 3) := by decide +kernel
theorem dX10_takesNoun_15 : decode cX10_takesNoun 15 = .ok (.iload_n 1, 1) := by decide +kernel
theorem dX10_takesNoun_16 : decode cX10_takesNoun 16 = .ok (.bipush 23, 2) := by decide +kernel
theorem dX10_takesNoun_18 : decode cX10_takesNoun 18 = .ok (.if_icmp .gt 24, 3) := by decide +kernel
theorem dX10_takesNoun_21 : decode cX10_takesNoun 21 = .ok (.aload_n 0, 1) := by decide +kernel
theorem dX10_takesNoun_22 : decode cX10_takesNoun 22 = .ok (.getfield 63, 3) := by decide +kernel
theorem dX10_takesNoun_25 : decode cX10_takesNoun 25 = .ok (.iload_n 2, 1) := by decide +kernel
theorem dX10_takesNoun_26 : decode cX10_takesNoun 26 = .ok (.aload_n 0, 1) := by decide +kernel
theorem dX10_takesNoun_27 : decode cX10_takesNoun 27 = .ok (.getfield 63, 3) := by decide +kernel
theorem dX10_takesNoun_30 : decode cX10_takesNoun 30 = .ok (.iload_n 2, 1) := by decide +kernel
theorem dX10_takesNoun_31 : decode cX10_takesNoun 31 = .ok (.iaload, 1) := by decide +kernel
theorem dX10_takesNoun_32 : decode cX10_takesNoun 32 = .ok (.iconst 1, 1) := by decide +kernel
theorem dX10_takesNoun_33 : decode cX10_takesNoun 33 = .ok (.iload_n 1, 1) := by decide +kernel
theorem dX10_takesNoun_34 : decode cX10_takesNoun 34 = .ok (.bipush 18, 2) := by decide +kernel
theorem dX10_takesNoun_36 : decode cX10_takesNoun 36 = .ok (.isub, 1) := by decide +kernel
theorem dX10_takesNoun_37 : decode cX10_takesNoun 37 = .ok (.ishl, 1) := by decide +kernel
theorem dX10_takesNoun_38 : decode cX10_takesNoun 38 = .ok (.ior, 1) := by decide +kernel
theorem dX10_takesNoun_39 : decode cX10_takesNoun 39 = .ok (.iastore, 1) := by decide +kernel
theorem dX10_takesNoun_40 : decode cX10_takesNoun 40 = .ok (.iconst 1, 1) := by decide +kernel
theorem dX10_takesNoun_41 : decode cX10_takesNoun 41 = .ok (.ireturn, 1) := by decide +kernel
theorem dX10_takesNoun_42 : decode cX10_takesNoun 42 = .ok (.iload_n 1, 1) := by decide +kernel
theorem dX10_takesNoun_43 : decode cX10_takesNoun 43 = .ok (.bipush 24, 2) := by decide +kernel
theorem dX10_takesNoun_45 : decode cX10_takesNoun 45 = .ok (.bipush 28, 2) := by decide +kernel
theorem dX10_takesNoun_47 : decode cX10_takesNoun 47 = .ok (.invokestatic 187, 3) := by decide +kernel
theorem dX10_takesNoun_50 : decode cX10_takesNoun 50 = .ok (.ifCond .ne 11, 3) := by decide +kernel
theorem dX10_takesNoun_53 : decode cX10_takesNoun 53 = .ok (.iload_n 1, 1) := by decide +kernel
theorem dX10_takesNoun_54 : decode cX10_takesNoun 54 = .ok (.bipush 40, 2) := by decide +kernel
theorem dX10_takesNoun_56 : decode cX10_takesNoun 56 = .ok (.if_icmp .ge 5, 3) := by decide +kernel
theorem dX10_takesNoun_59 : decode cX10_takesNoun 59 = .ok (.iconst 0, 1) := by decide +kernel
theorem dX10_takesNoun_60 : decode cX10_takesNoun 60 = .ok (.ireturn, 1) := by decide +kernel
theorem dX10_takesNoun_61 : decode cX10_takesNoun 61 = .ok (.aload_n 0, 1) := by decide +kernel
theorem dX10_takesNoun_62 : decode cX10_takesNoun 62 = .ok (.getfield 60, 3) := by decide +kernel
theorem dX10_takesNoun_65 : decode cX10_takesNoun 65 = .ok (.iload_n 2, 1) := by decide +kernel
theorem dX10_takesNoun_66 : decode cX10_takesNoun 66 = .ok (.iload_n 1, 1) := by decide +kernel
theorem dX10_takesNoun_67 : decode cX10_takesNoun 67 = .ok (.iastore, 1) := by decide +kernel
theorem dX10_takesNoun_68 : decode cX10_takesNoun 68 = .ok (.aload_n 0, 1) := by decide +kernel
theorem dX10_takesNoun_69 : decode cX10_takesNoun 69 = .ok (.iconst 2, 1) := by decide +kernel
theorem dX10_takesNoun_70 : decode cX10_takesNoun 70 = .ok (.putfield 259, 3) := by decide +kernel
theorem dX10_takesNoun_73 : decode cX10_takesNoun 73 = .ok (.iconst 1, 1) := by decide +kernel
theorem dX10_takesNoun_74 : decode cX10_takesNoun 74 = .ok (.ireturn, 1) := by decide +kernel
theorem dX10_takesWord_0 : decode cX10_takesWord 0 = .ok (.aload_n 0, 1) := by decide +kernel
theorem dX10_takesWord_1 : decode cX10_takesWord 1 = .ok (.getfield 259, 3) := by decide +kernel
theorem dX10_takesWord_4 : decode cX10_takesWord 4 = .ok (.tableswitch 217 0 5 #[40, 90, 96, 151, 153, 173], 40) := by decide +kernel
theorem dX10_takesWord_44 : decode cX10_takesWord 44 = .ok (.iload_n 1, 1) := by decide +kernel
theorem dX10_takesWord_45 : decode cX10_takesWord 45 = .ok (.bipush 10, 2) := by decide +kernel
theorem dX10_takesWord_47 : decode cX10_takesWord 47 = .ok (.bipush 13, 2) := by decide +kernel
theorem dX10_takesWord_49 : decode cX10_takesWord 49 = .ok (.invokestatic 187, 3) := by decide +kernel
theorem dX10_takesWord_52 : decode cX10_takesWord 52 = .ok (.ifCond .ne 5, 3) := by decide +kernel
theorem dX10_takesWord_55 : decode cX10_takesWord 55 = .ok (.iconst 0, 1) := by decide +kernel
theorem dX10_takesWord_56 : decode cX10_takesWord 56 = .ok (.ireturn, 1) := by decide +kernel
theorem dX10_takesWord_57 : decode cX10_takesWord 57 = .ok (.aload_n 0, 1) := by decide +kernel
theorem dX10_takesWord_58 : decode cX10_takesWord 58 = .ok (.iload_n 1, 1) := by decide +kernel
theorem dX10_takesWord_59 : decode cX10_takesWord 59 = .ok (.bipush 10, 2) := by decide +kernel
theorem dX10_takesWord_61 : decode cX10_takesWord 61 = .ok (.if_icmp .ne 7, 3) := by decide +kernel
theorem dX10_takesWord_64 : decode cX10_takesWord 64 = .ok (.iconst 2, 1) := by decide +kernel
theorem dX10_takesWord_65 : decode cX10_takesWord 65 = .ok (.goto 24, 3) := by decide +kernel
theorem dX10_takesWord_68 : decode cX10_takesWord 68 = .ok (.iload_n 1, 1) := by decide +kernel
theorem dX10_takesWord_69 : decode cX10_takesWord 69 = .ok (.bipush 11, 2) := by decide +kernel
theorem dX10_takesWord_71 : decode cX10_takesWord 71 = .ok (.if_icmp .ne 7, 3) := by decide +kernel
theorem dX10_takesWord_74 : decode cX10_takesWord 74 = .ok (.iconst 3, 1) := by decide +kernel
theorem dX10_takesWord_75 : decode cX10_takesWord 75 = .ok (.goto 14, 3) := by decide +kernel
theorem dX10_takesWord_78 : decode cX10_takesWord 78 = .ok (.iload_n 1, 1) := by decide +kernel
theorem dX10_takesWord_79 : decode cX10_takesWord 79 = .ok (.bipush 12, 2) := by decide +kernel
theorem dX10_takesWord_81 : decode cX10_takesWord 81 = .ok (.if_icmp .ne 7, 3) := by decide +kernel
theorem dX10_takesWord_84 : decode cX10_takesWord 84 = .ok (.iconst 0, 1) := by decide +kernel
theorem dX10_takesWord_85 : decode cX10_takesWord 85 = .ok (.goto 4, 3) := by decide +kernel
theorem dX10_takesWord_88 : decode cX10_takesWord 88 = .ok (.iconst 1, 1) := by decide +kernel
theorem dX10_takesWord_89 : decode cX10_takesWord 89 = .ok (.invokevirtual 278, 3) := by decide +kernel
theorem dX10_takesWord_92 : decode cX10_takesWord 92 = .ok (.iconst 1, 1) := by decide +kernel
theorem dX10_takesWord_93 : decode cX10_takesWord 93 = .ok (.ireturn, 1) := by decide +kernel
theorem dX10_takesWord_94 : decode cX10_takesWord 94 = .ok (.aload_n 0, 1) := by decide +kernel
theorem dX10_takesWord_95 : decode cX10_takesWord 95 = .ok (.iload_n 1, 1) := by decide +kernel
theorem dX10_takesWord_96 : decode cX10_takesWord 96 = .ok (.invokevirtual 281, 3) := by decide +kernel
theorem dX10_takesWord_99 : decode cX10_takesWord 99 = .ok (.ireturn, 1) := by decide +kernel
theorem dX10_takesWord_100 : decode cX10_takesWord 100 = .ok (.iload_n 1, 1) := by decide +kernel
theorem dX10_takesWord_101 : decode cX10_takesWord 101 = .ok (.bipush 14, 2) := by decide +kernel
theorem dX10_takesWord_103 : decode cX10_takesWord 103 = .ok (.bipush 16, 2) := by decide +kernel
theorem dX10_takesWord_105 : decode cX10_takesWord 105 = .ok (.invokestatic 187, 3) := by decide +kernel
theorem dX10_takesWord_108 : decode cX10_takesWord 108 = .ok (.ifCond .eq 12, 3) := by decide +kernel
theorem dX10_takesWord_111 : decode cX10_takesWord 111 = .ok (.aload_n 0, 1) := by decide +kernel
theorem dX10_takesWord_112 : decode cX10_takesWord 112 = .ok (.iload_n 1, 1) := by decide +kernel
theorem dX10_takesWord_113 : decode cX10_takesWord 113 = .ok (.bipush 14, 2) := by decide +kernel
theorem dX10_takesWord_115 : decode cX10_takesWord 115 = .ok (.isub, 1) := by decide +kernel
theorem dX10_takesWord_116 : decode cX10_takesWord 116 = .ok (.invokevirtual 284, 3) := by decide +kernel
theorem dX10_takesWord_119 : decode cX10_takesWord 119 = .ok (.ireturn, 1) := by decide +kernel
theorem dX10_takesWord_120 : decode cX10_takesWord 120 = .ok (.iload_n 1, 1) := by decide +kernel
theorem dX10_takesWord_121 : decode cX10_takesWord 121 = .ok (.bipush 17, 2) := by decide +kernel
theorem dX10_takesWord_123 : decode cX10_takesWord 123 = .ok (.if_icmp .ne 18, 3) := by decide +kernel
theorem dX10_takesWord_126 : decode cX10_takesWord 126 = .ok (.aload_n 0, 1) := by decide +kernel
theorem dX10_takesWord_127 : decode cX10_takesWord 127 = .ok (.getfield 268, 3) := by decide +kernel
theorem dX10_takesWord_130 : decode cX10_takesWord 130 = .ok (.ifCond .ne 11, 3) := by decide +kernel
theorem dX10_takesWord_133 : decode cX10_takesWord 133 = .ok (.aload_n 0, 1) := by decide +kernel
theorem dX10_takesWord_134 : decode cX10_takesWord 134 = .ok (.iconst 0, 1) := by decide +kernel
theorem dX10_takesWord_135 : decode cX10_takesWord 135 = .ok (.invokevirtual 287, 3) := by decide +kernel
theorem dX10_takesWord_138 : decode cX10_takesWord 138 = .ok (.ifCond .ne 5, 3) := by decide +kernel
theorem dX10_takesWord_141 : decode cX10_takesWord 141 = .ok (.iconst 0, 1) := by decide +kernel
theorem dX10_takesWord_142 : decode cX10_takesWord 142 = .ok (.ireturn, 1) := by decide +kernel
theorem dX10_takesWord_143 : decode cX10_takesWord 143 = .ok (.aload_n 0, 1) := by decide +kernel
theorem dX10_takesWord_144 : decode cX10_takesWord 144 = .ok (.iconst 1, 1) := by decide +kernel
theorem dX10_takesWord_145 : decode cX10_takesWord 145 = .ok (.putfield 291, 3) := by decide +kernel
theorem dX10_takesWord_148 : decode cX10_takesWord 148 = .ok (.aload_n 0, 1) := by decide +kernel
theorem dX10_takesWord_149 : decode cX10_takesWord 149 = .ok (.iconst 3, 1) := by decide +kernel
theorem dX10_takesWord_150 : decode cX10_takesWord 150 = .ok (.putfield 259, 3) := by decide +kernel
theorem dX10_takesWord_153 : decode cX10_takesWord 153 = .ok (.iconst 1, 1) := by decide +kernel
theorem dX10_takesWord_154 : decode cX10_takesWord 154 = .ok (.ireturn, 1) := by decide +kernel
theorem dX10_takesWord_155 : decode cX10_takesWord 155 = .ok (.iconst 0, 1) := by decide +kernel
theorem dX10_takesWord_156 : decode cX10_takesWord 156 = .ok (.ireturn, 1) := by decide +kernel
theorem dX10_takesWord_157 : decode cX10_takesWord 157 = .ok (.iload_n 1, 1) := by decide +kernel
theorem dX10_takesWord_158 : decode cX10_takesWord 158 = .ok (.bipush 8, 2) := by decide +kernel
theorem dX10_takesWord_160 : decode cX10_takesWord 160 = .ok (.if_icmp .eq 5, 3) := by decide +kernel
theorem dX10_takesWord_163 : decode cX10_takesWord 163 = .ok (.iconst 0, 1) := by decide +kernel
theorem dX10_takesWord_164 : decode cX10_takesWord 164 = .ok (.ireturn, 1) := by decide +kernel
theorem dX10_takesWord_165 : decode cX10_takesWord 165 = .ok (.aload_n 0, 1) := by decide +kernel
theorem dX10_takesWord_166 : decode cX10_takesWord 166 = .ok (.iconst 4, 1) := by decide +kernel
theorem dX10_takesWord_167 : decode cX10_takesWord 167 = .ok (.invokevirtual 278, 3) := by decide +kernel
theorem dX10_takesWord_170 : decode cX10_takesWord 170 = .ok (.aload_n 0, 1) := by decide +kernel
theorem dX10_takesWord_171 : decode cX10_takesWord 171 = .ok (.iconst 5, 1) := by decide +kernel
theorem dX10_takesWord_172 : decode cX10_takesWord 172 = .ok (.putfield 259, 3) := by decide +kernel
theorem dX10_takesWord_175 : decode cX10_takesWord 175 = .ok (.iconst 1, 1) := by decide +kernel
theorem dX10_takesWord_176 : decode cX10_takesWord 176 = .ok (.ireturn, 1) := by decide +kernel
theorem dX10_takesWord_177 : decode cX10_takesWord 177 = .ok (.aload_n 0, 1) := by decide +kernel
theorem dX10_takesWord_178 : decode cX10_takesWord 178 = .ok (.iload_n 1, 1) := by decide +kernel
theorem dX10_takesWord_179 : decode cX10_takesWord 179 = .ok (.bipush 9, 2) := by decide +kernel
theorem dX10_takesWord_181 : decode cX10_takesWord 181 = .ok (.if_icmp .ne 8, 3) := by decide +kernel
theorem dX10_takesWord_184 : decode cX10_takesWord 184 = .ok (.bipush 8, 2) := by decide +kernel
theorem dX10_takesWord_186 : decode cX10_takesWord 186 = .ok (.goto 7, 3) := by decide +kernel
theorem dX10_takesWord_189 : decode cX10_takesWord 189 = .ok (.aload_n 0, 1) := by decide +kernel
theorem dX10_takesWord_190 : decode cX10_takesWord 190 = .ok (.getfield 268, 3) := by decide +kernel
theorem dX10_takesWord_193 : decode cX10_takesWord 193 = .ok (.putfield 268, 3) := by decide +kernel
theorem dX10_takesWord_196 : decode cX10_takesWord 196 = .ok (.aload_n 0, 1) := by decide +kernel
theorem dX10_takesWord_197 : decode cX10_takesWord 197 = .ok (.iconst 1, 1) := by decide +kernel
theorem dX10_takesWord_198 : decode cX10_takesWord 198 = .ok (.putfield 259, 3) := by decide +kernel
theorem dX10_takesWord_201 : decode cX10_takesWord 201 = .ok (.iload_n 1, 1) := by decide +kernel
theorem dX10_takesWord_202 : decode cX10_takesWord 202 = .ok (.bipush 9, 2) := by decide +kernel
theorem dX10_takesWord_204 : decode cX10_takesWord 204 = .ok (.if_icmp .eq 11, 3) := by decide +kernel
theorem dX10_takesWord_207 : decode cX10_takesWord 207 = .ok (.aload_n 0, 1) := by decide +kernel
theorem dX10_takesWord_208 : decode cX10_takesWord 208 = .ok (.iload_n 1, 1) := by decide +kernel
theorem dX10_takesWord_209 : decode cX10_takesWord 209 = .ok (.invokevirtual 281, 3) := by decide +kernel
theorem dX10_takesWord_212 : decode cX10_takesWord 212 = .ok (.ifCond .eq 7, 3) := by decide +kernel
theorem dX10_takesWord_215 : decode cX10_takesWord 215 = .ok (.iconst 1, 1) := by decide +kernel
theorem dX10_takesWord_216 : decode cX10_takesWord 216 = .ok (.goto 4, 3) := by decide +kernel
theorem dX10_takesWord_219 : decode cX10_takesWord 219 = .ok (.iconst 0, 1) := by decide +kernel
theorem dX10_takesWord_220 : decode cX10_takesWord 220 = .ok (.ireturn, 1) := by decide +kernel
theorem dX10_takesWord_221 : decode cX10_takesWord 221 = .ok (.iload_n 1, 1) := by decide +kernel
theorem dX10_takesWord_222 : decode cX10_takesWord 222 = .ok (.bipush 6, 2) := by decide +kernel
theorem dX10_takesWord_224 : decode cX10_takesWord 224 = .ok (.if_icmp .eq 5, 3) := by decide +kernel
theorem dX10_takesWord_227 : decode cX10_takesWord 227 = .ok (.iconst 0, 1) := by decide +kernel
theorem dX10_takesWord_228 : decode cX10_takesWord 228 = .ok (.ireturn, 1) := by decide +kernel
theorem dX10_takesWord_229 : decode cX10_takesWord 229 = .ok (.aload_n 0, 1) := by decide +kernel
theorem dX10_takesWord_230 : decode cX10_takesWord 230 = .ok (.iconst 4, 1) := by decide +kernel
theorem dX10_takesWord_231 : decode cX10_takesWord 231 = .ok (.invokevirtual 278, 3) := by decide +kernel
theorem dX10_takesWord_234 : decode cX10_takesWord 234 = .ok (.iconst 1, 1) := by decide +kernel
theorem dX10_takesWord_235 : decode cX10_takesWord 235 = .ok (.ireturn, 1) := by decide +kernel
theorem dX10_takesFirst_0 : decode cX10_takesFirst 0 = .ok (.aload_n 0, 1) := by decide +kernel
theorem dX10_takesFirst_1 : decode cX10_takesFirst 1 = .ok (.iconst 0, 1) := by decide +kernel
theorem dX10_takesFirst_2 : decode cX10_takesFirst 2 = .ok (.putfield 291, 3) := by decide +kernel
theorem dX10_takesFirst_5 : decode cX10_takesFirst 5 = .ok (.aload_n 0, 1) := by decide +kernel
theorem dX10_takesFirst_6 : decode cX10_takesFirst 6 = .ok (.getfield 51, 3) := by decide +kernel
theorem dX10_takesFirst_9 : decode cX10_takesFirst 9 = .ok (.iconst 0, 1) := by decide +kernel
theorem dX10_takesFirst_10 : decode cX10_takesFirst 10 = .ok (.iconst 0, 1) := by decide +kernel
theorem dX10_takesFirst_11 : decode cX10_takesFirst 11 = .ok (.iastore, 1) := by decide +kernel
theorem dX10_takesFirst_12 : decode cX10_takesFirst 12 = .ok (.aload_n 0, 1) := by decide +kernel
theorem dX10_takesFirst_13 : decode cX10_takesFirst 13 = .ok (.getfield 54, 3) := by decide +kernel
theorem dX10_takesFirst_16 : decode cX10_takesFirst 16 = .ok (.iconst 0, 1) := by decide +kernel
theorem dX10_takesFirst_17 : decode cX10_takesFirst 17 = .ok (.iconst 0, 1) := by decide +kernel
theorem dX10_takesFirst_18 : decode cX10_takesFirst 18 = .ok (.iastore, 1) := by decide +kernel
theorem dX10_takesFirst_19 : decode cX10_takesFirst 19 = .ok (.aload_n 0, 1) := by decide +kernel
theorem dX10_takesFirst_20 : decode cX10_takesFirst 20 = .ok (.iconst 1, 1) := by decide +kernel
theorem dX10_takesFirst_21 : decode cX10_takesFirst 21 = .ok (.putfield 265, 3) := by decide +kernel
theorem dX10_takesFirst_24 : decode cX10_takesFirst 24 = .ok (.aload_n 0, 1) := by decide +kernel
theorem dX10_takesFirst_25 : decode cX10_takesFirst 25 = .ok (.getfield 78, 3) := by decide +kernel
theorem dX10_takesFirst_28 : decode cX10_takesFirst 28 = .ok (.iconst 0, 1) := by decide +kernel
theorem dX10_takesFirst_29 : decode cX10_takesFirst 29 = .ok (.iconst 0, 1) := by decide +kernel
theorem dX10_takesFirst_30 : decode cX10_takesFirst 30 = .ok (.iastore, 1) := by decide +kernel
theorem dX10_takesFirst_31 : decode cX10_takesFirst 31 = .ok (.aload_n 0, 1) := by decide +kernel
theorem dX10_takesFirst_32 : decode cX10_takesFirst 32 = .ok (.getfield 81, 3) := by decide +kernel
theorem dX10_takesFirst_35 : decode cX10_takesFirst 35 = .ok (.iconst 0, 1) := by decide +kernel
theorem dX10_takesFirst_36 : decode cX10_takesFirst 36 = .ok (.iconst 1, 1) := by decide +kernel
theorem dX10_takesFirst_37 : decode cX10_takesFirst 37 = .ok (.iastore, 1) := by decide +kernel
theorem dX10_takesFirst_38 : decode cX10_takesFirst 38 = .ok (.aload_n 0, 1) := by decide +kernel
theorem dX10_takesFirst_39 : decode cX10_takesFirst 39 = .ok (.getfield 90, 3) := by decide +kernel
theorem dX10_takesFirst_42 : decode cX10_takesFirst 42 = .ok (.iconst 0, 1) := by decide +kernel
theorem dX10_takesFirst_43 : decode cX10_takesFirst 43 = .ok (.iconst 0, 1) := by decide +kernel
theorem dX10_takesFirst_44 : decode cX10_takesFirst 44 = .ok (.bastore, 1) := by decide +kernel
theorem dX10_takesFirst_45 : decode cX10_takesFirst 45 = .ok (.aload_n 0, 1) := by decide +kernel
theorem dX10_takesFirst_46 : decode cX10_takesFirst 46 = .ok (.invokevirtual 295, 3) := by decide +kernel
theorem dX10_takesFirst_49 : decode cX10_takesFirst 49 = .ok (.ifCond .eq 62, 3) := by decide +kernel
theorem dX10_takesFirst_52 : decode cX10_takesFirst 52 = .ok (.iload_n 1, 1) := by decide +kernel
theorem dX10_takesFirst_53 : decode cX10_takesFirst 53 = .ok (.bipush 60, 2) := by decide +kernel
theorem dX10_takesFirst_55 : decode cX10_takesFirst 55 = .ok (.if_icmp .eq 10, 3) := by decide +kernel
theorem dX10_takesFirst_58 : decode cX10_takesFirst 58 = .ok (.aload_n 0, 1) := by decide +kernel
theorem dX10_takesFirst_59 : decode cX10_takesFirst 59 = .ok (.iconst 3, 1) := by decide +kernel
theorem dX10_takesFirst_60 : decode cX10_takesFirst 60 = .ok (.iconst 0, 1) := by decide +kernel
theorem dX10_takesFirst_61 : decode cX10_takesFirst 61 = .ok (.invokevirtual 249, 3) := by decide +kernel
theorem dX10_takesFirst_64 : decode cX10_takesFirst 64 = .ok (.ireturn, 1) := by decide +kernel
theorem dX10_takesFirst_65 : decode cX10_takesFirst 65 = .ok (.aload_n 0, 1) := by decide +kernel
theorem dX10_takesFirst_66 : decode cX10_takesFirst 66 = .ok (.getfield 243, 3) := by decide +kernel
theorem dX10_takesFirst_69 : decode cX10_takesFirst 69 = .ok (.iconst 2, 1) := by decide +kernel
theorem dX10_takesFirst_70 : decode cX10_takesFirst 70 = .ok (.if_icmp .lt 12, 3) := by decide +kernel
theorem dX10_takesFirst_73 : decode cX10_takesFirst 73 = .ok (.aload_n 0, 1) := by decide +kernel
theorem dX10_takesFirst_74 : decode cX10_takesFirst 74 = .ok (.getfield 243, 3) := by decide +kernel
theorem dX10_takesFirst_77 : decode cX10_takesFirst 77 = .ok (.bipush 10, 2) := by decide +kernel
theorem dX10_takesFirst_79 : decode cX10_takesFirst 79 = .ok (.if_icmp .le 10, 3) := by decide +kernel
theorem dX10_takesFirst_82 : decode cX10_takesFirst 82 = .ok (.aload_n 0, 1) := by decide +kernel
theorem dX10_takesFirst_83 : decode cX10_takesFirst 83 = .ok (.iconst 2, 1) := by decide +kernel
theorem dX10_takesFirst_84 : decode cX10_takesFirst 84 = .ok (.iconst 0, 1) := by decide +kernel
theorem dX10_takesFirst_85 : decode cX10_takesFirst 85 = .ok (.invokevirtual 249, 3) := by decide +kernel
theorem dX10_takesFirst_88 : decode cX10_takesFirst 88 = .ok (.ireturn, 1) := by decide +kernel
theorem dX10_takesFirst_89 : decode cX10_takesFirst 89 = .ok (.aload_n 0, 1) := by decide +kernel
theorem dX10_takesFirst_90 : decode cX10_takesFirst 90 = .ok (.bipush 6, 2) := by decide +kernel
theorem dX10_takesFirst_92 : decode cX10_takesFirst 92 = .ok (.putfield 268, 3) := by decide +kernel
theorem dX10_takesFirst_95 : decode cX10_takesFirst 95 = .ok (.aload_n 0, 1) := by decide +kernel
theorem dX10_takesFirst_96 : decode cX10_takesFirst 96 = .ok (.bipush 6, 2) := by decide +kernel
theorem dX10_takesFirst_98 : decode cX10_takesFirst 98 = .ok (.putfield 259, 3) := by decide +kernel
theorem dX10_takesFirst_101 : decode cX10_takesFirst 101 = .ok (.aload_n 0, 1) := by decide +kernel
theorem dX10_takesFirst_102 : decode cX10_takesFirst 102 = .ok (.aload_n 0, 1) := by decide +kernel
theorem dX10_takesFirst_103 : decode cX10_takesFirst 103 = .ok (.getfield 239, 3) := by decide +kernel
theorem dX10_takesFirst_106 : decode cX10_takesFirst 106 = .ok (.putfield 299, 3) := by decide +kernel
theorem dX10_takesFirst_109 : decode cX10_takesFirst 109 = .ok (.iconst 1, 1) := by decide +kernel
theorem dX10_takesFirst_110 : decode cX10_takesFirst 110 = .ok (.ireturn, 1) := by decide +kernel
theorem dX10_takesFirst_111 : decode cX10_takesFirst 111 = .ok (.iload_n 1, 1) := by decide +kernel
theorem dX10_takesFirst_112 : decode cX10_takesFirst 112 = .ok (.bipush 60, 2) := by decide +kernel
theorem dX10_takesFirst_114 : decode cX10_takesFirst 114 = .ok (.if_icmp .ne 10, 3) := by decide +kernel
theorem dX10_takesFirst_117 : decode cX10_takesFirst 117 = .ok (.aload_n 0, 1) := by decide +kernel
theorem dX10_takesFirst_118 : decode cX10_takesFirst 118 = .ok (.iconst 2, 1) := by decide +kernel
theorem dX10_takesFirst_119 : decode cX10_takesFirst 119 = .ok (.iconst 0, 1) := by decide +kernel
theorem dX10_takesFirst_120 : decode cX10_takesFirst 120 = .ok (.invokevirtual 249, 3) := by decide +kernel
theorem dX10_takesFirst_123 : decode cX10_takesFirst 123 = .ok (.ireturn, 1) := by decide +kernel
theorem dX10_takesFirst_124 : decode cX10_takesFirst 124 = .ok (.iload_n 1, 1) := by decide +kernel
theorem dX10_takesFirst_125 : decode cX10_takesFirst 125 = .ok (.iconst 5, 1) := by decide +kernel
theorem dX10_takesFirst_126 : decode cX10_takesFirst 126 = .ok (.if_icmp .le 16, 3) := by decide +kernel
theorem dX10_takesFirst_129 : decode cX10_takesFirst 129 = .ok (.iload_n 1, 1) := by decide +kernel
theorem dX10_takesFirst_130 : decode cX10_takesFirst 130 = .ok (.bipush 7, 2) := by decide +kernel
theorem dX10_takesFirst_132 : decode cX10_takesFirst 132 = .ok (.if_icmp .eq 10, 3) := by decide +kernel
theorem dX10_takesFirst_135 : decode cX10_takesFirst 135 = .ok (.aload_n 0, 1) := by decide +kernel
theorem dX10_takesFirst_136 : decode cX10_takesFirst 136 = .ok (.iconst 1, 1) := by decide +kernel
theorem dX10_takesFirst_137 : decode cX10_takesFirst 137 = .ok (.iconst 0, 1) := by decide +kernel
theorem dX10_takesFirst_138 : decode cX10_takesFirst 138 = .ok (.invokevirtual 249, 3) := by decide +kernel
theorem dX10_takesFirst_141 : decode cX10_takesFirst 141 = .ok (.ireturn, 1) := by decide +kernel
theorem dX10_takesFirst_142 : decode cX10_takesFirst 142 = .ok (.aload_n 0, 1) := by decide +kernel
theorem dX10_takesFirst_143 : decode cX10_takesFirst 143 = .ok (.iload_n 1, 1) := by decide +kernel
theorem dX10_takesFirst_144 : decode cX10_takesFirst 144 = .ok (.bipush 7, 2) := by decide +kernel
theorem dX10_takesFirst_146 : decode cX10_takesFirst 146 = .ok (.if_icmp .ne 8, 3) := by decide +kernel
theorem dX10_takesFirst_149 : decode cX10_takesFirst 149 = .ok (.bipush 7, 2) := by decide +kernel
theorem dX10_takesFirst_151 : decode cX10_takesFirst 151 = .ok (.goto 4, 3) := by decide +kernel
theorem dX10_takesFirst_154 : decode cX10_takesFirst 154 = .ok (.iload_n 1, 1) := by decide +kernel
theorem dX10_takesFirst_155 : decode cX10_takesFirst 155 = .ok (.putfield 268, 3) := by decide +kernel
theorem dX10_takesFirst_158 : decode cX10_takesFirst 158 = .ok (.aload_n 0, 1) := by decide +kernel
theorem dX10_takesFirst_159 : decode cX10_takesFirst 159 = .ok (.iload_n 1, 1) := by decide +kernel
theorem dX10_takesFirst_160 : decode cX10_takesFirst 160 = .ok (.iconst 2, 1) := by decide +kernel
theorem dX10_takesFirst_161 : decode cX10_takesFirst 161 = .ok (.if_icmp .ne 7, 3) := by decide +kernel
theorem dX10_takesFirst_164 : decode cX10_takesFirst 164 = .ok (.iconst 3, 1) := by decide +kernel
theorem dX10_takesFirst_165 : decode cX10_takesFirst 165 = .ok (.goto 28, 3) := by decide +kernel
theorem dX10_takesFirst_168 : decode cX10_takesFirst 168 = .ok (.iload_n 1, 1) := by decide +kernel
theorem dX10_takesFirst_169 : decode cX10_takesFirst 169 = .ok (.bipush 7, 2) := by decide +kernel
theorem dX10_takesFirst_171 : decode cX10_takesFirst 171 = .ok (.if_icmp .ne 7, 3) := by decide +kernel
theorem dX10_takesFirst_174 : decode cX10_takesFirst 174 = .ok (.iconst 4, 1) := by decide +kernel
theorem dX10_takesFirst_175 : decode cX10_takesFirst 175 = .ok (.goto 18, 3) := by decide +kernel
theorem dX10_takesFirst_178 : decode cX10_takesFirst 178 = .ok (.iload_n 1, 1) := by decide +kernel
theorem dX10_takesFirst_179 : decode cX10_takesFirst 179 = .ok (.iconst 4, 1) := by decide +kernel
theorem dX10_takesFirst_180 : decode cX10_takesFirst 180 = .ok (.if_icmp .eq 8, 3) := by decide +kernel
theorem dX10_takesFirst_183 : decode cX10_takesFirst 183 = .ok (.iload_n 1, 1) := by decide +kernel
theorem dX10_takesFirst_184 : decode cX10_takesFirst 184 = .ok (.iconst 5, 1) := by decide +kernel
theorem dX10_takesFirst_185 : decode cX10_takesFirst 185 = .ok (.if_icmp .ne 7, 3) := by decide +kernel
theorem dX10_takesFirst_188 : decode cX10_takesFirst 188 = .ok (.iconst 1, 1) := by decide +kernel
theorem dX10_takesFirst_189 : decode cX10_takesFirst 189 = .ok (.goto 4, 3) := by decide +kernel
theorem dX10_takesFirst_192 : decode cX10_takesFirst 192 = .ok (.iconst 0, 1) := by decide +kernel
theorem dX10_takesFirst_193 : decode cX10_takesFirst 193 = .ok (.putfield 259, 3) := by decide +kernel
theorem dX10_takesFirst_196 : decode cX10_takesFirst 196 = .ok (.iload_n 1, 1) := by decide +kernel
theorem dX10_takesFirst_197 : decode cX10_takesFirst 197 = .ok (.iconst 4, 1) := by decide +kernel
theorem dX10_takesFirst_198 : decode cX10_takesFirst 198 = .ok (.if_icmp .eq 8, 3) := by decide +kernel
theorem dX10_takesFirst_201 : decode cX10_takesFirst 201 = .ok (.iload_n 1, 1) := by decide +kernel
theorem dX10_takesFirst_202 : decode cX10_takesFirst 202 = .ok (.iconst 5, 1) := by decide +kernel
theorem dX10_takesFirst_203 : decode cX10_takesFirst 203 = .ok (.if_icmp .ne 8, 3) := by decide +kernel
theorem dX10_takesFirst_206 : decode cX10_takesFirst 206 = .ok (.aload_n 0, 1) := by decide +kernel
theorem dX10_takesFirst_207 : decode cX10_takesFirst 207 = .ok (.iconst 4, 1) := by decide +kernel
theorem dX10_takesFirst_208 : decode cX10_takesFirst 208 = .ok (.invokevirtual 278, 3) := by decide +kernel
theorem dX10_takesFirst_211 : decode cX10_takesFirst 211 = .ok (.iconst 1, 1) := by decide +kernel
theorem dX10_takesFirst_212 : decode cX10_takesFirst 212 = .ok (.ireturn, 1) := by decide +kernel
theorem dX10_isWhole_0 : decode cX10_isWhole 0 = .ok (.aload_n 0, 1) := by decide +kernel
theorem dX10_isWhole_1 : decode cX10_isWhole 1 = .ok (.getfield 259, 3) := by decide +kernel
theorem dX10_isWhole_4 : decode cX10_isWhole 4 = .ok (.iconst 2, 1) := by decide +kernel
theorem dX10_isWhole_5 : decode cX10_isWhole 5 = .ok (.if_icmp .eq 13, 3) := by decide +kernel
theorem dX10_isWhole_8 : decode cX10_isWhole 8 = .ok (.aload_n 0, 1) := by decide +kernel
theorem dX10_isWhole_9 : decode cX10_isWhole 9 = .ok (.getfield 259, 3) := by decide +kernel
theorem dX10_isWhole_12 : decode cX10_isWhole 12 = .ok (.iconst 3, 1) := by decide +kernel
theorem dX10_isWhole_13 : decode cX10_isWhole 13 = .ok (.if_icmp .eq 5, 3) := by decide +kernel
theorem dX10_isWhole_16 : decode cX10_isWhole 16 = .ok (.iconst 0, 1) := by decide +kernel
theorem dX10_isWhole_17 : decode cX10_isWhole 17 = .ok (.ireturn, 1) := by decide +kernel
theorem dX10_isWhole_18 : decode cX10_isWhole 18 = .ok (.aload_n 0, 1) := by decide +kernel
theorem dX10_isWhole_19 : decode cX10_isWhole 19 = .ok (.getfield 268, 3) := by decide +kernel
theorem dX10_isWhole_22 : decode cX10_isWhole 22 = .ok (.iconst 3, 1) := by decide +kernel
theorem dX10_isWhole_23 : decode cX10_isWhole 23 = .ok (.if_icmp .eq 17, 3) := by decide +kernel
theorem dX10_isWhole_26 : decode cX10_isWhole 26 = .ok (.aload_n 0, 1) := by decide +kernel
theorem dX10_isWhole_27 : decode cX10_isWhole 27 = .ok (.getfield 268, 3) := by decide +kernel
theorem dX10_isWhole_30 : decode cX10_isWhole 30 = .ok (.ifCond .ne 16, 3) := by decide +kernel
theorem dX10_isWhole_33 : decode cX10_isWhole 33 = .ok (.aload_n 0, 1) := by decide +kernel
theorem dX10_isWhole_34 : decode cX10_isWhole 34 = .ok (.getfield 291, 3) := by decide +kernel
theorem dX10_isWhole_37 : decode cX10_isWhole 37 = .ok (.ifCond .ne 9, 3) := by decide +kernel
theorem dX10_isWhole_40 : decode cX10_isWhole 40 = .ok (.aload_n 0, 1) := by decide +kernel
theorem dX10_isWhole_41 : decode cX10_isWhole 41 = .ok (.iconst 1, 1) := by decide +kernel
theorem dX10_isWhole_42 : decode cX10_isWhole 42 = .ok (.invokevirtual 287, 3) := by decide +kernel
theorem dX10_isWhole_45 : decode cX10_isWhole 45 = .ok (.ireturn, 1) := by decide +kernel
theorem dX10_isWhole_46 : decode cX10_isWhole 46 = .ok (.iconst 1, 1) := by decide +kernel
theorem dX10_isWhole_47 : decode cX10_isWhole 47 = .ok (.ireturn, 1) := by decide +kernel
