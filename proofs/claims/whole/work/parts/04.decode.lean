theorem dX6_bring_0 : decode cX6_bring 0 = .ok (.aload_n 1, 1) := by decide +kernel
theorem dX6_bring_1 : decode cX6_bring 1 = .ok (.iload_n 3, 1) := by decide +kernel
theorem dX6_bring_2 : decode cX6_bring 2 = .ok (.iconst 0, 1) := by decide +kernel
theorem dX6_bring_3 : decode cX6_bring 3 = .ok (.invokevirtual 36, 3) := by decide +kernel
theorem dX6_bring_6 : decode cX6_bring 6 = .ok (.istore 4, 2) := by decide +kernel
theorem dX6_bring_8 : decode cX6_bring 8 = .ok (.iload 4, 2) := by decide +kernel
theorem dX6_bring_10 : decode cX6_bring 10 = .ok (.ifCond .eq 16, 3) := by decide +kernel
theorem dX6_bring_13 : decode cX6_bring 13 = .ok (.aload_n 1, 1) := by decide +kernel
theorem dX6_bring_14 : decode cX6_bring 14 = .ok (.iload_n 3, 1) := by decide +kernel
theorem dX6_bring_15 : decode cX6_bring 15 = .ok (.invokevirtual 40, 3) := by decide +kernel
theorem dX6_bring_18 : decode cX6_bring 18 = .ok (.iconst (-1), 1) := by decide +kernel
theorem dX6_bring_19 : decode cX6_bring 19 = .ok (.if_icmp .eq 7, 3) := by decide +kernel
theorem dX6_bring_22 : decode cX6_bring 22 = .ok (.iconst 1, 1) := by decide +kernel
theorem dX6_bring_23 : decode cX6_bring 23 = .ok (.goto 4, 3) := by decide +kernel
theorem dX6_bring_26 : decode cX6_bring 26 = .ok (.iconst 0, 1) := by decide +kernel
theorem dX6_bring_27 : decode cX6_bring 27 = .ok (.istore 5, 2) := by decide +kernel
theorem dX6_bring_29 : decode cX6_bring 29 = .ok (.aload_n 1, 1) := by decide +kernel
theorem dX6_bring_30 : decode cX6_bring 30 = .ok (.invokevirtual 43, 3) := by decide +kernel
theorem dX6_bring_33 : decode cX6_bring 33 = .ok (.iload_n 2, 1) := by decide +kernel
theorem dX6_bring_34 : decode cX6_bring 34 = .ok (.if_icmp .ne 12, 3) := by decide +kernel
theorem dX6_bring_37 : decode cX6_bring 37 = .ok (.iload 5, 2) := by decide +kernel
theorem dX6_bring_39 : decode cX6_bring 39 = .ok (.ifCond .ne 7, 3) := by decide +kernel
theorem dX6_bring_42 : decode cX6_bring 42 = .ok (.iconst 1, 1) := by decide +kernel
theorem dX6_bring_43 : decode cX6_bring 43 = .ok (.goto 4, 3) := by decide +kernel
theorem dX6_bring_46 : decode cX6_bring 46 = .ok (.iconst 0, 1) := by decide +kernel
theorem dX6_bring_47 : decode cX6_bring 47 = .ok (.istore 6, 2) := by decide +kernel
theorem dX6_bring_49 : decode cX6_bring 49 = .ok (.aload_n 1, 1) := by decide +kernel
theorem dX6_bring_50 : decode cX6_bring 50 = .ok (.invokevirtual 43, 3) := by decide +kernel
theorem dX6_bring_53 : decode cX6_bring 53 = .ok (.iconst (-1), 1) := by decide +kernel
theorem dX6_bring_54 : decode cX6_bring 54 = .ok (.if_icmp .eq 16, 3) := by decide +kernel
theorem dX6_bring_57 : decode cX6_bring 57 = .ok (.iload 6, 2) := by decide +kernel
theorem dX6_bring_59 : decode cX6_bring 59 = .ok (.ifCond .ne 11, 3) := by decide +kernel
theorem dX6_bring_62 : decode cX6_bring 62 = .ok (.aload_n 0, 1) := by decide +kernel
theorem dX6_bring_63 : decode cX6_bring 63 = .ok (.iconst 2, 1) := by decide +kernel
theorem dX6_bring_64 : decode cX6_bring 64 = .ok (.iconst (-1), 1) := by decide +kernel
theorem dX6_bring_65 : decode cX6_bring 65 = .ok (.bipush 20, 2) := by decide +kernel
theorem dX6_bring_67 : decode cX6_bring 67 = .ok (.invokevirtual 22, 3) := by decide +kernel
theorem dX6_bring_70 : decode cX6_bring 70 = .ok (.aload_n 0, 1) := by decide +kernel
theorem dX6_bring_71 : decode cX6_bring 71 = .ok (.aload_n 1, 1) := by decide +kernel
theorem dX6_bring_72 : decode cX6_bring 72 = .ok (.iload_n 2, 1) := by decide +kernel
theorem dX6_bring_73 : decode cX6_bring 73 = .ok (.iconst (-1), 1) := by decide +kernel
theorem dX6_bring_74 : decode cX6_bring 74 = .ok (.invokevirtual 47, 3) := by decide +kernel
theorem dX6_bring_77 : decode cX6_bring 77 = .ok (.iload 4, 2) := by decide +kernel
theorem dX6_bring_79 : decode cX6_bring 79 = .ok (.ifCond .eq 10, 3) := by decide +kernel
theorem dX6_bring_82 : decode cX6_bring 82 = .ok (.aload_n 0, 1) := by decide +kernel
theorem dX6_bring_83 : decode cX6_bring 83 = .ok (.aload_n 1, 1) := by decide +kernel
theorem dX6_bring_84 : decode cX6_bring 84 = .ok (.iload_n 3, 1) := by decide +kernel
theorem dX6_bring_85 : decode cX6_bring 85 = .ok (.iload_n 2, 1) := by decide +kernel
theorem dX6_bring_86 : decode cX6_bring 86 = .ok (.invokevirtual 47, 3) := by decide +kernel
theorem dX6_bring_89 : decode cX6_bring 89 = .ok (.iload 6, 2) := by decide +kernel
theorem dX6_bring_91 : decode cX6_bring 91 = .ok (.ifCond .ne 10, 3) := by decide +kernel
theorem dX6_bring_94 : decode cX6_bring 94 = .ok (.aload_n 0, 1) := by decide +kernel
theorem dX6_bring_95 : decode cX6_bring 95 = .ok (.iconst 0, 1) := by decide +kernel
theorem dX6_bring_96 : decode cX6_bring 96 = .ok (.iload_n 2, 1) := by decide +kernel
theorem dX6_bring_97 : decode cX6_bring 97 = .ok (.iconst (-1), 1) := by decide +kernel
theorem dX6_bring_98 : decode cX6_bring 98 = .ok (.invokevirtual 22, 3) := by decide +kernel
theorem dX6_bring_101 : decode cX6_bring 101 = .ok (.iload_n 3, 1) := by decide +kernel
theorem dX6_bring_102 : decode cX6_bring 102 = .ok (.bipush 16, 2) := by decide +kernel
theorem dX6_bring_104 : decode cX6_bring 104 = .ok (.if_icmp .ne 13, 3) := by decide +kernel
theorem dX6_bring_107 : decode cX6_bring 107 = .ok (.aload_n 0, 1) := by decide +kernel
theorem dX6_bring_108 : decode cX6_bring 108 = .ok (.iconst 2, 1) := by decide +kernel
theorem dX6_bring_109 : decode cX6_bring 109 = .ok (.iconst (-1), 1) := by decide +kernel
theorem dX6_bring_110 : decode cX6_bring 110 = .ok (.iconst (-1), 1) := by decide +kernel
theorem dX6_bring_111 : decode cX6_bring 111 = .ok (.invokevirtual 22, 3) := by decide +kernel
theorem dX6_bring_114 : decode cX6_bring 114 = .ok (.goto 25, 3) := by decide +kernel
theorem dX6_bring_117 : decode cX6_bring 117 = .ok (.iload_n 3, 1) := by decide +kernel
theorem dX6_bring_118 : decode cX6_bring 118 = .ok (.bipush 17, 2) := by decide +kernel
theorem dX6_bring_120 : decode cX6_bring 120 = .ok (.if_icmp .eq 19, 3) := by decide +kernel
theorem dX6_bring_123 : decode cX6_bring 123 = .ok (.aload_n 0, 1) := by decide +kernel
theorem dX6_bring_124 : decode cX6_bring 124 = .ok (.iload 4, 2) := by decide +kernel
theorem dX6_bring_126 : decode cX6_bring 126 = .ok (.ifCond .eq 7, 3) := by decide +kernel
theorem dX6_bring_129 : decode cX6_bring 129 = .ok (.iconst 1, 1) := by decide +kernel
theorem dX6_bring_130 : decode cX6_bring 130 = .ok (.goto 4, 3) := by decide +kernel
theorem dX6_bring_133 : decode cX6_bring 133 = .ok (.iconst 3, 1) := by decide +kernel
theorem dX6_bring_134 : decode cX6_bring 134 = .ok (.iload_n 3, 1) := by decide +kernel
theorem dX6_bring_135 : decode cX6_bring 135 = .ok (.iconst (-1), 1) := by decide +kernel
theorem dX6_bring_136 : decode cX6_bring 136 = .ok (.invokevirtual 22, 3) := by decide +kernel
theorem dX6_bring_139 : decode cX6_bring 139 = .ok (.return_, 1) := by decide +kernel
theorem dX6_clearOver_0 : decode cX6_clearOver 0 = .ok (.iload_n 2, 1) := by decide +kernel
theorem dX6_clearOver_1 : decode cX6_clearOver 1 = .ok (.istore 4, 2) := by decide +kernel
theorem dX6_clearOver_3 : decode cX6_clearOver 3 = .ok (.iconst 0, 1) := by decide +kernel
theorem dX6_clearOver_4 : decode cX6_clearOver 4 = .ok (.istore 5, 2) := by decide +kernel
theorem dX6_clearOver_6 : decode cX6_clearOver 6 = .ok (.iload 5, 2) := by decide +kernel
theorem dX6_clearOver_8 : decode cX6_clearOver 8 = .ok (.bipush 16, 2) := by decide +kernel
theorem dX6_clearOver_10 : decode cX6_clearOver 10 = .ok (.if_icmp .ge 33, 3) := by decide +kernel
theorem dX6_clearOver_13 : decode cX6_clearOver 13 = .ok (.iload 4, 2) := by decide +kernel
theorem dX6_clearOver_15 : decode cX6_clearOver 15 = .ok (.iload_n 3, 1) := by decide +kernel
theorem dX6_clearOver_16 : decode cX6_clearOver 16 = .ok (.if_icmp .eq 27, 3) := by decide +kernel
theorem dX6_clearOver_19 : decode cX6_clearOver 19 = .ok (.aload_n 1, 1) := by decide +kernel
theorem dX6_clearOver_20 : decode cX6_clearOver 20 = .ok (.iload 4, 2) := by decide +kernel
theorem dX6_clearOver_22 : decode cX6_clearOver 22 = .ok (.invokevirtual 40, 3) := by decide +kernel
theorem dX6_clearOver_25 : decode cX6_clearOver 25 = .ok (.iconst (-1), 1) := by decide +kernel
theorem dX6_clearOver_26 : decode cX6_clearOver 26 = .ok (.if_icmp .eq 17, 3) := by decide +kernel
theorem dX6_clearOver_29 : decode cX6_clearOver 29 = .ok (.aload_n 1, 1) := by decide +kernel
theorem dX6_clearOver_30 : decode cX6_clearOver 30 = .ok (.iload 4, 2) := by decide +kernel
theorem dX6_clearOver_32 : decode cX6_clearOver 32 = .ok (.invokevirtual 40, 3) := by decide +kernel
theorem dX6_clearOver_35 : decode cX6_clearOver 35 = .ok (.istore 4, 2) := by decide +kernel
theorem dX6_clearOver_37 : decode cX6_clearOver 37 = .ok (.iinc 5 1, 3) := by decide +kernel
theorem dX6_clearOver_40 : decode cX6_clearOver 40 = .ok (.goto (-34), 3) := by decide +kernel
theorem dX6_clearOver_43 : decode cX6_clearOver 43 = .ok (.iconst 0, 1) := by decide +kernel
theorem dX6_clearOver_44 : decode cX6_clearOver 44 = .ok (.istore 5, 2) := by decide +kernel
theorem dX6_clearOver_46 : decode cX6_clearOver 46 = .ok (.iload 5, 2) := by decide +kernel
theorem dX6_clearOver_48 : decode cX6_clearOver 48 = .ok (.bipush 16, 2) := by decide +kernel
theorem dX6_clearOver_50 : decode cX6_clearOver 50 = .ok (.if_icmp .ge 38, 3) := by decide +kernel
theorem dX6_clearOver_53 : decode cX6_clearOver 53 = .ok (.iload 4, 2) := by decide +kernel
theorem dX6_clearOver_55 : decode cX6_clearOver 55 = .ok (.iload_n 2, 1) := by decide +kernel
theorem dX6_clearOver_56 : decode cX6_clearOver 56 = .ok (.if_icmp .eq 32, 3) := by decide +kernel
theorem dX6_clearOver_59 : decode cX6_clearOver 59 = .ok (.aload_n 0, 1) := by decide +kernel
theorem dX6_clearOver_60 : decode cX6_clearOver 60 = .ok (.iconst 0, 1) := by decide +kernel
theorem dX6_clearOver_61 : decode cX6_clearOver 61 = .ok (.iload 4, 2) := by decide +kernel
theorem dX6_clearOver_63 : decode cX6_clearOver 63 = .ok (.iload_n 2, 1) := by decide +kernel
theorem dX6_clearOver_64 : decode cX6_clearOver 64 = .ok (.invokevirtual 22, 3) := by decide +kernel
theorem dX6_clearOver_67 : decode cX6_clearOver 67 = .ok (.aload_n 0, 1) := by decide +kernel
theorem dX6_clearOver_68 : decode cX6_clearOver 68 = .ok (.iconst 2, 1) := by decide +kernel
theorem dX6_clearOver_69 : decode cX6_clearOver 69 = .ok (.iconst (-1), 1) := by decide +kernel
theorem dX6_clearOver_70 : decode cX6_clearOver 70 = .ok (.iload_n 2, 1) := by decide +kernel
theorem dX6_clearOver_71 : decode cX6_clearOver 71 = .ok (.invokevirtual 22, 3) := by decide +kernel
theorem dX6_clearOver_74 : decode cX6_clearOver 74 = .ok (.aload_n 1, 1) := by decide +kernel
theorem dX6_clearOver_75 : decode cX6_clearOver 75 = .ok (.iload 4, 2) := by decide +kernel
theorem dX6_clearOver_77 : decode cX6_clearOver 77 = .ok (.invokevirtual 26, 3) := by decide +kernel
theorem dX6_clearOver_80 : decode cX6_clearOver 80 = .ok (.istore 4, 2) := by decide +kernel
theorem dX6_clearOver_82 : decode cX6_clearOver 82 = .ok (.iinc 5 1, 3) := by decide +kernel
theorem dX6_clearOver_85 : decode cX6_clearOver 85 = .ok (.goto (-39), 3) := by decide +kernel
theorem dX6_clearOver_88 : decode cX6_clearOver 88 = .ok (.return_, 1) := by decide +kernel
theorem dX6_add_0 : decode cX6_add 0 = .ok (.aload_n 0, 1) := by decide +kernel
theorem dX6_add_1 : decode cX6_add 1 = .ok (.getfield 15, 3) := by decide +kernel
theorem dX6_add_4 : decode cX6_add 4 = .ok (.bipush 40, 2) := by decide +kernel
theorem dX6_add_6 : decode cX6_add 6 = .ok (.if_icmp .ge 53, 3) := by decide +kernel
theorem dX6_add_9 : decode cX6_add 9 = .ok (.aload_n 0, 1) := by decide +kernel
theorem dX6_add_10 : decode cX6_add 10 = .ok (.getfield 9, 3) := by decide +kernel
theorem dX6_add_13 : decode cX6_add 13 = .ok (.iconst 3, 1) := by decide +kernel
theorem dX6_add_14 : decode cX6_add 14 = .ok (.aload_n 0, 1) := by decide +kernel
theorem dX6_add_15 : decode cX6_add 15 = .ok (.getfield 15, 3) := by decide +kernel
theorem dX6_add_18 : decode cX6_add 18 = .ok (.imul, 1) := by decide +kernel
theorem dX6_add_19 : decode cX6_add 19 = .ok (.iload_n 1, 1) := by decide +kernel
theorem dX6_add_20 : decode cX6_add 20 = .ok (.iastore, 1) := by decide +kernel
theorem dX6_add_21 : decode cX6_add 21 = .ok (.aload_n 0, 1) := by decide +kernel
theorem dX6_add_22 : decode cX6_add 22 = .ok (.getfield 9, 3) := by decide +kernel
theorem dX6_add_25 : decode cX6_add 25 = .ok (.iconst 3, 1) := by decide +kernel
theorem dX6_add_26 : decode cX6_add 26 = .ok (.aload_n 0, 1) := by decide +kernel
theorem dX6_add_27 : decode cX6_add 27 = .ok (.getfield 15, 3) := by decide +kernel
theorem dX6_add_30 : decode cX6_add 30 = .ok (.imul, 1) := by decide +kernel
theorem dX6_add_31 : decode cX6_add 31 = .ok (.iconst 1, 1) := by decide +kernel
theorem dX6_add_32 : decode cX6_add 32 = .ok (.iadd, 1) := by decide +kernel
theorem dX6_add_33 : decode cX6_add 33 = .ok (.iload_n 2, 1) := by decide +kernel
theorem dX6_add_34 : decode cX6_add 34 = .ok (.iastore, 1) := by decide +kernel
theorem dX6_add_35 : decode cX6_add 35 = .ok (.aload_n 0, 1) := by decide +kernel
theorem dX6_add_36 : decode cX6_add 36 = .ok (.getfield 9, 3) := by decide +kernel
theorem dX6_add_39 : decode cX6_add 39 = .ok (.iconst 3, 1) := by decide +kernel
theorem dX6_add_40 : decode cX6_add 40 = .ok (.aload_n 0, 1) := by decide +kernel
theorem dX6_add_41 : decode cX6_add 41 = .ok (.getfield 15, 3) := by decide +kernel
theorem dX6_add_44 : decode cX6_add 44 = .ok (.imul, 1) := by decide +kernel
theorem dX6_add_45 : decode cX6_add 45 = .ok (.iconst 2, 1) := by decide +kernel
theorem dX6_add_46 : decode cX6_add 46 = .ok (.iadd, 1) := by decide +kernel
theorem dX6_add_47 : decode cX6_add 47 = .ok (.iload_n 3, 1) := by decide +kernel
theorem dX6_add_48 : decode cX6_add 48 = .ok (.iastore, 1) := by decide +kernel
theorem dX6_add_49 : decode cX6_add 49 = .ok (.aload_n 0, 1) := by decide +kernel
theorem dX6_add_50 : decode cX6_add 50 = .ok (.dup, 1) := by decide +kernel
theorem dX6_add_51 : decode cX6_add 51 = .ok (.getfield 15, 3) := by decide +kernel
theorem dX6_add_54 : decode cX6_add 54 = .ok (.iconst 1, 1) := by decide +kernel
theorem dX6_add_55 : decode cX6_add 55 = .ok (.iadd, 1) := by decide +kernel
theorem dX6_add_56 : decode cX6_add 56 = .ok (.putfield 15, 3) := by decide +kernel
theorem dX6_add_59 : decode cX6_add 59 = .ok (.return_, 1) := by decide +kernel
theorem dX7_init_0 : decode cX7_init 0 = .ok (.aload_n 0, 1) := by decide +kernel
theorem dX7_init_1 : decode cX7_init 1 = .ok (.invokespecial 3, 3) := by decide +kernel
theorem dX7_init_4 : decode cX7_init 4 = .ok (.aload_n 0, 1) := by decide +kernel
theorem dX7_init_5 : decode cX7_init 5 = .ok (.sipush 200, 3) := by decide +kernel
theorem dX7_init_8 : decode cX7_init 8 = .ok (.newarray .int, 2) := by decide +kernel
theorem dX7_init_10 : decode cX7_init 10 = .ok (.putfield 9, 3) := by decide +kernel
theorem dX7_init_13 : decode cX7_init 13 = .ok (.return_, 1) := by decide +kernel
theorem dX7_length_0 : decode cX7_length 0 = .ok (.aload_n 0, 1) := by decide +kernel
theorem dX7_length_1 : decode cX7_length 1 = .ok (.getfield 15, 3) := by decide +kernel
theorem dX7_length_4 : decode cX7_length 4 = .ok (.ireturn, 1) := by decide +kernel
theorem dX7_hasRoomFor_0 : decode cX7_hasRoomFor 0 = .ok (.aload_n 0, 1) := by decide +kernel
theorem dX7_hasRoomFor_1 : decode cX7_hasRoomFor 1 = .ok (.getfield 15, 3) := by decide +kernel
theorem dX7_hasRoomFor_4 : decode cX7_hasRoomFor 4 = .ok (.iload_n 1, 1) := by decide +kernel
theorem dX7_hasRoomFor_5 : decode cX7_hasRoomFor 5 = .ok (.iadd, 1) := by decide +kernel
theorem dX7_hasRoomFor_6 : decode cX7_hasRoomFor 6 = .ok (.sipush 200, 3) := by decide +kernel
theorem dX7_hasRoomFor_9 : decode cX7_hasRoomFor 9 = .ok (.if_icmp .gt 7, 3) := by decide +kernel
theorem dX7_hasRoomFor_12 : decode cX7_hasRoomFor 12 = .ok (.iconst 1, 1) := by decide +kernel
theorem dX7_hasRoomFor_13 : decode cX7_hasRoomFor 13 = .ok (.goto 4, 3) := by decide +kernel
theorem dX7_hasRoomFor_16 : decode cX7_hasRoomFor 16 = .ok (.iconst 0, 1) := by decide +kernel
theorem dX7_hasRoomFor_17 : decode cX7_hasRoomFor 17 = .ok (.ireturn, 1) := by decide +kernel
theorem dX7_addNumber_0 : decode cX7_addNumber 0 = .ok (.aload_n 0, 1) := by decide +kernel
theorem dX7_addNumber_1 : decode cX7_addNumber 1 = .ok (.iconst 4, 1) := by decide +kernel
theorem dX7_addNumber_2 : decode cX7_addNumber 2 = .ok (.invokevirtual 19, 3) := by decide +kernel
theorem dX7_addNumber_5 : decode cX7_addNumber 5 = .ok (.ifCond .eq 42, 3) := by decide +kernel
theorem dX7_addNumber_8 : decode cX7_addNumber 8 = .ok (.bipush 24, 2) := by decide +kernel
theorem dX7_addNumber_10 : decode cX7_addNumber 10 = .ok (.istore_n 2, 1) := by decide +kernel
theorem dX7_addNumber_11 : decode cX7_addNumber 11 = .ok (.iload_n 2, 1) := by decide +kernel
theorem dX7_addNumber_12 : decode cX7_addNumber 12 = .ok (.ifCond .lt 35, 3) := by decide +kernel
theorem dX7_addNumber_15 : decode cX7_addNumber 15 = .ok (.aload_n 0, 1) := by decide +kernel
theorem dX7_addNumber_16 : decode cX7_addNumber 16 = .ok (.getfield 9, 3) := by decide +kernel
theorem dX7_addNumber_19 : decode cX7_addNumber 19 = .ok (.aload_n 0, 1) := by decide +kernel
theorem dX7_addNumber_20 : decode cX7_addNumber 20 = .ok (.getfield 15, 3) := by decide +kernel
theorem dX7_addNumber_23 : decode cX7_addNumber 23 = .ok (.iload_n 1, 1) := by decide +kernel
theorem dX7_addNumber_24 : decode cX7_addNumber 24 = .ok (.iload_n 2, 1) := by decide +kernel
theorem dX7_addNumber_25 : decode cX7_addNumber 25 = .ok (.iushr, 1) := by decide +kernel
theorem dX7_addNumber_26 : decode cX7_addNumber 26 = .ok (.sipush 255, 3) := by decide +kernel
theorem dX7_addNumber_29 : decode cX7_addNumber 29 = .ok (.iand, 1) := by decide +kernel
theorem dX7_addNumber_30 : decode cX7_addNumber 30 = .ok (.iastore, 1) := by decide +kernel
theorem dX7_addNumber_31 : decode cX7_addNumber 31 = .ok (.aload_n 0, 1) := by decide +kernel
theorem dX7_addNumber_32 : decode cX7_addNumber 32 = .ok (.dup, 1) := by decide +kernel
theorem dX7_addNumber_33 : decode cX7_addNumber 33 = .ok (.getfield 15, 3) := by decide +kernel
theorem dX7_addNumber_36 : decode cX7_addNumber 36 = .ok (.iconst 1, 1) := by decide +kernel
theorem dX7_addNumber_37 : decode cX7_addNumber 37 = .ok (.iadd, 1) := by decide +kernel
theorem dX7_addNumber_38 : decode cX7_addNumber 38 = .ok (.putfield 15, 3) := by decide +kernel
theorem dX7_addNumber_41 : decode cX7_addNumber 41 = .ok (.iinc 2 (-8), 3) := by decide +kernel
theorem dX7_addNumber_44 : decode cX7_addNumber 44 = .ok (.goto (-33), 3) := by decide +kernel
theorem dX7_addNumber_47 : decode cX7_addNumber 47 = .ok (.return_, 1) := by decide +kernel
theorem dX7_byteAt_0 : decode cX7_byteAt 0 = .ok (.iload_n 1, 1) := by decide +kernel
theorem dX7_byteAt_1 : decode cX7_byteAt 1 = .ok (.ifCond .lt 20, 3) := by decide +kernel
theorem dX7_byteAt_4 : decode cX7_byteAt 4 = .ok (.iload_n 1, 1) := by decide +kernel
theorem dX7_byteAt_5 : decode cX7_byteAt 5 = .ok (.aload_n 0, 1) := by decide +kernel
theorem dX7_byteAt_6 : decode cX7_byteAt 6 = .ok (.getfield 15, 3) := by decide +kernel
theorem dX7_byteAt_9 : decode cX7_byteAt 9 = .ok (.if_icmp .ge 12, 3) := by decide +kernel
theorem dX7_byteAt_12 : decode cX7_byteAt 12 = .ok (.aload_n 0, 1) := by decide +kernel
theorem dX7_byteAt_13 : decode cX7_byteAt 13 = .ok (.getfield 9, 3) := by decide +kernel
theorem dX7_byteAt_16 : decode cX7_byteAt 16 = .ok (.iload_n 1, 1) := by decide +kernel
theorem dX7_byteAt_17 : decode cX7_byteAt 17 = .ok (.iaload, 1) := by decide +kernel
theorem dX7_byteAt_18 : decode cX7_byteAt 18 = .ok (.goto 4, 3) := by decide +kernel
theorem dX7_byteAt_21 : decode cX7_byteAt 21 = .ok (.iconst (-1), 1) := by decide +kernel
theorem dX7_byteAt_22 : decode cX7_byteAt 22 = .ok (.ireturn, 1) := by decide +kernel
theorem dX7_isLetter_0 : decode cX7_isLetter 0 = .ok (.aload_n 0, 1) := by decide +kernel
theorem dX7_isLetter_1 : decode cX7_isLetter 1 = .ok (.iload_n 1, 1) := by decide +kernel
theorem dX7_isLetter_2 : decode cX7_isLetter 2 = .ok (.invokevirtual 23, 3) := by decide +kernel
theorem dX7_isLetter_5 : decode cX7_isLetter 5 = .ok (.bipush 97, 2) := by decide +kernel
theorem dX7_isLetter_7 : decode cX7_isLetter 7 = .ok (.if_icmp .lt 17, 3) := by decide +kernel
theorem dX7_isLetter_10 : decode cX7_isLetter 10 = .ok (.aload_n 0, 1) := by decide +kernel
theorem dX7_isLetter_11 : decode cX7_isLetter 11 = .ok (.iload_n 1, 1) := by decide +kernel
theorem dX7_isLetter_12 : decode cX7_isLetter 12 = .ok (.invokevirtual 23, 3) := by decide +kernel
theorem dX7_isLetter_15 : decode cX7_isLetter 15 = .ok (.bipush 122, 2) := by decide +kernel
theorem dX7_isLetter_17 : decode cX7_isLetter 17 = .ok (.if_icmp .gt 7, 3) := by decide +kernel
theorem dX7_isLetter_20 : decode cX7_isLetter 20 = .ok (.iconst 1, 1) := by decide +kernel
theorem dX7_isLetter_21 : decode cX7_isLetter 21 = .ok (.goto 4, 3) := by decide +kernel
theorem dX7_isLetter_24 : decode cX7_isLetter 24 = .ok (.iconst 0, 1) := by decide +kernel
theorem dX7_isLetter_25 : decode cX7_isLetter 25 = .ok (.ireturn, 1) := by decide +kernel
theorem dX7_numberAt_0 : decode cX7_numberAt 0 = .ok (.iconst 0, 1) := by decide +kernel
theorem dX7_numberAt_1 : decode cX7_numberAt 1 = .ok (.istore_n 2, 1) := by decide +kernel
theorem dX7_numberAt_2 : decode cX7_numberAt 2 = .ok (.iconst 4, 1) := by decide +kernel
theorem dX7_numberAt_3 : decode cX7_numberAt 3 = .ok (.iload_n 1, 1) := by decide +kernel
theorem dX7_numberAt_4 : decode cX7_numberAt 4 = .ok (.imul, 1) := by decide +kernel
theorem dX7_numberAt_5 : decode cX7_numberAt 5 = .ok (.istore_n 3, 1) := by decide +kernel
theorem dX7_numberAt_6 : decode cX7_numberAt 6 = .ok (.iload_n 3, 1) := by decide +kernel
theorem dX7_numberAt_7 : decode cX7_numberAt 7 = .ok (.iconst 4, 1) := by decide +kernel
theorem dX7_numberAt_8 : decode cX7_numberAt 8 = .ok (.iload_n 1, 1) := by decide +kernel
theorem dX7_numberAt_9 : decode cX7_numberAt 9 = .ok (.imul, 1) := by decide +kernel
theorem dX7_numberAt_10 : decode cX7_numberAt 10 = .ok (.iconst 4, 1) := by decide +kernel
theorem dX7_numberAt_11 : decode cX7_numberAt 11 = .ok (.iadd, 1) := by decide +kernel
theorem dX7_numberAt_12 : decode cX7_numberAt 12 = .ok (.if_icmp .ge 24, 3) := by decide +kernel
theorem dX7_numberAt_15 : decode cX7_numberAt 15 = .ok (.iload_n 2, 1) := by decide +kernel
theorem dX7_numberAt_16 : decode cX7_numberAt 16 = .ok (.bipush 8, 2) := by decide +kernel
theorem dX7_numberAt_18 : decode cX7_numberAt 18 = .ok (.ishl, 1) := by decide +kernel
theorem dX7_numberAt_19 : decode cX7_numberAt 19 = .ok (.aload_n 0, 1) := by decide +kernel
theorem dX7_numberAt_20 : decode cX7_numberAt 20 = .ok (.iload_n 3, 1) := by decide +kernel
theorem dX7_numberAt_21 : decode cX7_numberAt 21 = .ok (.invokevirtual 23, 3) := by decide +kernel
theorem dX7_numberAt_24 : decode cX7_numberAt 24 = .ok (.sipush 255, 3) := by decide +kernel
theorem dX7_numberAt_27 : decode cX7_numberAt 27 = .ok (.iand, 1) := by decide +kernel
theorem dX7_numberAt_28 : decode cX7_numberAt 28 = .ok (.ior, 1) := by decide +kernel
theorem dX7_numberAt_29 : decode cX7_numberAt 29 = .ok (.istore_n 2, 1) := by decide +kernel
theorem dX7_numberAt_30 : decode cX7_numberAt 30 = .ok (.iinc 3 1, 3) := by decide +kernel
theorem dX7_numberAt_33 : decode cX7_numberAt 33 = .ok (.goto (-27), 3) := by decide +kernel
theorem dX7_numberAt_36 : decode cX7_numberAt 36 = .ok (.iload_n 2, 1) := by decide +kernel
theorem dX7_numberAt_37 : decode cX7_numberAt 37 = .ok (.ireturn, 1) := by decide +kernel
theorem dX7_empty_0 : decode cX7_empty 0 = .ok (.aload_n 0, 1) := by decide +kernel
theorem dX7_empty_1 : decode cX7_empty 1 = .ok (.iconst 0, 1) := by decide +kernel
theorem dX7_empty_2 : decode cX7_empty 2 = .ok (.putfield 15, 3) := by decide +kernel
theorem dX7_empty_5 : decode cX7_empty 5 = .ok (.return_, 1) := by decide +kernel
theorem dX8_init_0 : decode cX8_init 0 = .ok (.aload_n 0, 1) := by decide +kernel
theorem dX8_init_1 : decode cX8_init 1 = .ok (.invokespecial 3, 3) := by decide +kernel
theorem dX8_init_4 : decode cX8_init 4 = .ok (.aload_n 0, 1) := by decide +kernel
theorem dX8_init_5 : decode cX8_init 5 = .ok (.bipush 80, 2) := by decide +kernel
theorem dX8_init_7 : decode cX8_init 7 = .ok (.newarray .int, 2) := by decide +kernel
theorem dX8_init_9 : decode cX8_init 9 = .ok (.putfield 9, 3) := by decide +kernel
theorem dX8_init_12 : decode cX8_init 12 = .ok (.aload_n 0, 1) := by decide +kernel
theorem dX8_init_13 : decode cX8_init 13 = .ok (.bipush 8, 2) := by decide +kernel
theorem dX8_init_15 : decode cX8_init 15 = .ok (.newarray .int, 2) := by decide +kernel
theorem dX8_init_17 : decode cX8_init 17 = .ok (.putfield 15, 3) := by decide +kernel
theorem dX8_init_20 : decode cX8_init 20 = .ok (.aload_n 0, 1) := by decide +kernel
theorem dX8_init_21 : decode cX8_init 21 = .ok (.bipush 8, 2) := by decide +kernel
theorem dX8_init_23 : decode cX8_init 23 = .ok (.anewarray 18, 3) := by decide +kernel
theorem dX8_init_26 : decode cX8_init 26 = .ok (.putfield 20, 3) := by decide +kernel
theorem dX8_init_29 : decode cX8_init 29 = .ok (.aload_n 0, 1) := by decide +kernel
theorem dX8_init_30 : decode cX8_init 30 = .ok (.bipush 8, 2) := by decide +kernel
theorem dX8_init_32 : decode cX8_init 32 = .ok (.newarray .int, 2) := by decide +kernel
theorem dX8_init_34 : decode cX8_init 34 = .ok (.putfield 24, 3) := by decide +kernel
theorem dX8_init_37 : decode cX8_init 37 = .ok (.aload_n 0, 1) := by decide +kernel
theorem dX8_init_38 : decode cX8_init 38 = .ok (.bipush 8, 2) := by decide +kernel
theorem dX8_init_40 : decode cX8_init 40 = .ok (.newarray .int, 2) := by decide +kernel
theorem dX8_init_42 : decode cX8_init 42 = .ok (.putfield 27, 3) := by decide +kernel
theorem dX8_init_45 : decode cX8_init 45 = .ok (.return_, 1) := by decide +kernel
theorem dX8_told_0 : decode cX8_told 0 = .ok (.aload_n 0, 1) := by decide +kernel
theorem dX8_told_1 : decode cX8_told 1 = .ok (.getfield 30, 3) := by decide +kernel
theorem dX8_told_4 : decode cX8_told 4 = .ok (.ireturn, 1) := by decide +kernel
theorem dX8_phrase_0 : decode cX8_phrase 0 = .ok (.iload_n 1, 1) := by decide +kernel
theorem dX8_phrase_1 : decode cX8_phrase 1 = .ok (.ifCond .lt 20, 3) := by decide +kernel
theorem dX8_phrase_4 : decode cX8_phrase 4 = .ok (.iload_n 1, 1) := by decide +kernel
theorem dX8_phrase_5 : decode cX8_phrase 5 = .ok (.aload_n 0, 1) := by decide +kernel
theorem dX8_phrase_6 : decode cX8_phrase 6 = .ok (.getfield 30, 3) := by decide +kernel
theorem dX8_phrase_9 : decode cX8_phrase 9 = .ok (.if_icmp .ge 12, 3) := by decide +kernel
theorem dX8_phrase_12 : decode cX8_phrase 12 = .ok (.aload_n 0, 1) := by decide +kernel
theorem dX8_phrase_13 : decode cX8_phrase 13 = .ok (.getfield 20, 3) := by decide +kernel
theorem dX8_phrase_16 : decode cX8_phrase 16 = .ok (.iload_n 1, 1) := by decide +kernel
theorem dX8_phrase_17 : decode cX8_phrase 17 = .ok (.aaload, 1) := by decide +kernel
theorem dX8_phrase_18 : decode cX8_phrase 18 = .ok (.goto 4, 3) := by decide +kernel
theorem dX8_phrase_21 : decode cX8_phrase 21 = .ok (.aconst_null, 1) := by decide +kernel
theorem dX8_phrase_22 : decode cX8_phrase 22 = .ok (.areturn, 1) := by decide +kernel
theorem dX8_row_0 : decode cX8_row 0 = .ok (.iload_n 1, 1) := by decide +kernel
theorem dX8_row_1 : decode cX8_row 1 = .ok (.ifCond .lt 20, 3) := by decide +kernel
theorem dX8_row_4 : decode cX8_row 4 = .ok (.iload_n 1, 1) := by decide +kernel
theorem dX8_row_5 : decode cX8_row 5 = .ok (.aload_n 0, 1) := by decide +kernel
theorem dX8_row_6 : decode cX8_row 6 = .ok (.getfield 30, 3) := by decide +kernel
theorem dX8_row_9 : decode cX8_row 9 = .ok (.if_icmp .ge 12, 3) := by decide +kernel
theorem dX8_row_12 : decode cX8_row 12 = .ok (.aload_n 0, 1) := by decide +kernel
theorem dX8_row_13 : decode cX8_row 13 = .ok (.getfield 24, 3) := by decide +kernel
theorem dX8_row_16 : decode cX8_row 16 = .ok (.iload_n 1, 1) := by decide +kernel
theorem dX8_row_17 : decode cX8_row 17 = .ok (.iaload, 1) := by decide +kernel
theorem dX8_row_18 : decode cX8_row 18 = .ok (.goto 4, 3) := by decide +kernel
theorem dX8_row_21 : decode cX8_row 21 = .ok (.iconst 0, 1) := by decide +kernel
theorem dX8_row_22 : decode cX8_row 22 = .ok (.ireturn, 1) := by decide +kernel
theorem dX8_oneOf_0 : decode cX8_oneOf 0 = .ok (.iload_n 1, 1) := by decide +kernel
theorem dX8_oneOf_1 : decode cX8_oneOf 1 = .ok (.ifCond .lt 20, 3) := by decide +kernel
theorem dX8_oneOf_4 : decode cX8_oneOf 4 = .ok (.iload_n 1, 1) := by decide +kernel
theorem dX8_oneOf_5 : decode cX8_oneOf 5 = .ok (.aload_n 0, 1) := by decide +kernel
theorem dX8_oneOf_6 : decode cX8_oneOf 6 = .ok (.getfield 30, 3) := by decide +kernel
theorem dX8_oneOf_9 : decode cX8_oneOf 9 = .ok (.if_icmp .ge 12, 3) := by decide +kernel
theorem dX8_oneOf_12 : decode cX8_oneOf 12 = .ok (.aload_n 0, 1) := by decide +kernel
theorem dX8_oneOf_13 : decode cX8_oneOf 13 = .ok (.getfield 27, 3) := by decide +kernel
theorem dX8_oneOf_16 : decode cX8_oneOf 16 = .ok (.iload_n 1, 1) := by decide +kernel
theorem dX8_oneOf_17 : decode cX8_oneOf 17 = .ok (.iaload, 1) := by decide +kernel
theorem dX8_oneOf_18 : decode cX8_oneOf 18 = .ok (.goto 4, 3) := by decide +kernel
theorem dX8_oneOf_21 : decode cX8_oneOf 21 = .ok (.iconst (-1), 1) := by decide +kernel
theorem dX8_oneOf_22 : decode cX8_oneOf 22 = .ok (.ireturn, 1) := by decide +kernel
theorem dX8_tell_0 : decode cX8_tell 0 = .ok (.aload_n 0, 1) := by decide +kernel
theorem dX8_tell_1 : decode cX8_tell 1 = .ok (.getfield 30, 3) := by decide +kernel
theorem dX8_tell_4 : decode cX8_tell 4 = .ok (.bipush 8, 2) := by decide +kernel
theorem dX8_tell_6 : decode cX8_tell 6 = .ok (.if_icmp .lt 4, 3) := by decide +kernel
theorem dX8_tell_9 : decode cX8_tell 9 = .ok (.return_, 1) := by decide +kernel
theorem dX8_tell_10 : decode cX8_tell 10 = .ok (.aload_n 0, 1) := by decide +kernel
theorem dX8_tell_11 : decode cX8_tell 11 = .ok (.getfield 15, 3) := by decide +kernel
theorem dX8_tell_14 : decode cX8_tell 14 = .ok (.aload_n 0, 1) := by decide +kernel
theorem dX8_tell_15 : decode cX8_tell 15 = .ok (.getfield 30, 3) := by decide +kernel
theorem dX8_tell_18 : decode cX8_tell 18 = .ok (.aload_n 1, 1) := by decide +kernel
theorem dX8_tell_19 : decode cX8_tell 19 = .ok (.invokevirtual 34, 3) := by decide +kernel
theorem dX8_tell_22 : decode cX8_tell 22 = .ok (.iastore, 1) := by decide +kernel
theorem dX8_tell_23 : decode cX8_tell 23 = .ok (.iconst 0, 1) := by decide +kernel
theorem dX8_tell_24 : decode cX8_tell 24 = .ok (.istore_n 3, 1) := by decide +kernel
theorem dX8_tell_25 : decode cX8_tell 25 = .ok (.iload_n 3, 1) := by decide +kernel
theorem dX8_tell_26 : decode cX8_tell 26 = .ok (.bipush 10, 2) := by decide +kernel
theorem dX8_tell_28 : decode cX8_tell 28 = .ok (.if_icmp .ge 28, 3) := by decide +kernel
theorem dX8_tell_31 : decode cX8_tell 31 = .ok (.aload_n 0, 1) := by decide +kernel
theorem dX8_tell_32 : decode cX8_tell 32 = .ok (.getfield 9, 3) := by decide +kernel
theorem dX8_tell_35 : decode cX8_tell 35 = .ok (.aload_n 0, 1) := by decide +kernel
theorem dX8_tell_36 : decode cX8_tell 36 = .ok (.getfield 30, 3) := by decide +kernel
theorem dX8_tell_39 : decode cX8_tell 39 = .ok (.bipush 10, 2) := by decide +kernel
theorem dX8_tell_41 : decode cX8_tell 41 = .ok (.imul, 1) := by decide +kernel
theorem dX8_tell_42 : decode cX8_tell 42 = .ok (.iload_n 3, 1) := by decide +kernel
theorem dX8_tell_43 : decode cX8_tell 43 = .ok (.iadd, 1) := by decide +kernel
theorem dX8_tell_44 : decode cX8_tell 44 = .ok (.aload_n 1, 1) := by decide +kernel
theorem dX8_tell_45 : decode cX8_tell 45 = .ok (.iload_n 3, 1) := by decide +kernel
theorem dX8_tell_46 : decode cX8_tell 46 = .ok (.invokevirtual 40, 3) := by decide +kernel
theorem dX8_tell_49 : decode cX8_tell 49 = .ok (.iastore, 1) := by decide +kernel
theorem dX8_tell_50 : decode cX8_tell 50 = .ok (.iinc 3 1, 3) := by decide +kernel
theorem dX8_tell_53 : decode cX8_tell 53 = .ok (.goto (-28), 3) := by decide +kernel
theorem dX8_tell_56 : decode cX8_tell 56 = .ok (.aload_n 0, 1) := by decide +kernel
theorem dX8_tell_57 : decode cX8_tell 57 = .ok (.getfield 20, 3) := by decide +kernel
theorem dX8_tell_60 : decode cX8_tell 60 = .ok (.aload_n 0, 1) := by decide +kernel
theorem dX8_tell_61 : decode cX8_tell 61 = .ok (.getfield 30, 3) := by decide +kernel
theorem dX8_tell_64 : decode cX8_tell 64 = .ok (.aload_n 1, 1) := by decide +kernel
theorem dX8_tell_65 : decode cX8_tell 65 = .ok (.getfield 44, 3) := by decide +kernel
theorem dX8_tell_68 : decode cX8_tell 68 = .ok (.invokevirtual 48, 3) := by decide +kernel
theorem dX8_tell_71 : decode cX8_tell 71 = .ok (.aastore, 1) := by decide +kernel
theorem dX8_tell_72 : decode cX8_tell 72 = .ok (.aload_n 0, 1) := by decide +kernel
theorem dX8_tell_73 : decode cX8_tell 73 = .ok (.getfield 24, 3) := by decide +kernel
theorem dX8_tell_76 : decode cX8_tell 76 = .ok (.aload_n 0, 1) := by decide +kernel
theorem dX8_tell_77 : decode cX8_tell 77 = .ok (.getfield 30, 3) := by decide +kernel
theorem dX8_tell_80 : decode cX8_tell 80 = .ok (.aload_n 1, 1) := by decide +kernel
theorem dX8_tell_81 : decode cX8_tell 81 = .ok (.getfield 52, 3) := by decide +kernel
theorem dX8_tell_84 : decode cX8_tell 84 = .ok (.iconst 0, 1) := by decide +kernel
theorem dX8_tell_85 : decode cX8_tell 85 = .ok (.invokevirtual 56, 3) := by decide +kernel
theorem dX8_tell_88 : decode cX8_tell 88 = .ok (.iastore, 1) := by decide +kernel
theorem dX8_tell_89 : decode cX8_tell 89 = .ok (.aload_n 0, 1) := by decide +kernel
theorem dX8_tell_90 : decode cX8_tell 90 = .ok (.getfield 27, 3) := by decide +kernel
theorem dX8_tell_93 : decode cX8_tell 93 = .ok (.aload_n 0, 1) := by decide +kernel
theorem dX8_tell_94 : decode cX8_tell 94 = .ok (.getfield 30, 3) := by decide +kernel
theorem dX8_tell_97 : decode cX8_tell 97 = .ok (.iload_n 2, 1) := by decide +kernel
theorem dX8_tell_98 : decode cX8_tell 98 = .ok (.iastore, 1) := by decide +kernel
theorem dX8_tell_99 : decode cX8_tell 99 = .ok (.aload_n 0, 1) := by decide +kernel
theorem dX8_tell_100 : decode cX8_tell 100 = .ok (.dup, 1) := by decide +kernel
theorem dX8_tell_101 : decode cX8_tell 101 = .ok (.getfield 30, 3) := by decide +kernel
theorem dX8_tell_104 : decode cX8_tell 104 = .ok (.iconst 1, 1) := by decide +kernel
theorem dX8_tell_105 : decode cX8_tell 105 = .ok (.iadd, 1) := by decide +kernel
theorem dX8_tell_106 : decode cX8_tell 106 = .ok (.putfield 30, 3) := by decide +kernel
theorem dX8_tell_109 : decode cX8_tell 109 = .ok (.return_, 1) := by decide +kernel
theorem dX8_find_0 : decode cX8_find 0 = .ok (.aload_n 1, 1) := by decide +kernel
theorem dX8_find_1 : decode cX8_find 1 = .ok (.iload_n 2, 1) := by decide +kernel
theorem dX8_find_2 : decode cX8_find 2 = .ok (.iload_n 3, 1) := by decide +kernel
theorem dX8_find_3 : decode cX8_find 3 = .ok (.invokestatic 61, 3) := by decide +kernel
theorem dX8_find_6 : decode cX8_find 6 = .ok (.istore 4, 2) := by decide +kernel
theorem dX8_find_8 : decode cX8_find 8 = .ok (.iconst 0, 1) := by decide +kernel
theorem dX8_find_9 : decode cX8_find 9 = .ok (.istore 5, 2) := by decide +kernel
theorem dX8_find_11 : decode cX8_find 11 = .ok (.iload 5, 2) := by decide +kernel
theorem dX8_find_13 : decode cX8_find 13 = .ok (.aload_n 0, 1) := by decide +kernel
theorem dX8_find_14 : decode cX8_find 14 = .ok (.getfield 30, 3) := by decide +kernel
theorem dX8_find_17 : decode cX8_find 17 = .ok (.if_icmp .ge 34, 3) := by decide +kernel
theorem dX8_find_20 : decode cX8_find 20 = .ok (.iload 4, 2) := by decide +kernel
theorem dX8_find_22 : decode cX8_find 22 = .ok (.iconst (-1), 1) := by decide +kernel
theorem dX8_find_23 : decode cX8_find 23 = .ok (.if_icmp .ne 28, 3) := by decide +kernel
theorem dX8_find_26 : decode cX8_find 26 = .ok (.aload_n 0, 1) := by decide +kernel
theorem dX8_find_27 : decode cX8_find 27 = .ok (.iload 5, 2) := by decide +kernel
theorem dX8_find_29 : decode cX8_find 29 = .ok (.aload_n 1, 1) := by decide +kernel
theorem dX8_find_30 : decode cX8_find 30 = .ok (.iload_n 2, 1) := by decide +kernel
theorem dX8_find_31 : decode cX8_find 31 = .ok (.iload_n 3, 1) := by decide +kernel
theorem dX8_find_32 : decode cX8_find 32 = .ok (.invokevirtual 65, 3) := by decide +kernel
theorem dX8_find_35 : decode cX8_find 35 = .ok (.ifCond .eq 10, 3) := by decide +kernel
theorem dX8_find_38 : decode cX8_find 38 = .ok (.bipush 29, 2) := by decide +kernel
theorem dX8_find_40 : decode cX8_find 40 = .ok (.iload 5, 2) := by decide +kernel
theorem dX8_find_42 : decode cX8_find 42 = .ok (.iadd, 1) := by decide +kernel
theorem dX8_find_43 : decode cX8_find 43 = .ok (.istore 4, 2) := by decide +kernel
theorem dX8_find_45 : decode cX8_find 45 = .ok (.iinc 5 1, 3) := by decide +kernel
theorem dX8_find_48 : decode cX8_find 48 = .ok (.goto (-37), 3) := by decide +kernel
theorem dX8_find_51 : decode cX8_find 51 = .ok (.iload 4, 2) := by decide +kernel
theorem dX8_find_53 : decode cX8_find 53 = .ok (.ireturn, 1) := by decide +kernel
theorem dX8_findBasic_0 : decode cX8_findBasic 0 = .ok (.iconst 0, 1) := by decide +kernel
theorem dX8_findBasic_1 : decode cX8_findBasic 1 = .ok (.istore_n 3, 1) := by decide +kernel
theorem dX8_findBasic_2 : decode cX8_findBasic 2 = .ok (.iload_n 1, 1) := by decide +kernel
theorem dX8_findBasic_3 : decode cX8_findBasic 3 = .ok (.istore 4, 2) := by decide +kernel
theorem dX8_findBasic_5 : decode cX8_findBasic 5 = .ok (.iconst 1, 1) := by decide +kernel
theorem dX8_findBasic_6 : decode cX8_findBasic 6 = .ok (.istore 5, 2) := by decide +kernel
theorem dX8_findBasic_8 : decode cX8_findBasic 8 = .ok (.iconst 0, 1) := by decide +kernel
theorem dX8_findBasic_9 : decode cX8_findBasic 9 = .ok (.istore 6, 2) := by decide +kernel
theorem dX8_findBasic_11 : decode cX8_findBasic 11 = .ok (.iload 6, 2) := by decide +kernel
theorem dX8_findBasic_13 : decode cX8_findBasic 13 = .ok (.ldc 69, 2) := by decide +kernel
theorem dX8_findBasic_15 : decode cX8_findBasic 15 = .ok (.invokevirtual 71, 3) := by decide +kernel
theorem dX8_findBasic_18 : decode cX8_findBasic 18 = .ok (.if_icmp .gt 97, 3) := by decide +kernel
theorem dX8_findBasic_21 : decode cX8_findBasic 21 = .ok (.iload 6, 2) := by decide +kernel
theorem dX8_findBasic_23 : decode cX8_findBasic 23 = .ok (.ldc 69, 2) := by decide +kernel
theorem dX8_findBasic_25 : decode cX8_findBasic 25 = .ok (.invokevirtual 71, 3) := by decide +kernel
theorem dX8_findBasic_28 : decode cX8_findBasic 28 = .ok (.if_icmp .ge 13, 3) := by decide +kernel
theorem dX8_findBasic_31 : decode cX8_findBasic 31 = .ok (.ldc 69, 2) := by decide +kernel
theorem dX8_findBasic_33 : decode cX8_findBasic 33 = .ok (.iload 6, 2) := by decide +kernel
theorem dX8_findBasic_35 : decode cX8_findBasic 35 = .ok (.invokevirtual 76, 3) := by decide +kernel
theorem dX8_findBasic_38 : decode cX8_findBasic 38 = .ok (.goto 5, 3) := by decide +kernel
theorem dX8_findBasic_41 : decode cX8_findBasic 41 = .ok (.bipush 32, 2) := by decide +kernel
theorem dX8_findBasic_43 : decode cX8_findBasic 43 = .ok (.istore 7, 2) := by decide +kernel
theorem dX8_findBasic_45 : decode cX8_findBasic 45 = .ok (.iload 7, 2) := by decide +kernel
theorem dX8_findBasic_47 : decode cX8_findBasic 47 = .ok (.bipush 32, 2) := by decide +kernel
theorem dX8_findBasic_49 : decode cX8_findBasic 49 = .ok (.if_icmp .eq 38, 3) := by decide +kernel
theorem dX8_findBasic_52 : decode cX8_findBasic 52 = .ok (.iload 5, 2) := by decide +kernel
theorem dX8_findBasic_54 : decode cX8_findBasic 54 = .ok (.ifCond .eq 24, 3) := by decide +kernel
theorem dX8_findBasic_57 : decode cX8_findBasic 57 = .ok (.iload 4, 2) := by decide +kernel
theorem dX8_findBasic_59 : decode cX8_findBasic 59 = .ok (.iload_n 2, 1) := by decide +kernel
theorem dX8_findBasic_60 : decode cX8_findBasic 60 = .ok (.if_icmp .ge 18, 3) := by decide +kernel
theorem dX8_findBasic_63 : decode cX8_findBasic 63 = .ok (.aload_n 0, 1) := by decide +kernel
theorem dX8_findBasic_64 : decode cX8_findBasic 64 = .ok (.iload 4, 2) := by decide +kernel
theorem dX8_findBasic_66 : decode cX8_findBasic 66 = .ok (.invokevirtual 80, 3) := by decide +kernel
theorem dX8_findBasic_69 : decode cX8_findBasic 69 = .ok (.iload 7, 2) := by decide +kernel
theorem dX8_findBasic_71 : decode cX8_findBasic 71 = .ok (.if_icmp .ne 7, 3) := by decide +kernel
theorem dX8_findBasic_74 : decode cX8_findBasic 74 = .ok (.iconst 1, 1) := by decide +kernel
theorem dX8_findBasic_75 : decode cX8_findBasic 75 = .ok (.goto 4, 3) := by decide +kernel
theorem dX8_findBasic_78 : decode cX8_findBasic 78 = .ok (.iconst 0, 1) := by decide +kernel
theorem dX8_findBasic_79 : decode cX8_findBasic 79 = .ok (.istore 5, 2) := by decide +kernel
theorem dX8_findBasic_81 : decode cX8_findBasic 81 = .ok (.iinc 4 1, 3) := by decide +kernel
theorem dX8_findBasic_84 : decode cX8_findBasic 84 = .ok (.goto 25, 3) := by decide +kernel
theorem dX8_findBasic_87 : decode cX8_findBasic 87 = .ok (.iload 5, 2) := by decide +kernel
theorem dX8_findBasic_89 : decode cX8_findBasic 89 = .ok (.ifCond .eq 11, 3) := by decide +kernel
theorem dX8_findBasic_92 : decode cX8_findBasic 92 = .ok (.iload 4, 2) := by decide +kernel
theorem dX8_findBasic_94 : decode cX8_findBasic 94 = .ok (.iload_n 2, 1) := by decide +kernel
theorem dX8_findBasic_95 : decode cX8_findBasic 95 = .ok (.if_icmp .ne 5, 3) := by decide +kernel
theorem dX8_findBasic_98 : decode cX8_findBasic 98 = .ok (.iload_n 3, 1) := by decide +kernel
theorem dX8_findBasic_99 : decode cX8_findBasic 99 = .ok (.ireturn, 1) := by decide +kernel
theorem dX8_findBasic_100 : decode cX8_findBasic 100 = .ok (.iinc 3 1, 3) := by decide +kernel
theorem dX8_findBasic_103 : decode cX8_findBasic 103 = .ok (.iload_n 1, 1) := by decide +kernel
theorem dX8_findBasic_104 : decode cX8_findBasic 104 = .ok (.istore 4, 2) := by decide +kernel
theorem dX8_findBasic_106 : decode cX8_findBasic 106 = .ok (.iconst 1, 1) := by decide +kernel
theorem dX8_findBasic_107 : decode cX8_findBasic 107 = .ok (.istore 5, 2) := by decide +kernel
theorem dX8_findBasic_109 : decode cX8_findBasic 109 = .ok (.iinc 6 1, 3) := by decide +kernel
theorem dX8_findBasic_112 : decode cX8_findBasic 112 = .ok (.goto (-101), 3) := by decide +kernel
theorem dX8_findBasic_115 : decode cX8_findBasic 115 = .ok (.iconst (-1), 1) := by decide +kernel
theorem dX8_findBasic_116 : decode cX8_findBasic 116 = .ok (.ireturn, 1) := by decide +kernel
theorem dX8_isTold_0 : decode cX8_isTold 0 = .ok (.iload_n 1, 1) := by decide +kernel
theorem dX8_isTold_1 : decode cX8_isTold 1 = .ok (.ifCond .lt 24, 3) := by decide +kernel
theorem dX8_isTold_4 : decode cX8_isTold 4 = .ok (.iload_n 1, 1) := by decide +kernel
theorem dX8_isTold_5 : decode cX8_isTold 5 = .ok (.aload_n 0, 1) := by decide +kernel
theorem dX8_isTold_6 : decode cX8_isTold 6 = .ok (.getfield 30, 3) := by decide +kernel
theorem dX8_isTold_9 : decode cX8_isTold 9 = .ok (.if_icmp .ge 16, 3) := by decide +kernel
theorem dX8_isTold_12 : decode cX8_isTold 12 = .ok (.aload_n 0, 1) := by decide +kernel
theorem dX8_isTold_13 : decode cX8_isTold 13 = .ok (.getfield 15, 3) := by decide +kernel
theorem dX8_isTold_16 : decode cX8_isTold 16 = .ok (.iload_n 1, 1) := by decide +kernel
theorem dX8_isTold_17 : decode cX8_isTold 17 = .ok (.iaload, 1) := by decide +kernel
theorem dX8_isTold_18 : decode cX8_isTold 18 = .ok (.iload 4, 2) := by decide +kernel
theorem dX8_isTold_20 : decode cX8_isTold 20 = .ok (.iload_n 3, 1) := by decide +kernel
theorem dX8_isTold_21 : decode cX8_isTold 21 = .ok (.isub, 1) := by decide +kernel
theorem dX8_isTold_22 : decode cX8_isTold 22 = .ok (.if_icmp .eq 5, 3) := by decide +kernel
theorem dX8_isTold_25 : decode cX8_isTold 25 = .ok (.iconst 0, 1) := by decide +kernel
theorem dX8_isTold_26 : decode cX8_isTold 26 = .ok (.ireturn, 1) := by decide +kernel
theorem dX8_isTold_27 : decode cX8_isTold 27 = .ok (.iconst 0, 1) := by decide +kernel
theorem dX8_isTold_28 : decode cX8_isTold 28 = .ok (.istore 5, 2) := by decide +kernel
theorem dX8_isTold_30 : decode cX8_isTold 30 = .ok (.iload 5, 2) := by decide +kernel
theorem dX8_isTold_32 : decode cX8_isTold 32 = .ok (.aload_n 0, 1) := by decide +kernel
theorem dX8_isTold_33 : decode cX8_isTold 33 = .ok (.getfield 15, 3) := by decide +kernel
theorem dX8_isTold_36 : decode cX8_isTold 36 = .ok (.iload_n 1, 1) := by decide +kernel
theorem dX8_isTold_37 : decode cX8_isTold 37 = .ok (.iaload, 1) := by decide +kernel
theorem dX8_isTold_38 : decode cX8_isTold 38 = .ok (.if_icmp .ge 41, 3) := by decide +kernel
theorem dX8_isTold_41 : decode cX8_isTold 41 = .ok (.iload 5, 2) := by decide +kernel
theorem dX8_isTold_43 : decode cX8_isTold 43 = .ok (.bipush 10, 2) := by decide +kernel
theorem dX8_isTold_45 : decode cX8_isTold 45 = .ok (.if_icmp .ge 34, 3) := by decide +kernel
theorem dX8_isTold_48 : decode cX8_isTold 48 = .ok (.aload_n 0, 1) := by decide +kernel
theorem dX8_isTold_49 : decode cX8_isTold 49 = .ok (.getfield 9, 3) := by decide +kernel
theorem dX8_isTold_52 : decode cX8_isTold 52 = .ok (.iload_n 1, 1) := by decide +kernel
theorem dX8_isTold_53 : decode cX8_isTold 53 = .ok (.bipush 10, 2) := by decide +kernel
theorem dX8_isTold_55 : decode cX8_isTold 55 = .ok (.imul, 1) := by decide +kernel
theorem dX8_isTold_56 : decode cX8_isTold 56 = .ok (.iload 5, 2) := by decide +kernel
theorem dX8_isTold_58 : decode cX8_isTold 58 = .ok (.iadd, 1) := by decide +kernel
theorem dX8_isTold_59 : decode cX8_isTold 59 = .ok (.iaload, 1) := by decide +kernel
theorem dX8_isTold_60 : decode cX8_isTold 60 = .ok (.aload_n 2, 1) := by decide +kernel
theorem dX8_isTold_61 : decode cX8_isTold 61 = .ok (.iload_n 3, 1) := by decide +kernel
theorem dX8_isTold_62 : decode cX8_isTold 62 = .ok (.iload 5, 2) := by decide +kernel
theorem dX8_isTold_64 : decode cX8_isTold 64 = .ok (.iadd, 1) := by decide +kernel
theorem dX8_isTold_65 : decode cX8_isTold 65 = .ok (.invokevirtual 80, 3) := by decide +kernel
theorem dX8_isTold_68 : decode cX8_isTold 68 = .ok (.if_icmp .eq 5, 3) := by decide +kernel
theorem dX8_isTold_71 : decode cX8_isTold 71 = .ok (.iconst 0, 1) := by decide +kernel
theorem dX8_isTold_72 : decode cX8_isTold 72 = .ok (.ireturn, 1) := by decide +kernel
theorem dX8_isTold_73 : decode cX8_isTold 73 = .ok (.iinc 5 1, 3) := by decide +kernel
theorem dX8_isTold_76 : decode cX8_isTold 76 = .ok (.goto (-46), 3) := by decide +kernel
theorem dX8_isTold_79 : decode cX8_isTold 79 = .ok (.iconst 1, 1) := by decide +kernel
theorem dX8_isTold_80 : decode cX8_isTold 80 = .ok (.ireturn, 1) := by decide +kernel
theorem dX9_init_0 : decode cX9_init 0 = .ok (.aload_n 0, 1) := by decide +kernel
theorem dX9_init_1 : decode cX9_init 1 = .ok (.invokespecial 3, 3) := by decide +kernel
theorem dX9_init_4 : decode cX9_init 4 = .ok (.aload_n 0, 1) := by decide +kernel
theorem dX9_init_5 : decode cX9_init 5 = .ok (.new 9, 3) := by decide +kernel
theorem dX9_init_8 : decode cX9_init 8 = .ok (.dup, 1) := by decide +kernel
theorem dX9_init_9 : decode cX9_init 9 = .ok (.invokespecial 11, 3) := by decide +kernel
theorem dX9_init_12 : decode cX9_init 12 = .ok (.putfield 12, 3) := by decide +kernel
theorem dX9_init_15 : decode cX9_init 15 = .ok (.aload_n 0, 1) := by decide +kernel
theorem dX9_init_16 : decode cX9_init 16 = .ok (.new 16, 3) := by decide +kernel
theorem dX9_init_19 : decode cX9_init 19 = .ok (.dup, 1) := by decide +kernel
theorem dX9_init_20 : decode cX9_init 20 = .ok (.invokespecial 18, 3) := by decide +kernel
theorem dX9_init_23 : decode cX9_init 23 = .ok (.putfield 19, 3) := by decide +kernel
theorem dX9_init_26 : decode cX9_init 26 = .ok (.aload_n 0, 1) := by decide +kernel
theorem dX9_init_27 : decode cX9_init 27 = .ok (.new 23, 3) := by decide +kernel
theorem dX9_init_30 : decode cX9_init 30 = .ok (.dup, 1) := by decide +kernel
theorem dX9_init_31 : decode cX9_init 31 = .ok (.invokespecial 25, 3) := by decide +kernel
theorem dX9_init_34 : decode cX9_init 34 = .ok (.putfield 26, 3) := by decide +kernel
theorem dX9_init_37 : decode cX9_init 37 = .ok (.aload_n 0, 1) := by decide +kernel
theorem dX9_init_38 : decode cX9_init 38 = .ok (.new 30, 3) := by decide +kernel
theorem dX9_init_41 : decode cX9_init 41 = .ok (.dup, 1) := by decide +kernel
theorem dX9_init_42 : decode cX9_init 42 = .ok (.invokespecial 32, 3) := by decide +kernel
theorem dX9_init_45 : decode cX9_init 45 = .ok (.putfield 33, 3) := by decide +kernel
theorem dX9_init_48 : decode cX9_init 48 = .ok (.aload_n 0, 1) := by decide +kernel
theorem dX9_init_49 : decode cX9_init 49 = .ok (.new 37, 3) := by decide +kernel
theorem dX9_init_52 : decode cX9_init 52 = .ok (.dup, 1) := by decide +kernel
theorem dX9_init_53 : decode cX9_init 53 = .ok (.invokespecial 39, 3) := by decide +kernel
theorem dX9_init_56 : decode cX9_init 56 = .ok (.putfield 40, 3) := by decide +kernel
theorem dX9_init_59 : decode cX9_init 59 = .ok (.aload_n 0, 1) := by decide +kernel
theorem dX9_init_60 : decode cX9_init 60 = .ok (.new 44, 3) := by decide +kernel
theorem dX9_init_63 : decode cX9_init 63 = .ok (.dup, 1) := by decide +kernel
theorem dX9_init_64 : decode cX9_init 64 = .ok (.aload_n 0, 1) := by decide +kernel
theorem dX9_init_65 : decode cX9_init 65 = .ok (.getfield 12, 3) := by decide +kernel
theorem dX9_init_68 : decode cX9_init 68 = .ok (.aload_n 0, 1) := by decide +kernel
theorem dX9_init_69 : decode cX9_init 69 = .ok (.getfield 26, 3) := by decide +kernel
theorem dX9_init_72 : decode cX9_init 72 = .ok (.aload_n 0, 1) := by decide +kernel
theorem dX9_init_73 : decode cX9_init 73 = .ok (.getfield 33, 3) := by decide +kernel
theorem dX9_init_76 : decode cX9_init 76 = .ok (.invokespecial 46, 3) := by decide +kernel
theorem dX9_init_79 : decode cX9_init 79 = .ok (.putfield 49, 3) := by decide +kernel
theorem dX9_init_82 : decode cX9_init 82 = .ok (.aload_n 0, 1) := by decide +kernel
theorem dX9_init_83 : decode cX9_init 83 = .ok (.new 53, 3) := by decide +kernel
theorem dX9_init_86 : decode cX9_init 86 = .ok (.dup, 1) := by decide +kernel
theorem dX9_init_87 : decode cX9_init 87 = .ok (.invokespecial 55, 3) := by decide +kernel
theorem dX9_init_90 : decode cX9_init 90 = .ok (.putfield 56, 3) := by decide +kernel
theorem dX9_init_93 : decode cX9_init 93 = .ok (.return_, 1) := by decide +kernel
theorem dX9_thing_0 : decode cX9_thing 0 = .ok (.aload_n 0, 1) := by decide +kernel
theorem dX9_thing_1 : decode cX9_thing 1 = .ok (.getfield 12, 3) := by decide +kernel
theorem dX9_thing_4 : decode cX9_thing 4 = .ok (.iload_n 1, 1) := by decide +kernel
theorem dX9_thing_5 : decode cX9_thing 5 = .ok (.iload_n 2, 1) := by decide +kernel
theorem dX9_thing_6 : decode cX9_thing 6 = .ok (.iload_n 3, 1) := by decide +kernel
theorem dX9_thing_7 : decode cX9_thing 7 = .ok (.invokevirtual 60, 3) := by decide +kernel
theorem dX9_thing_10 : decode cX9_thing 10 = .ok (.ireturn, 1) := by decide +kernel
theorem dX9_act_0 : decode cX9_act 0 = .ok (.aload_n 0, 1) := by decide +kernel
theorem dX9_act_1 : decode cX9_act 1 = .ok (.getfield 12, 3) := by decide +kernel
theorem dX9_act_4 : decode cX9_act 4 = .ok (.iload_n 1, 1) := by decide +kernel
theorem dX9_act_5 : decode cX9_act 5 = .ok (.iload_n 2, 1) := by decide +kernel
theorem dX9_act_6 : decode cX9_act 6 = .ok (.iconst (-1), 1) := by decide +kernel
theorem dX9_act_7 : decode cX9_act 7 = .ok (.iconst (-1), 1) := by decide +kernel
theorem dX9_act_8 : decode cX9_act 8 = .ok (.invokevirtual 64, 3) := by decide +kernel
theorem dX9_act_11 : decode cX9_act 11 = .ok (.ireturn, 1) := by decide +kernel
theorem dX9_undo_0 : decode cX9_undo 0 = .ok (.aload_n 0, 1) := by decide +kernel
theorem dX9_undo_1 : decode cX9_undo 1 = .ok (.getfield 12, 3) := by decide +kernel
theorem dX9_undo_4 : decode cX9_undo 4 = .ok (.invokevirtual 68, 3) := by decide +kernel
theorem dX9_undo_7 : decode cX9_undo 7 = .ok (.ireturn, 1) := by decide +kernel
theorem dX9_where_0 : decode cX9_where 0 = .ok (.aload_n 0, 1) := by decide +kernel
theorem dX9_where_1 : decode cX9_where 1 = .ok (.getfield 12, 3) := by decide +kernel
theorem dX9_where_4 : decode cX9_where 4 = .ok (.iload_n 1, 1) := by decide +kernel
theorem dX9_where_5 : decode cX9_where 5 = .ok (.invokevirtual 72, 3) := by decide +kernel
theorem dX9_where_8 : decode cX9_where 8 = .ok (.ireturn, 1) := by decide +kernel
theorem dX9_over_0 : decode cX9_over 0 = .ok (.iload_n 2, 1) := by decide +kernel
theorem dX9_over_1 : decode cX9_over 1 = .ok (.lookupswitch 45 #[(0, 27), (1, 36)], 27) := by decide +kernel
theorem dX9_over_28 : decode cX9_over 28 = .ok (.aload_n 0, 1) := by decide +kernel
theorem dX9_over_29 : decode cX9_over 29 = .ok (.getfield 12, 3) := by decide +kernel
theorem dX9_over_32 : decode cX9_over 32 = .ok (.iload_n 1, 1) := by decide +kernel
theorem dX9_over_33 : decode cX9_over 33 = .ok (.invokevirtual 76, 3) := by decide +kernel
theorem dX9_over_36 : decode cX9_over 36 = .ok (.ireturn, 1) := by decide +kernel
theorem dX9_over_37 : decode cX9_over 37 = .ok (.aload_n 0, 1) := by decide +kernel
theorem dX9_over_38 : decode cX9_over 38 = .ok (.getfield 12, 3) := by decide +kernel
theorem dX9_over_41 : decode cX9_over 41 = .ok (.iload_n 1, 1) := by decide +kernel
theorem dX9_over_42 : decode cX9_over 42 = .ok (.invokevirtual 79, 3) := by decide +kernel
theorem dX9_over_45 : decode cX9_over 45 = .ok (.ireturn, 1) := by decide +kernel
theorem dX9_over_46 : decode cX9_over 46 = .ok (.iconst (-1), 1) := by decide +kernel
theorem dX9_over_47 : decode cX9_over 47 = .ok (.ireturn, 1) := by decide +kernel
theorem dX9_was_0 : decode cX9_was 0 = .ok (.aload_n 0, 1) := by decide +kernel
theorem dX9_was_1 : decode cX9_was 1 = .ok (.getfield 12, 3) := by decide +kernel
theorem dX9_was_4 : decode cX9_was 4 = .ok (.iload_n 1, 1) := by decide +kernel
theorem dX9_was_5 : decode cX9_was 5 = .ok (.iload_n 2, 1) := by decide +kernel
theorem dX9_was_6 : decode cX9_was 6 = .ok (.invokevirtual 82, 3) := by decide +kernel
theorem dX9_was_9 : decode cX9_was 9 = .ok (.ireturn, 1) := by decide +kernel
theorem dX9_event_0 : decode cX9_event 0 = .ok (.aload_n 0, 1) := by decide +kernel
theorem dX9_event_1 : decode cX9_event 1 = .ok (.getfield 12, 3) := by decide +kernel
theorem dX9_event_4 : decode cX9_event 4 = .ok (.iload_n 1, 1) := by decide +kernel
theorem dX9_event_5 : decode cX9_event 5 = .ok (.iload_n 2, 1) := by decide +kernel
theorem dX9_event_6 : decode cX9_event 6 = .ok (.invokevirtual 86, 3) := by decide +kernel
theorem dX9_event_9 : decode cX9_event 9 = .ok (.ireturn, 1) := by decide +kernel
theorem dX9_feed_0 : decode cX9_feed 0 = .ok (.aload_n 0, 1) := by decide +kernel
theorem dX9_feed_1 : decode cX9_feed 1 = .ok (.getfield 19, 3) := by decide +kernel
theorem dX9_feed_4 : decode cX9_feed 4 = .ok (.bipush 20, 2) := by decide +kernel
theorem dX9_feed_6 : decode cX9_feed 6 = .ok (.invokevirtual 89, 3) := by decide +kernel
theorem dX9_feed_9 : decode cX9_feed 9 = .ok (.ifCond .ne 5, 3) := by decide +kernel
theorem dX9_feed_12 : decode cX9_feed 12 = .ok (.iconst (-1), 1) := by decide +kernel
theorem dX9_feed_13 : decode cX9_feed 13 = .ok (.ireturn, 1) := by decide +kernel
theorem dX9_feed_14 : decode cX9_feed 14 = .ok (.aload_n 0, 1) := by decide +kernel
theorem dX9_feed_15 : decode cX9_feed 15 = .ok (.getfield 19, 3) := by decide +kernel
theorem dX9_feed_18 : decode cX9_feed 18 = .ok (.iload_n 1, 1) := by decide +kernel
theorem dX9_feed_19 : decode cX9_feed 19 = .ok (.invokevirtual 93, 3) := by decide +kernel
theorem dX9_feed_22 : decode cX9_feed 22 = .ok (.aload_n 0, 1) := by decide +kernel
theorem dX9_feed_23 : decode cX9_feed 23 = .ok (.getfield 19, 3) := by decide +kernel
theorem dX9_feed_26 : decode cX9_feed 26 = .ok (.iload_n 2, 1) := by decide +kernel
theorem dX9_feed_27 : decode cX9_feed 27 = .ok (.invokevirtual 93, 3) := by decide +kernel
theorem dX9_feed_30 : decode cX9_feed 30 = .ok (.aload_n 0, 1) := by decide +kernel
theorem dX9_feed_31 : decode cX9_feed 31 = .ok (.getfield 19, 3) := by decide +kernel
theorem dX9_feed_34 : decode cX9_feed 34 = .ok (.iload_n 3, 1) := by decide +kernel
theorem dX9_feed_35 : decode cX9_feed 35 = .ok (.invokevirtual 93, 3) := by decide +kernel
theorem dX9_feed_38 : decode cX9_feed 38 = .ok (.aload_n 0, 1) := by decide +kernel
theorem dX9_feed_39 : decode cX9_feed 39 = .ok (.getfield 19, 3) := by decide +kernel
theorem dX9_feed_42 : decode cX9_feed 42 = .ok (.iload 4, 2) := by decide +kernel
theorem dX9_feed_44 : decode cX9_feed 44 = .ok (.invokevirtual 93, 3) := by decide +kernel
theorem dX9_feed_47 : decode cX9_feed 47 = .ok (.aload_n 0, 1) := by decide +kernel
theorem dX9_feed_48 : decode cX9_feed 48 = .ok (.getfield 19, 3) := by decide +kernel
theorem dX9_feed_51 : decode cX9_feed 51 = .ok (.iload 5, 2) := by decide +kernel
theorem dX9_feed_53 : decode cX9_feed 53 = .ok (.invokevirtual 93, 3) := by decide +kernel
theorem dX9_feed_56 : decode cX9_feed 56 = .ok (.aload_n 0, 1) := by decide +kernel
theorem dX9_feed_57 : decode cX9_feed 57 = .ok (.getfield 19, 3) := by decide +kernel
theorem dX9_feed_60 : decode cX9_feed 60 = .ok (.invokevirtual 97, 3) := by decide +kernel
theorem dX9_feed_63 : decode cX9_feed 63 = .ok (.ireturn, 1) := by decide +kernel
theorem dX9_say_0 : decode cX9_say 0 = .ok (.iload_n 1, 1) := by decide +kernel
theorem dX9_say_1 : decode cX9_say 1 = .ok (.iconst 1, 1) := by decide +kernel
theorem dX9_say_2 : decode cX9_say 2 = .ok (.if_icmp .lt 20, 3) := by decide +kernel
theorem dX9_say_5 : decode cX9_say 5 = .ok (.iload_n 1, 1) := by decide +kernel
theorem dX9_say_6 : decode cX9_say 6 = .ok (.bipush 100, 2) := by decide +kernel
theorem dX9_say_8 : decode cX9_say 8 = .ok (.if_icmp .gt 14, 3) := by decide +kernel
theorem dX9_say_11 : decode cX9_say 11 = .ok (.iload_n 1, 1) := by decide +kernel
theorem dX9_say_12 : decode cX9_say 12 = .ok (.aload_n 0, 1) := by decide +kernel
theorem dX9_say_13 : decode cX9_say 13 = .ok (.getfield 19, 3) := by decide +kernel
theorem dX9_say_16 : decode cX9_say 16 = .ok (.invokevirtual 97, 3) := by decide +kernel
theorem dX9_say_19 : decode cX9_say 19 = .ok (.if_icmp .le 5, 3) := by decide +kernel
theorem dX9_say_22 : decode cX9_say 22 = .ok (.iconst (-1), 1) := by decide +kernel
theorem dX9_say_23 : decode cX9_say 23 = .ok (.ireturn, 1) := by decide +kernel
theorem dX9_say_24 : decode cX9_say 24 = .ok (.aload_n 0, 1) := by decide +kernel
theorem dX9_say_25 : decode cX9_say 25 = .ok (.getfield 40, 3) := by decide +kernel
theorem dX9_say_28 : decode cX9_say 28 = .ok (.aload_n 0, 1) := by decide +kernel
theorem dX9_say_29 : decode cX9_say 29 = .ok (.getfield 19, 3) := by decide +kernel
theorem dX9_say_32 : decode cX9_say 32 = .ok (.iload_n 1, 1) := by decide +kernel
theorem dX9_say_33 : decode cX9_say 33 = .ok (.aload_n 0, 1) := by decide +kernel
theorem dX9_say_34 : decode cX9_say 34 = .ok (.getfield 26, 3) := by decide +kernel
theorem dX9_say_37 : decode cX9_say 37 = .ok (.invokevirtual 100, 3) := by decide +kernel
theorem dX9_say_40 : decode cX9_say 40 = .ok (.istore_n 2, 1) := by decide +kernel
theorem dX9_say_41 : decode cX9_say 41 = .ok (.aload_n 0, 1) := by decide +kernel
theorem dX9_say_42 : decode cX9_say 42 = .ok (.getfield 19, 3) := by decide +kernel
theorem dX9_say_45 : decode cX9_say 45 = .ok (.invokevirtual 104, 3) := by decide +kernel
theorem dX9_say_48 : decode cX9_say 48 = .ok (.iload_n 2, 1) := by decide +kernel
theorem dX9_say_49 : decode cX9_say 49 = .ok (.ireturn, 1) := by decide +kernel
theorem dX9_reading_0 : decode cX9_reading 0 = .ok (.aload_n 0, 1) := by decide +kernel
theorem dX9_reading_1 : decode cX9_reading 1 = .ok (.getfield 40, 3) := by decide +kernel
theorem dX9_reading_4 : decode cX9_reading 4 = .ok (.iload_n 1, 1) := by decide +kernel
theorem dX9_reading_5 : decode cX9_reading 5 = .ok (.invokevirtual 107, 3) := by decide +kernel
theorem dX9_reading_8 : decode cX9_reading 8 = .ok (.ifCond .eq 21, 3) := by decide +kernel
theorem dX9_reading_11 : decode cX9_reading 11 = .ok (.iload_n 2, 1) := by decide +kernel
theorem dX9_reading_12 : decode cX9_reading 12 = .ok (.ifCond .lt 17, 3) := by decide +kernel
theorem dX9_reading_15 : decode cX9_reading 15 = .ok (.iload_n 2, 1) := by decide +kernel
theorem dX9_reading_16 : decode cX9_reading 16 = .ok (.aload_n 0, 1) := by decide +kernel
theorem dX9_reading_17 : decode cX9_reading 17 = .ok (.getfield 40, 3) := by decide +kernel
theorem dX9_reading_20 : decode cX9_reading 20 = .ok (.getfield 110, 3) := by decide +kernel
theorem dX9_reading_23 : decode cX9_reading 23 = .ok (.invokevirtual 114, 3) := by decide +kernel
theorem dX9_reading_26 : decode cX9_reading 26 = .ok (.if_icmp .lt 5, 3) := by decide +kernel
theorem dX9_reading_29 : decode cX9_reading 29 = .ok (.iconst (-1), 1) := by decide +kernel
theorem dX9_reading_30 : decode cX9_reading 30 = .ok (.ireturn, 1) := by decide +kernel
theorem dX9_reading_31 : decode cX9_reading 31 = .ok (.aload_n 0, 1) := by decide +kernel
theorem dX9_reading_32 : decode cX9_reading 32 = .ok (.getfield 40, 3) := by decide +kernel
theorem dX9_reading_35 : decode cX9_reading 35 = .ok (.getfield 119, 3) := by decide +kernel
theorem dX9_reading_38 : decode cX9_reading 38 = .ok (.iload_n 1, 1) := by decide +kernel
theorem dX9_reading_39 : decode cX9_reading 39 = .ok (.invokevirtual 123, 3) := by decide +kernel
theorem dX9_reading_42 : decode cX9_reading 42 = .ok (.iload_n 2, 1) := by decide +kernel
theorem dX9_reading_43 : decode cX9_reading 43 = .ok (.invokestatic 128, 3) := by decide +kernel
theorem dX9_reading_46 : decode cX9_reading 46 = .ok (.ireturn, 1) := by decide +kernel
theorem dX9_means_0 : decode cX9_means 0 = .ok (.aload_n 0, 1) := by decide +kernel
theorem dX9_means_1 : decode cX9_means 1 = .ok (.getfield 40, 3) := by decide +kernel
theorem dX9_means_4 : decode cX9_means 4 = .ok (.iload_n 1, 1) := by decide +kernel
theorem dX9_means_5 : decode cX9_means 5 = .ok (.invokevirtual 107, 3) := by decide +kernel
theorem dX9_means_8 : decode cX9_means 8 = .ok (.ifCond .eq 21, 3) := by decide +kernel
theorem dX9_means_11 : decode cX9_means 11 = .ok (.iload_n 2, 1) := by decide +kernel
theorem dX9_means_12 : decode cX9_means 12 = .ok (.ifCond .lt 17, 3) := by decide +kernel
theorem dX9_means_15 : decode cX9_means 15 = .ok (.iload_n 2, 1) := by decide +kernel
theorem dX9_means_16 : decode cX9_means 16 = .ok (.aload_n 0, 1) := by decide +kernel
theorem dX9_means_17 : decode cX9_means 17 = .ok (.getfield 40, 3) := by decide +kernel
theorem dX9_means_20 : decode cX9_means 20 = .ok (.getfield 110, 3) := by decide +kernel
theorem dX9_means_23 : decode cX9_means 23 = .ok (.invokevirtual 131, 3) := by decide +kernel
theorem dX9_means_26 : decode cX9_means 26 = .ok (.if_icmp .lt 5, 3) := by decide +kernel
theorem dX9_means_29 : decode cX9_means 29 = .ok (.iconst (-1), 1) := by decide +kernel
theorem dX9_means_30 : decode cX9_means 30 = .ok (.ireturn, 1) := by decide +kernel
theorem dX9_means_31 : decode cX9_means 31 = .ok (.aload_n 0, 1) := by decide +kernel
theorem dX9_means_32 : decode cX9_means 32 = .ok (.getfield 49, 3) := by decide +kernel
theorem dX9_means_35 : decode cX9_means 35 = .ok (.aload_n 0, 1) := by decide +kernel
theorem dX9_means_36 : decode cX9_means 36 = .ok (.getfield 40, 3) := by decide +kernel
theorem dX9_means_39 : decode cX9_means 39 = .ok (.iload_n 1, 1) := by decide +kernel
theorem dX9_means_40 : decode cX9_means 40 = .ok (.invokevirtual 134, 3) := by decide +kernel
theorem dX9_means_43 : decode cX9_means 43 = .ok (.aload_n 0, 1) := by decide +kernel
theorem dX9_means_44 : decode cX9_means 44 = .ok (.getfield 49, 3) := by decide +kernel
theorem dX9_means_47 : decode cX9_means 47 = .ok (.iload_n 2, 1) := by decide +kernel
theorem dX9_means_48 : decode cX9_means 48 = .ok (.invokevirtual 138, 3) := by decide +kernel
theorem dX9_means_51 : decode cX9_means 51 = .ok (.ireturn, 1) := by decide +kernel
theorem dX9_trouble_0 : decode cX9_trouble 0 = .ok (.aload_n 0, 1) := by decide +kernel
theorem dX9_trouble_1 : decode cX9_trouble 1 = .ok (.getfield 40, 3) := by decide +kernel
theorem dX9_trouble_4 : decode cX9_trouble 4 = .ok (.iload_n 1, 1) := by decide +kernel
theorem dX9_trouble_5 : decode cX9_trouble 5 = .ok (.invokevirtual 107, 3) := by decide +kernel
theorem dX9_trouble_8 : decode cX9_trouble 8 = .ok (.ifCond .eq 12, 3) := by decide +kernel
theorem dX9_trouble_11 : decode cX9_trouble 11 = .ok (.iload_n 2, 1) := by decide +kernel
theorem dX9_trouble_12 : decode cX9_trouble 12 = .ok (.ifCond .lt 8, 3) := by decide +kernel
theorem dX9_trouble_15 : decode cX9_trouble 15 = .ok (.iload_n 2, 1) := by decide +kernel
theorem dX9_trouble_16 : decode cX9_trouble 16 = .ok (.iconst 1, 1) := by decide +kernel
theorem dX9_trouble_17 : decode cX9_trouble 17 = .ok (.if_icmp .le 5, 3) := by decide +kernel
theorem dX9_trouble_20 : decode cX9_trouble 20 = .ok (.iconst (-1), 1) := by decide +kernel
theorem dX9_trouble_21 : decode cX9_trouble 21 = .ok (.ireturn, 1) := by decide +kernel
theorem dX9_trouble_22 : decode cX9_trouble 22 = .ok (.aload_n 0, 1) := by decide +kernel
theorem dX9_trouble_23 : decode cX9_trouble 23 = .ok (.getfield 49, 3) := by decide +kernel
theorem dX9_trouble_26 : decode cX9_trouble 26 = .ok (.aload_n 0, 1) := by decide +kernel
theorem dX9_trouble_27 : decode cX9_trouble 27 = .ok (.getfield 40, 3) := by decide +kernel
theorem dX9_trouble_30 : decode cX9_trouble 30 = .ok (.iload_n 1, 1) := by decide +kernel
theorem dX9_trouble_31 : decode cX9_trouble 31 = .ok (.invokevirtual 134, 3) := by decide +kernel
theorem dX9_trouble_34 : decode cX9_trouble 34 = .ok (.iload_n 2, 1) := by decide +kernel
theorem dX9_trouble_35 : decode cX9_trouble 35 = .ok (.ifCond .ne 13, 3) := by decide +kernel
theorem dX9_trouble_38 : decode cX9_trouble 38 = .ok (.aload_n 0, 1) := by decide +kernel
theorem dX9_trouble_39 : decode cX9_trouble 39 = .ok (.getfield 49, 3) := by decide +kernel
theorem dX9_trouble_42 : decode cX9_trouble 42 = .ok (.invokevirtual 141, 3) := by decide +kernel
theorem dX9_trouble_45 : decode cX9_trouble 45 = .ok (.goto 10, 3) := by decide +kernel
theorem dX9_trouble_48 : decode cX9_trouble 48 = .ok (.aload_n 0, 1) := by decide +kernel
theorem dX9_trouble_49 : decode cX9_trouble 49 = .ok (.getfield 49, 3) := by decide +kernel
theorem dX9_trouble_52 : decode cX9_trouble 52 = .ok (.invokevirtual 144, 3) := by decide +kernel
theorem dX9_trouble_55 : decode cX9_trouble 55 = .ok (.ireturn, 1) := by decide +kernel
theorem dX9_taken_0 : decode cX9_taken 0 = .ok (.aload_n 0, 1) := by decide +kernel
theorem dX9_taken_1 : decode cX9_taken 1 = .ok (.getfield 40, 3) := by decide +kernel
theorem dX9_taken_4 : decode cX9_taken 4 = .ok (.invokevirtual 147, 3) := by decide +kernel
theorem dX9_taken_7 : decode cX9_taken 7 = .ok (.ifCond .eq 17, 3) := by decide +kernel
theorem dX9_taken_10 : decode cX9_taken 10 = .ok (.aload_n 0, 1) := by decide +kernel
theorem dX9_taken_11 : decode cX9_taken 11 = .ok (.getfield 49, 3) := by decide +kernel
theorem dX9_taken_14 : decode cX9_taken 14 = .ok (.aload_n 0, 1) := by decide +kernel
theorem dX9_taken_15 : decode cX9_taken 15 = .ok (.getfield 40, 3) := by decide +kernel
theorem dX9_taken_18 : decode cX9_taken 18 = .ok (.invokevirtual 151, 3) := by decide +kernel
theorem dX9_taken_21 : decode cX9_taken 21 = .ok (.goto 4, 3) := by decide +kernel
theorem dX9_taken_24 : decode cX9_taken 24 = .ok (.iconst (-1), 1) := by decide +kernel
theorem dX9_taken_25 : decode cX9_taken 25 = .ok (.ireturn, 1) := by decide +kernel
theorem dX9_answer_0 : decode cX9_answer 0 = .ok (.aload_n 0, 1) := by decide +kernel
theorem dX9_answer_1 : decode cX9_answer 1 = .ok (.getfield 40, 3) := by decide +kernel
theorem dX9_answer_4 : decode cX9_answer 4 = .ok (.invokevirtual 147, 3) := by decide +kernel
theorem dX9_answer_7 : decode cX9_answer 7 = .ok (.ifCond .eq 13, 3) := by decide +kernel
theorem dX9_answer_10 : decode cX9_answer 10 = .ok (.aload_n 0, 1) := by decide +kernel
theorem dX9_answer_11 : decode cX9_answer 11 = .ok (.getfield 40, 3) := by decide +kernel
theorem dX9_answer_14 : decode cX9_answer 14 = .ok (.invokevirtual 155, 3) := by decide +kernel
theorem dX9_answer_17 : decode cX9_answer 17 = .ok (.ifCond .ne 5, 3) := by decide +kernel
theorem dX9_answer_20 : decode cX9_answer 20 = .ok (.iconst (-1), 1) := by decide +kernel
theorem dX9_answer_21 : decode cX9_answer 21 = .ok (.ireturn, 1) := by decide +kernel
theorem dX9_answer_22 : decode cX9_answer 22 = .ok (.aload_n 0, 1) := by decide +kernel
theorem dX9_answer_23 : decode cX9_answer 23 = .ok (.getfield 49, 3) := by decide +kernel
theorem dX9_answer_26 : decode cX9_answer 26 = .ok (.aload_n 0, 1) := by decide +kernel
theorem dX9_answer_27 : decode cX9_answer 27 = .ok (.getfield 40, 3) := by decide +kernel
theorem dX9_answer_30 : decode cX9_answer 30 = .ok (.invokevirtual 151, 3) := by decide +kernel
theorem dX9_answer_33 : decode cX9_answer 33 = .ok (.istore_n 1, 1) := by decide +kernel
theorem dX9_answer_34 : decode cX9_answer 34 = .ok (.iload_n 1, 1) := by decide +kernel
theorem dX9_answer_35 : decode cX9_answer 35 = .ok (.ifCond .ge 8, 3) := by decide +kernel
theorem dX9_answer_38 : decode cX9_answer 38 = .ok (.bipush (-2), 2) := by decide +kernel
theorem dX9_answer_40 : decode cX9_answer 40 = .ok (.goto 15, 3) := by decide +kernel
theorem dX9_answer_43 : decode cX9_answer 43 = .ok (.aload_n 0, 1) := by decide +kernel
theorem dX9_answer_44 : decode cX9_answer 44 = .ok (.getfield 49, 3) := by decide +kernel
theorem dX9_answer_47 : decode cX9_answer 47 = .ok (.aload_n 0, 1) := by decide +kernel
theorem dX9_answer_48 : decode cX9_answer 48 = .ok (.getfield 40, 3) := by decide +kernel
theorem dX9_answer_51 : decode cX9_answer 51 = .ok (.iload_n 1, 1) := by decide +kernel
theorem dX9_answer_52 : decode cX9_answer 52 = .ok (.invokevirtual 158, 3) := by decide +kernel
theorem dX9_answer_55 : decode cX9_answer 55 = .ok (.ireturn, 1) := by decide +kernel
theorem dX9_plan_0 : decode cX9_plan 0 = .ok (.aload_n 0, 1) := by decide +kernel
theorem dX9_plan_1 : decode cX9_plan 1 = .ok (.getfield 40, 3) := by decide +kernel
theorem dX9_plan_4 : decode cX9_plan 4 = .ok (.invokevirtual 147, 3) := by decide +kernel
theorem dX9_plan_7 : decode cX9_plan 7 = .ok (.ifCond .eq 13, 3) := by decide +kernel
theorem dX9_plan_10 : decode cX9_plan 10 = .ok (.aload_n 0, 1) := by decide +kernel
theorem dX9_plan_11 : decode cX9_plan 11 = .ok (.getfield 40, 3) := by decide +kernel
theorem dX9_plan_14 : decode cX9_plan 14 = .ok (.invokevirtual 162, 3) := by decide +kernel
theorem dX9_plan_17 : decode cX9_plan 17 = .ok (.ifCond .ne 5, 3) := by decide +kernel
theorem dX9_plan_20 : decode cX9_plan 20 = .ok (.iconst (-1), 1) := by decide +kernel
theorem dX9_plan_21 : decode cX9_plan 21 = .ok (.ireturn, 1) := by decide +kernel
theorem dX9_plan_22 : decode cX9_plan 22 = .ok (.aload_n 0, 1) := by decide +kernel
theorem dX9_plan_23 : decode cX9_plan 23 = .ok (.getfield 49, 3) := by decide +kernel
theorem dX9_plan_26 : decode cX9_plan 26 = .ok (.aload_n 0, 1) := by decide +kernel
theorem dX9_plan_27 : decode cX9_plan 27 = .ok (.getfield 40, 3) := by decide +kernel
theorem dX9_plan_30 : decode cX9_plan 30 = .ok (.invokevirtual 151, 3) := by decide +kernel
theorem dX9_plan_33 : decode cX9_plan 33 = .ok (.ifCond .ge 6, 3) := by decide +kernel
theorem dX9_plan_36 : decode cX9_plan 36 = .ok (.bipush (-2), 2) := by decide +kernel
theorem dX9_plan_38 : decode cX9_plan 38 = .ok (.ireturn, 1) := by decide +kernel
theorem dX9_plan_39 : decode cX9_plan 39 = .ok (.aload_n 0, 1) := by decide +kernel
theorem dX9_plan_40 : decode cX9_plan 40 = .ok (.getfield 56, 3) := by decide +kernel
theorem dX9_plan_43 : decode cX9_plan 43 = .ok (.aload_n 0, 1) := by decide +kernel
theorem dX9_plan_44 : decode cX9_plan 44 = .ok (.getfield 12, 3) := by decide +kernel
theorem dX9_plan_47 : decode cX9_plan 47 = .ok (.aload_n 0, 1) := by decide +kernel
theorem dX9_plan_48 : decode cX9_plan 48 = .ok (.getfield 40, 3) := by decide +kernel
theorem dX9_plan_51 : decode cX9_plan 51 = .ok (.invokevirtual 165, 3) := by decide +kernel
theorem dX9_plan_54 : decode cX9_plan 54 = .ok (.aload_n 0, 1) := by decide +kernel
theorem dX9_plan_55 : decode cX9_plan 55 = .ok (.getfield 49, 3) := by decide +kernel
theorem dX9_plan_58 : decode cX9_plan 58 = .ok (.invokevirtual 168, 3) := by decide +kernel
theorem dX9_plan_61 : decode cX9_plan 61 = .ok (.aload_n 0, 1) := by decide +kernel
theorem dX9_plan_62 : decode cX9_plan 62 = .ok (.getfield 49, 3) := by decide +kernel
theorem dX9_plan_65 : decode cX9_plan 65 = .ok (.invokevirtual 171, 3) := by decide +kernel
theorem dX9_plan_68 : decode cX9_plan 68 = .ok (.invokevirtual 174, 3) := by decide +kernel
theorem dX9_plan_71 : decode cX9_plan 71 = .ok (.iload_n 1, 1) := by decide +kernel
theorem dX9_plan_72 : decode cX9_plan 72 = .ok (.iconst (-1), 1) := by decide +kernel
theorem dX9_plan_73 : decode cX9_plan 73 = .ok (.if_icmp .ne 13, 3) := by decide +kernel
theorem dX9_plan_76 : decode cX9_plan 76 = .ok (.aload_n 0, 1) := by decide +kernel
theorem dX9_plan_77 : decode cX9_plan 77 = .ok (.getfield 56, 3) := by decide +kernel
theorem dX9_plan_80 : decode cX9_plan 80 = .ok (.invokevirtual 178, 3) := by decide +kernel
theorem dX9_plan_83 : decode cX9_plan 83 = .ok (.goto 11, 3) := by decide +kernel
theorem dX9_plan_86 : decode cX9_plan 86 = .ok (.aload_n 0, 1) := by decide +kernel
theorem dX9_plan_87 : decode cX9_plan 87 = .ok (.getfield 56, 3) := by decide +kernel
theorem dX9_plan_90 : decode cX9_plan 90 = .ok (.iload_n 1, 1) := by decide +kernel
theorem dX9_plan_91 : decode cX9_plan 91 = .ok (.invokevirtual 179, 3) := by decide +kernel
theorem dX9_plan_94 : decode cX9_plan 94 = .ok (.ireturn, 1) := by decide +kernel
theorem dX9_done_0 : decode cX9_done 0 = .ok (.aload_n 0, 1) := by decide +kernel
theorem dX9_done_1 : decode cX9_done 1 = .ok (.getfield 40, 3) := by decide +kernel
theorem dX9_done_4 : decode cX9_done 4 = .ok (.invokevirtual 147, 3) := by decide +kernel
theorem dX9_done_7 : decode cX9_done 7 = .ok (.ifCond .ne 5, 3) := by decide +kernel
theorem dX9_done_10 : decode cX9_done 10 = .ok (.iconst (-1), 1) := by decide +kernel
theorem dX9_done_11 : decode cX9_done 11 = .ok (.ireturn, 1) := by decide +kernel
theorem dX9_done_12 : decode cX9_done 12 = .ok (.aload_n 0, 1) := by decide +kernel
theorem dX9_done_13 : decode cX9_done 13 = .ok (.getfield 49, 3) := by decide +kernel
theorem dX9_done_16 : decode cX9_done 16 = .ok (.aload_n 0, 1) := by decide +kernel
theorem dX9_done_17 : decode cX9_done 17 = .ok (.getfield 40, 3) := by decide +kernel
theorem dX9_done_20 : decode cX9_done 20 = .ok (.invokevirtual 151, 3) := by decide +kernel
theorem dX9_done_23 : decode cX9_done 23 = .ok (.ifCond .ge 6, 3) := by decide +kernel
theorem dX9_done_26 : decode cX9_done 26 = .ok (.bipush (-2), 2) := by decide +kernel
theorem dX9_done_28 : decode cX9_done 28 = .ok (.ireturn, 1) := by decide +kernel
theorem dX9_done_29 : decode cX9_done 29 = .ok (.aload_n 0, 1) := by decide +kernel
theorem dX9_done_30 : decode cX9_done 30 = .ok (.getfield 56, 3) := by decide +kernel
theorem dX9_done_33 : decode cX9_done 33 = .ok (.invokevirtual 182, 3) := by decide +kernel
theorem dX9_done_36 : decode cX9_done 36 = .ok (.aload_n 0, 1) := by decide +kernel
theorem dX9_done_37 : decode cX9_done 37 = .ok (.getfield 40, 3) := by decide +kernel
theorem dX9_done_40 : decode cX9_done 40 = .ok (.invokevirtual 162, 3) := by decide +kernel
theorem dX9_done_43 : decode cX9_done 43 = .ok (.ifCond .eq 35, 3) := by decide +kernel
theorem dX9_done_46 : decode cX9_done 46 = .ok (.aload_n 0, 1) := by decide +kernel
theorem dX9_done_47 : decode cX9_done 47 = .ok (.getfield 56, 3) := by decide +kernel
theorem dX9_done_50 : decode cX9_done 50 = .ok (.aload_n 0, 1) := by decide +kernel
theorem dX9_done_51 : decode cX9_done 51 = .ok (.getfield 12, 3) := by decide +kernel
theorem dX9_done_54 : decode cX9_done 54 = .ok (.aload_n 0, 1) := by decide +kernel
theorem dX9_done_55 : decode cX9_done 55 = .ok (.getfield 40, 3) := by decide +kernel
theorem dX9_done_58 : decode cX9_done 58 = .ok (.invokevirtual 165, 3) := by decide +kernel
theorem dX9_done_61 : decode cX9_done 61 = .ok (.aload_n 0, 1) := by decide +kernel
theorem dX9_done_62 : decode cX9_done 62 = .ok (.getfield 49, 3) := by decide +kernel
theorem dX9_done_65 : decode cX9_done 65 = .ok (.invokevirtual 168, 3) := by decide +kernel
theorem dX9_done_68 : decode cX9_done 68 = .ok (.aload_n 0, 1) := by decide +kernel
theorem dX9_done_69 : decode cX9_done 69 = .ok (.getfield 49, 3) := by decide +kernel
theorem dX9_done_72 : decode cX9_done 72 = .ok (.invokevirtual 171, 3) := by decide +kernel
theorem dX9_done_75 : decode cX9_done 75 = .ok (.invokevirtual 174, 3) := by decide +kernel
theorem dX9_done_78 : decode cX9_done 78 = .ok (.aload_n 0, 1) := by decide +kernel
theorem dX9_done_79 : decode cX9_done 79 = .ok (.invokevirtual 185, 3) := by decide +kernel
theorem dX9_done_82 : decode cX9_done 82 = .ok (.ifCond .ne 6, 3) := by decide +kernel
theorem dX9_done_85 : decode cX9_done 85 = .ok (.bipush (-3), 2) := by decide +kernel
theorem dX9_done_87 : decode cX9_done 87 = .ok (.ireturn, 1) := by decide +kernel
theorem dX9_done_88 : decode cX9_done 88 = .ok (.aload_n 0, 1) := by decide +kernel
theorem dX9_done_89 : decode cX9_done 89 = .ok (.invokevirtual 188, 3) := by decide +kernel
theorem dX9_done_92 : decode cX9_done 92 = .ok (.ireturn, 1) := by decide +kernel
theorem dX9_mentioned_0 : decode cX9_mentioned 0 = .ok (.aload_n 0, 1) := by decide +kernel
theorem dX9_mentioned_1 : decode cX9_mentioned 1 = .ok (.getfield 33, 3) := by decide +kernel
theorem dX9_mentioned_4 : decode cX9_mentioned 4 = .ok (.iload_n 1, 1) := by decide +kernel
theorem dX9_mentioned_5 : decode cX9_mentioned 5 = .ok (.invokevirtual 191, 3) := by decide +kernel
theorem dX9_mentioned_8 : decode cX9_mentioned 8 = .ok (.ireturn, 1) := by decide +kernel
theorem dX9_owned_0 : decode cX9_owned 0 = .ok (.aload_n 0, 1) := by decide +kernel
theorem dX9_owned_1 : decode cX9_owned 1 = .ok (.getfield 12, 3) := by decide +kernel
theorem dX9_owned_4 : decode cX9_owned 4 = .ok (.iload_n 1, 1) := by decide +kernel
theorem dX9_owned_5 : decode cX9_owned 5 = .ok (.invokevirtual 194, 3) := by decide +kernel
theorem dX9_owned_8 : decode cX9_owned 8 = .ok (.ifCond .eq 14, 3) := by decide +kernel
theorem dX9_owned_11 : decode cX9_owned 11 = .ok (.aload_n 0, 1) := by decide +kernel
theorem dX9_owned_12 : decode cX9_owned 12 = .ok (.getfield 33, 3) := by decide +kernel
theorem dX9_owned_15 : decode cX9_owned 15 = .ok (.iload_n 1, 1) := by decide +kernel
theorem dX9_owned_16 : decode cX9_owned 16 = .ok (.invokevirtual 197, 3) := by decide +kernel
theorem dX9_owned_19 : decode cX9_owned 19 = .ok (.goto 4, 3) := by decide +kernel
theorem dX9_owned_22 : decode cX9_owned 22 = .ok (.iconst (-1), 1) := by decide +kernel
theorem dX9_owned_23 : decode cX9_owned 23 = .ok (.ireturn, 1) := by decide +kernel
theorem dX9_judge_0 : decode cX9_judge 0 = .ok (.aload_n 0, 1) := by decide +kernel
theorem dX9_judge_1 : decode cX9_judge 1 = .ok (.getfield 40, 3) := by decide +kernel
theorem dX9_judge_4 : decode cX9_judge 4 = .ok (.iload_n 1, 1) := by decide +kernel
theorem dX9_judge_5 : decode cX9_judge 5 = .ok (.invokevirtual 107, 3) := by decide +kernel
theorem dX9_judge_8 : decode cX9_judge 8 = .ok (.ifCond .eq 15, 3) := by decide +kernel
theorem dX9_judge_11 : decode cX9_judge 11 = .ok (.aload_n 0, 1) := by decide +kernel
theorem dX9_judge_12 : decode cX9_judge 12 = .ok (.getfield 33, 3) := by decide +kernel
theorem dX9_judge_15 : decode cX9_judge 15 = .ok (.invokevirtual 200, 3) := by decide +kernel
theorem dX9_judge_18 : decode cX9_judge 18 = .ok (.bipush 60, 2) := by decide +kernel
theorem dX9_judge_20 : decode cX9_judge 20 = .ok (.if_icmp .lt 5, 3) := by decide +kernel
theorem dX9_judge_23 : decode cX9_judge 23 = .ok (.iconst (-1), 1) := by decide +kernel
theorem dX9_judge_24 : decode cX9_judge 24 = .ok (.ireturn, 1) := by decide +kernel
theorem dX9_judge_25 : decode cX9_judge 25 = .ok (.aload_n 0, 1) := by decide +kernel
theorem dX9_judge_26 : decode cX9_judge 26 = .ok (.getfield 49, 3) := by decide +kernel
theorem dX9_judge_29 : decode cX9_judge 29 = .ok (.aload_n 0, 1) := by decide +kernel
theorem dX9_judge_30 : decode cX9_judge 30 = .ok (.getfield 40, 3) := by decide +kernel
theorem dX9_judge_33 : decode cX9_judge 33 = .ok (.invokevirtual 151, 3) := by decide +kernel
theorem dX9_judge_36 : decode cX9_judge 36 = .ok (.iload_n 1, 1) := by decide +kernel
theorem dX9_judge_37 : decode cX9_judge 37 = .ok (.if_icmp .ne 7, 3) := by decide +kernel
theorem dX9_judge_40 : decode cX9_judge 40 = .ok (.iconst 1, 1) := by decide +kernel
theorem dX9_judge_41 : decode cX9_judge 41 = .ok (.goto 4, 3) := by decide +kernel
theorem dX9_judge_44 : decode cX9_judge 44 = .ok (.iconst 0, 1) := by decide +kernel
theorem dX9_judge_45 : decode cX9_judge 45 = .ok (.istore_n 2, 1) := by decide +kernel
theorem dX9_judge_46 : decode cX9_judge 46 = .ok (.aload_n 0, 1) := by decide +kernel
theorem dX9_judge_47 : decode cX9_judge 47 = .ok (.getfield 33, 3) := by decide +kernel
theorem dX9_judge_50 : decode cX9_judge 50 = .ok (.iload_n 2, 1) := by decide +kernel
theorem dX9_judge_51 : decode cX9_judge 51 = .ok (.invokevirtual 203, 3) := by decide +kernel
theorem dX9_judge_54 : decode cX9_judge 54 = .ok (.iload_n 2, 1) := by decide +kernel
theorem dX9_judge_55 : decode cX9_judge 55 = .ok (.ifCond .eq 7, 3) := by decide +kernel
theorem dX9_judge_58 : decode cX9_judge 58 = .ok (.iconst 1, 1) := by decide +kernel
theorem dX9_judge_59 : decode cX9_judge 59 = .ok (.goto 4, 3) := by decide +kernel
theorem dX9_judge_62 : decode cX9_judge 62 = .ok (.iconst 0, 1) := by decide +kernel
theorem dX9_judge_63 : decode cX9_judge 63 = .ok (.ireturn, 1) := by decide +kernel
theorem dX9_breaks_0 : decode cX9_breaks 0 = .ok (.iload_n 1, 1) := by decide +kernel
theorem dX9_breaks_1 : decode cX9_breaks 1 = .ok (.lookupswitch 43 #[(0, 27), (1, 35)], 27) := by decide +kernel
theorem dX9_breaks_28 : decode cX9_breaks 28 = .ok (.aload_n 0, 1) := by decide +kernel
theorem dX9_breaks_29 : decode cX9_breaks 29 = .ok (.getfield 33, 3) := by decide +kernel
theorem dX9_breaks_32 : decode cX9_breaks 32 = .ok (.invokevirtual 207, 3) := by decide +kernel
theorem dX9_breaks_35 : decode cX9_breaks 35 = .ok (.ireturn, 1) := by decide +kernel
theorem dX9_breaks_36 : decode cX9_breaks 36 = .ok (.aload_n 0, 1) := by decide +kernel
theorem dX9_breaks_37 : decode cX9_breaks 37 = .ok (.getfield 33, 3) := by decide +kernel
theorem dX9_breaks_40 : decode cX9_breaks 40 = .ok (.invokevirtual 210, 3) := by decide +kernel
theorem dX9_breaks_43 : decode cX9_breaks 43 = .ok (.ireturn, 1) := by decide +kernel
theorem dX9_breaks_44 : decode cX9_breaks 44 = .ok (.iconst (-1), 1) := by decide +kernel
theorem dX9_breaks_45 : decode cX9_breaks 45 = .ok (.ireturn, 1) := by decide +kernel
theorem dX9_acts_0 : decode cX9_acts 0 = .ok (.iload_n 1, 1) := by decide +kernel
theorem dX9_acts_1 : decode cX9_acts 1 = .ok (.ifCond .lt 14, 3) := by decide +kernel
theorem dX9_acts_4 : decode cX9_acts 4 = .ok (.iload_n 1, 1) := by decide +kernel
theorem dX9_acts_5 : decode cX9_acts 5 = .ok (.aload_n 0, 1) := by decide +kernel
theorem dX9_acts_6 : decode cX9_acts 6 = .ok (.getfield 33, 3) := by decide +kernel
theorem dX9_acts_9 : decode cX9_acts 9 = .ok (.invokevirtual 213, 3) := by decide +kernel
theorem dX9_acts_12 : decode cX9_acts 12 = .ok (.if_icmp .lt 7, 3) := by decide +kernel
theorem dX9_acts_15 : decode cX9_acts 15 = .ok (.iconst (-1), 1) := by decide +kernel
theorem dX9_acts_16 : decode cX9_acts 16 = .ok (.goto 11, 3) := by decide +kernel
theorem dX9_acts_19 : decode cX9_acts 19 = .ok (.aload_n 0, 1) := by decide +kernel
theorem dX9_acts_20 : decode cX9_acts 20 = .ok (.getfield 12, 3) := by decide +kernel
theorem dX9_acts_23 : decode cX9_acts 23 = .ok (.iload_n 1, 1) := by decide +kernel
theorem dX9_acts_24 : decode cX9_acts 24 = .ok (.invokevirtual 216, 3) := by decide +kernel
theorem dX9_acts_27 : decode cX9_acts 27 = .ok (.ireturn, 1) := by decide +kernel
theorem dX9_noun_0 : decode cX9_noun 0 = .ok (.iload_n 1, 1) := by decide +kernel
theorem dX9_noun_1 : decode cX9_noun 1 = .ok (.ifCond .lt 14, 3) := by decide +kernel
theorem dX9_noun_4 : decode cX9_noun 4 = .ok (.iload_n 1, 1) := by decide +kernel
theorem dX9_noun_5 : decode cX9_noun 5 = .ok (.aload_n 0, 1) := by decide +kernel
theorem dX9_noun_6 : decode cX9_noun 6 = .ok (.getfield 26, 3) := by decide +kernel
theorem dX9_noun_9 : decode cX9_noun 9 = .ok (.invokevirtual 219, 3) := by decide +kernel
theorem dX9_noun_12 : decode cX9_noun 12 = .ok (.if_icmp .lt 7, 3) := by decide +kernel
theorem dX9_noun_15 : decode cX9_noun 15 = .ok (.iconst (-1), 1) := by decide +kernel
theorem dX9_noun_16 : decode cX9_noun 16 = .ok (.goto 11, 3) := by decide +kernel
theorem dX9_noun_19 : decode cX9_noun 19 = .ok (.aload_n 0, 1) := by decide +kernel
theorem dX9_noun_20 : decode cX9_noun 20 = .ok (.getfield 49, 3) := by decide +kernel
theorem dX9_noun_23 : decode cX9_noun 23 = .ok (.iload_n 1, 1) := by decide +kernel
theorem dX9_noun_24 : decode cX9_noun 24 = .ok (.invokevirtual 222, 3) := by decide +kernel
theorem dX9_noun_27 : decode cX9_noun 27 = .ok (.ireturn, 1) := by decide +kernel
theorem dX9_check_0 : decode cX9_check 0 = .ok (.iload_n 1, 1) := by decide +kernel
theorem dX9_check_1 : decode cX9_check 1 = .ok (.ifCond .lt 23, 3) := by decide +kernel
theorem dX9_check_4 : decode cX9_check 4 = .ok (.iload_n 1, 1) := by decide +kernel
theorem dX9_check_5 : decode cX9_check 5 = .ok (.bipush 25, 2) := by decide +kernel
theorem dX9_check_7 : decode cX9_check 7 = .ok (.if_icmp .gt 17, 3) := by decide +kernel
theorem dX9_check_10 : decode cX9_check 10 = .ok (.iload_n 1, 1) := by decide +kernel
theorem dX9_check_11 : decode cX9_check 11 = .ok (.bipush 8, 2) := by decide +kernel
theorem dX9_check_13 : decode cX9_check 13 = .ok (.imul, 1) := by decide +kernel
theorem dX9_check_14 : decode cX9_check 14 = .ok (.aload_n 0, 1) := by decide +kernel
theorem dX9_check_15 : decode cX9_check 15 = .ok (.getfield 19, 3) := by decide +kernel
theorem dX9_check_18 : decode cX9_check 18 = .ok (.invokevirtual 97, 3) := by decide +kernel
theorem dX9_check_21 : decode cX9_check 21 = .ok (.if_icmp .le 6, 3) := by decide +kernel
theorem dX9_check_24 : decode cX9_check 24 = .ok (.bipush (-2), 2) := by decide +kernel
theorem dX9_check_26 : decode cX9_check 26 = .ok (.ireturn, 1) := by decide +kernel
theorem dX9_check_27 : decode cX9_check 27 = .ok (.aload_n 0, 1) := by decide +kernel
theorem dX9_check_28 : decode cX9_check 28 = .ok (.iload_n 1, 1) := by decide +kernel
theorem dX9_check_29 : decode cX9_check 29 = .ok (.invokevirtual 225, 3) := by decide +kernel
theorem dX9_check_32 : decode cX9_check 32 = .ok (.istore_n 2, 1) := by decide +kernel
theorem dX9_check_33 : decode cX9_check 33 = .ok (.aload_n 0, 1) := by decide +kernel
theorem dX9_check_34 : decode cX9_check 34 = .ok (.getfield 19, 3) := by decide +kernel
theorem dX9_check_37 : decode cX9_check 37 = .ok (.invokevirtual 104, 3) := by decide +kernel
theorem dX9_check_40 : decode cX9_check 40 = .ok (.iload_n 2, 1) := by decide +kernel
theorem dX9_check_41 : decode cX9_check 41 = .ok (.ireturn, 1) := by decide +kernel
theorem dX9_count_0 : decode cX9_count 0 = .ok (.iload_n 1, 1) := by decide +kernel
theorem dX9_count_1 : decode cX9_count 1 = .ok (.tableswitch 119 0 7 #[47, 55, 63, 71, 79, 87, 95, 103], 47) := by decide +kernel
theorem dX9_count_48 : decode cX9_count 48 = .ok (.aload_n 0, 1) := by decide +kernel
theorem dX9_count_49 : decode cX9_count 49 = .ok (.getfield 12, 3) := by decide +kernel
theorem dX9_count_52 : decode cX9_count 52 = .ok (.invokevirtual 228, 3) := by decide +kernel
theorem dX9_count_55 : decode cX9_count 55 = .ok (.ireturn, 1) := by decide +kernel
theorem dX9_count_56 : decode cX9_count 56 = .ok (.aload_n 0, 1) := by decide +kernel
theorem dX9_count_57 : decode cX9_count 57 = .ok (.getfield 12, 3) := by decide +kernel
theorem dX9_count_60 : decode cX9_count 60 = .ok (.invokevirtual 231, 3) := by decide +kernel
theorem dX9_count_63 : decode cX9_count 63 = .ok (.ireturn, 1) := by decide +kernel
theorem dX9_count_64 : decode cX9_count 64 = .ok (.aload_n 0, 1) := by decide +kernel
theorem dX9_count_65 : decode cX9_count 65 = .ok (.getfield 33, 3) := by decide +kernel
theorem dX9_count_68 : decode cX9_count 68 = .ok (.invokevirtual 213, 3) := by decide +kernel
theorem dX9_count_71 : decode cX9_count 71 = .ok (.ireturn, 1) := by decide +kernel
theorem dX9_count_72 : decode cX9_count 72 = .ok (.aload_n 0, 1) := by decide +kernel
theorem dX9_count_73 : decode cX9_count 73 = .ok (.getfield 26, 3) := by decide +kernel
theorem dX9_count_76 : decode cX9_count 76 = .ok (.invokevirtual 219, 3) := by decide +kernel
theorem dX9_count_79 : decode cX9_count 79 = .ok (.ireturn, 1) := by decide +kernel
theorem dX9_count_80 : decode cX9_count 80 = .ok (.aload_n 0, 1) := by decide +kernel
theorem dX9_count_81 : decode cX9_count 81 = .ok (.getfield 33, 3) := by decide +kernel
theorem dX9_count_84 : decode cX9_count 84 = .ok (.invokevirtual 234, 3) := by decide +kernel
theorem dX9_count_87 : decode cX9_count 87 = .ok (.ireturn, 1) := by decide +kernel
theorem dX9_count_88 : decode cX9_count 88 = .ok (.aload_n 0, 1) := by decide +kernel
theorem dX9_count_89 : decode cX9_count 89 = .ok (.getfield 33, 3) := by decide +kernel
theorem dX9_count_92 : decode cX9_count 92 = .ok (.invokevirtual 200, 3) := by decide +kernel
theorem dX9_count_95 : decode cX9_count 95 = .ok (.ireturn, 1) := by decide +kernel
theorem dX9_count_96 : decode cX9_count 96 = .ok (.aload_n 0, 1) := by decide +kernel
theorem dX9_count_97 : decode cX9_count 97 = .ok (.getfield 19, 3) := by decide +kernel
theorem dX9_count_100 : decode cX9_count 100 = .ok (.invokevirtual 97, 3) := by decide +kernel
theorem dX9_count_103 : decode cX9_count 103 = .ok (.ireturn, 1) := by decide +kernel
theorem dX9_count_104 : decode cX9_count 104 = .ok (.aload_n 0, 1) := by decide +kernel
theorem dX9_count_105 : decode cX9_count 105 = .ok (.getfield 40, 3) := by decide +kernel
theorem dX9_count_108 : decode cX9_count 108 = .ok (.invokevirtual 147, 3) := by decide +kernel
theorem dX9_count_111 : decode cX9_count 111 = .ok (.ifCond .eq 7, 3) := by decide +kernel
theorem dX9_count_114 : decode cX9_count 114 = .ok (.iconst 1, 1) := by decide +kernel
theorem dX9_count_115 : decode cX9_count 115 = .ok (.goto 4, 3) := by decide +kernel
theorem dX9_count_118 : decode cX9_count 118 = .ok (.iconst 0, 1) := by decide +kernel
theorem dX9_count_119 : decode cX9_count 119 = .ok (.ireturn, 1) := by decide +kernel
theorem dX9_count_120 : decode cX9_count 120 = .ok (.aload_n 0, 1) := by decide +kernel
theorem dX9_count_121 : decode cX9_count 121 = .ok (.getfield 40, 3) := by decide +kernel
theorem dX9_count_124 : decode cX9_count 124 = .ok (.invokevirtual 147, 3) := by decide +kernel
theorem dX9_count_127 : decode cX9_count 127 = .ok (.ifCond .eq 14, 3) := by decide +kernel
theorem dX9_count_130 : decode cX9_count 130 = .ok (.aload_n 0, 1) := by decide +kernel
theorem dX9_count_131 : decode cX9_count 131 = .ok (.getfield 40, 3) := by decide +kernel
theorem dX9_count_134 : decode cX9_count 134 = .ok (.iload_n 1, 1) := by decide +kernel
theorem dX9_count_135 : decode cX9_count 135 = .ok (.invokevirtual 237, 3) := by decide +kernel
theorem dX9_count_138 : decode cX9_count 138 = .ok (.goto 4, 3) := by decide +kernel
theorem dX9_count_141 : decode cX9_count 141 = .ok (.iconst (-1), 1) := by decide +kernel
theorem dX9_count_142 : decode cX9_count 142 = .ok (.ireturn, 1) := by decide +kernel
theorem dX9_hasRoomToDo_0 : decode cX9_hasRoomToDo 0 = .ok (.aload_n 0, 1) := by decide +kernel
theorem dX9_hasRoomToDo_1 : decode cX9_hasRoomToDo 1 = .ok (.getfield 33, 3) := by decide +kernel
theorem dX9_hasRoomToDo_4 : decode cX9_hasRoomToDo 4 = .ok (.invokevirtual 213, 3) := by decide +kernel
theorem dX9_hasRoomToDo_7 : decode cX9_hasRoomToDo 7 = .ok (.bipush 60, 2) := by decide +kernel
theorem dX9_hasRoomToDo_9 : decode cX9_hasRoomToDo 9 = .ok (.if_icmp .ge 24, 3) := by decide +kernel
theorem dX9_hasRoomToDo_12 : decode cX9_hasRoomToDo 12 = .ok (.aload_n 0, 1) := by decide +kernel
theorem dX9_hasRoomToDo_13 : decode cX9_hasRoomToDo 13 = .ok (.getfield 12, 3) := by decide +kernel
theorem dX9_hasRoomToDo_16 : decode cX9_hasRoomToDo 16 = .ok (.invokevirtual 231, 3) := by decide +kernel
theorem dX9_hasRoomToDo_19 : decode cX9_hasRoomToDo 19 = .ok (.aload_n 0, 1) := by decide +kernel
theorem dX9_hasRoomToDo_20 : decode cX9_hasRoomToDo 20 = .ok (.getfield 56, 3) := by decide +kernel
theorem dX9_hasRoomToDo_23 : decode cX9_hasRoomToDo 23 = .ok (.invokevirtual 178, 3) := by decide +kernel
theorem dX9_hasRoomToDo_26 : decode cX9_hasRoomToDo 26 = .ok (.iadd, 1) := by decide +kernel
theorem dX9_hasRoomToDo_27 : decode cX9_hasRoomToDo 27 = .ok (.sipush 200, 3) := by decide +kernel
theorem dX9_hasRoomToDo_30 : decode cX9_hasRoomToDo 30 = .ok (.if_icmp .le 5, 3) := by decide +kernel
theorem dX9_hasRoomToDo_33 : decode cX9_hasRoomToDo 33 = .ok (.iconst 0, 1) := by decide +kernel
theorem dX9_hasRoomToDo_34 : decode cX9_hasRoomToDo 34 = .ok (.ireturn, 1) := by decide +kernel
theorem dX9_hasRoomToDo_35 : decode cX9_hasRoomToDo 35 = .ok (.aload_n 0, 1) := by decide +kernel
theorem dX9_hasRoomToDo_36 : decode cX9_hasRoomToDo 36 = .ok (.getfield 40, 3) := by decide +kernel
theorem dX9_hasRoomToDo_39 : decode cX9_hasRoomToDo 39 = .ok (.invokevirtual 165, 3) := by decide +kernel
theorem dX9_hasRoomToDo_42 : decode cX9_hasRoomToDo 42 = .ok (.bipush 17, 2) := by decide +kernel
theorem dX9_hasRoomToDo_44 : decode cX9_hasRoomToDo 44 = .ok (.if_icmp .ne 21, 3) := by decide +kernel
theorem dX9_hasRoomToDo_47 : decode cX9_hasRoomToDo 47 = .ok (.aload_n 0, 1) := by decide +kernel
theorem dX9_hasRoomToDo_48 : decode cX9_hasRoomToDo 48 = .ok (.getfield 26, 3) := by decide +kernel
theorem dX9_hasRoomToDo_51 : decode cX9_hasRoomToDo 51 = .ok (.invokevirtual 219, 3) := by decide +kernel
theorem dX9_hasRoomToDo_54 : decode cX9_hasRoomToDo 54 = .ok (.bipush 8, 2) := by decide +kernel
theorem dX9_hasRoomToDo_56 : decode cX9_hasRoomToDo 56 = .ok (.if_icmp .ge 7, 3) := by decide +kernel
theorem dX9_hasRoomToDo_59 : decode cX9_hasRoomToDo 59 = .ok (.iconst 1, 1) := by decide +kernel
theorem dX9_hasRoomToDo_60 : decode cX9_hasRoomToDo 60 = .ok (.goto 4, 3) := by decide +kernel
theorem dX9_hasRoomToDo_63 : decode cX9_hasRoomToDo 63 = .ok (.iconst 0, 1) := by decide +kernel
theorem dX9_hasRoomToDo_64 : decode cX9_hasRoomToDo 64 = .ok (.ireturn, 1) := by decide +kernel
theorem dX9_hasRoomToDo_65 : decode cX9_hasRoomToDo 65 = .ok (.aload_n 0, 1) := by decide +kernel
theorem dX9_hasRoomToDo_66 : decode cX9_hasRoomToDo 66 = .ok (.getfield 40, 3) := by decide +kernel
theorem dX9_hasRoomToDo_69 : decode cX9_hasRoomToDo 69 = .ok (.invokevirtual 165, 3) := by decide +kernel
theorem dX9_hasRoomToDo_72 : decode cX9_hasRoomToDo 72 = .ok (.bipush 19, 2) := by decide +kernel
theorem dX9_hasRoomToDo_74 : decode cX9_hasRoomToDo 74 = .ok (.if_icmp .ne 15, 3) := by decide +kernel
theorem dX9_hasRoomToDo_77 : decode cX9_hasRoomToDo 77 = .ok (.aload_n 0, 1) := by decide +kernel
theorem dX9_hasRoomToDo_78 : decode cX9_hasRoomToDo 78 = .ok (.getfield 33, 3) := by decide +kernel
theorem dX9_hasRoomToDo_81 : decode cX9_hasRoomToDo 81 = .ok (.invokevirtual 234, 3) := by decide +kernel
theorem dX9_hasRoomToDo_84 : decode cX9_hasRoomToDo 84 = .ok (.bipush 20, 2) := by decide +kernel
theorem dX9_hasRoomToDo_86 : decode cX9_hasRoomToDo 86 = .ok (.if_icmp .ge 7, 3) := by decide +kernel
theorem dX9_hasRoomToDo_89 : decode cX9_hasRoomToDo 89 = .ok (.iconst 1, 1) := by decide +kernel
theorem dX9_hasRoomToDo_90 : decode cX9_hasRoomToDo 90 = .ok (.goto 4, 3) := by decide +kernel
theorem dX9_hasRoomToDo_93 : decode cX9_hasRoomToDo 93 = .ok (.iconst 0, 1) := by decide +kernel
theorem dX9_hasRoomToDo_94 : decode cX9_hasRoomToDo 94 = .ok (.ireturn, 1) := by decide +kernel
theorem dX9_carryOut_0 : decode cX9_carryOut 0 = .ok (.aload_n 0, 1) := by decide +kernel
theorem dX9_carryOut_1 : decode cX9_carryOut 1 = .ok (.getfield 33, 3) := by decide +kernel
theorem dX9_carryOut_4 : decode cX9_carryOut 4 = .ok (.invokevirtual 213, 3) := by decide +kernel
theorem dX9_carryOut_7 : decode cX9_carryOut 7 = .ok (.istore_n 1, 1) := by decide +kernel
theorem dX9_carryOut_8 : decode cX9_carryOut 8 = .ok (.iconst 0, 1) := by decide +kernel
theorem dX9_carryOut_9 : decode cX9_carryOut 9 = .ok (.istore_n 2, 1) := by decide +kernel
theorem dX9_carryOut_10 : decode cX9_carryOut 10 = .ok (.iload_n 2, 1) := by decide +kernel
theorem dX9_carryOut_11 : decode cX9_carryOut 11 = .ok (.aload_n 0, 1) := by decide +kernel
theorem dX9_carryOut_12 : decode cX9_carryOut 12 = .ok (.getfield 56, 3) := by decide +kernel
theorem dX9_carryOut_15 : decode cX9_carryOut 15 = .ok (.invokevirtual 178, 3) := by decide +kernel
theorem dX9_carryOut_18 : decode cX9_carryOut 18 = .ok (.if_icmp .ge 52, 3) := by decide +kernel
theorem dX9_carryOut_21 : decode cX9_carryOut 21 = .ok (.aload_n 0, 1) := by decide +kernel
theorem dX9_carryOut_22 : decode cX9_carryOut 22 = .ok (.getfield 12, 3) := by decide +kernel
theorem dX9_carryOut_25 : decode cX9_carryOut 25 = .ok (.aload_n 0, 1) := by decide +kernel
theorem dX9_carryOut_26 : decode cX9_carryOut 26 = .ok (.getfield 56, 3) := by decide +kernel
theorem dX9_carryOut_29 : decode cX9_carryOut 29 = .ok (.iconst 3, 1) := by decide +kernel
theorem dX9_carryOut_30 : decode cX9_carryOut 30 = .ok (.iload_n 2, 1) := by decide +kernel
theorem dX9_carryOut_31 : decode cX9_carryOut 31 = .ok (.imul, 1) := by decide +kernel
theorem dX9_carryOut_32 : decode cX9_carryOut 32 = .ok (.invokevirtual 179, 3) := by decide +kernel
theorem dX9_carryOut_35 : decode cX9_carryOut 35 = .ok (.aload_n 0, 1) := by decide +kernel
theorem dX9_carryOut_36 : decode cX9_carryOut 36 = .ok (.getfield 56, 3) := by decide +kernel
theorem dX9_carryOut_39 : decode cX9_carryOut 39 = .ok (.iconst 3, 1) := by decide +kernel
theorem dX9_carryOut_40 : decode cX9_carryOut 40 = .ok (.iload_n 2, 1) := by decide +kernel
theorem dX9_carryOut_41 : decode cX9_carryOut 41 = .ok (.imul, 1) := by decide +kernel
theorem dX9_carryOut_42 : decode cX9_carryOut 42 = .ok (.iconst 1, 1) := by decide +kernel
theorem dX9_carryOut_43 : decode cX9_carryOut 43 = .ok (.iadd, 1) := by decide +kernel
theorem dX9_carryOut_44 : decode cX9_carryOut 44 = .ok (.invokevirtual 179, 3) := by decide +kernel
theorem dX9_carryOut_47 : decode cX9_carryOut 47 = .ok (.aload_n 0, 1) := by decide +kernel
theorem dX9_carryOut_48 : decode cX9_carryOut 48 = .ok (.getfield 56, 3) := by decide +kernel
theorem dX9_carryOut_51 : decode cX9_carryOut 51 = .ok (.iconst 3, 1) := by decide +kernel
theorem dX9_carryOut_52 : decode cX9_carryOut 52 = .ok (.iload_n 2, 1) := by decide +kernel
theorem dX9_carryOut_53 : decode cX9_carryOut 53 = .ok (.imul, 1) := by decide +kernel
theorem dX9_carryOut_54 : decode cX9_carryOut 54 = .ok (.iconst 2, 1) := by decide +kernel
theorem dX9_carryOut_55 : decode cX9_carryOut 55 = .ok (.iadd, 1) := by decide +kernel
theorem dX9_carryOut_56 : decode cX9_carryOut 56 = .ok (.invokevirtual 179, 3) := by decide +kernel
theorem dX9_carryOut_59 : decode cX9_carryOut 59 = .ok (.iload_n 1, 1) := by decide +kernel
theorem dX9_carryOut_60 : decode cX9_carryOut 60 = .ok (.invokevirtual 64, 3) := by decide +kernel
theorem dX9_carryOut_63 : decode cX9_carryOut 63 = .ok (.pop, 1) := by decide +kernel
theorem dX9_carryOut_64 : decode cX9_carryOut 64 = .ok (.iinc 2 1, 3) := by decide +kernel
theorem dX9_carryOut_67 : decode cX9_carryOut 67 = .ok (.goto (-57), 3) := by decide +kernel
theorem dX9_carryOut_70 : decode cX9_carryOut 70 = .ok (.aload_n 0, 1) := by decide +kernel
theorem dX9_carryOut_71 : decode cX9_carryOut 71 = .ok (.getfield 40, 3) := by decide +kernel
theorem dX9_carryOut_74 : decode cX9_carryOut 74 = .ok (.invokevirtual 165, 3) := by decide +kernel
theorem dX9_carryOut_77 : decode cX9_carryOut 77 = .ok (.bipush 17, 2) := by decide +kernel
theorem dX9_carryOut_79 : decode cX9_carryOut 79 = .ok (.if_icmp .ne 21, 3) := by decide +kernel
theorem dX9_carryOut_82 : decode cX9_carryOut 82 = .ok (.aload_n 0, 1) := by decide +kernel
theorem dX9_carryOut_83 : decode cX9_carryOut 83 = .ok (.getfield 26, 3) := by decide +kernel
theorem dX9_carryOut_86 : decode cX9_carryOut 86 = .ok (.aload_n 0, 1) := by decide +kernel
theorem dX9_carryOut_87 : decode cX9_carryOut 87 = .ok (.getfield 40, 3) := by decide +kernel
theorem dX9_carryOut_90 : decode cX9_carryOut 90 = .ok (.aload_n 0, 1) := by decide +kernel
theorem dX9_carryOut_91 : decode cX9_carryOut 91 = .ok (.getfield 33, 3) := by decide +kernel
theorem dX9_carryOut_94 : decode cX9_carryOut 94 = .ok (.invokevirtual 240, 3) := by decide +kernel
theorem dX9_carryOut_97 : decode cX9_carryOut 97 = .ok (.invokevirtual 243, 3) := by decide +kernel
theorem dX9_carryOut_100 : decode cX9_carryOut 100 = .ok (.aload_n 0, 1) := by decide +kernel
theorem dX9_carryOut_101 : decode cX9_carryOut 101 = .ok (.getfield 40, 3) := by decide +kernel
theorem dX9_carryOut_104 : decode cX9_carryOut 104 = .ok (.invokevirtual 165, 3) := by decide +kernel
theorem dX9_carryOut_107 : decode cX9_carryOut 107 = .ok (.bipush 19, 2) := by decide +kernel
theorem dX9_carryOut_109 : decode cX9_carryOut 109 = .ok (.if_icmp .ne 25, 3) := by decide +kernel
theorem dX9_carryOut_112 : decode cX9_carryOut 112 = .ok (.aload_n 0, 1) := by decide +kernel
theorem dX9_carryOut_113 : decode cX9_carryOut 113 = .ok (.getfield 33, 3) := by decide +kernel
theorem dX9_carryOut_116 : decode cX9_carryOut 116 = .ok (.aload_n 0, 1) := by decide +kernel
theorem dX9_carryOut_117 : decode cX9_carryOut 117 = .ok (.getfield 49, 3) := by decide +kernel
theorem dX9_carryOut_120 : decode cX9_carryOut 120 = .ok (.iconst 0, 1) := by decide +kernel
theorem dX9_carryOut_121 : decode cX9_carryOut 121 = .ok (.invokevirtual 138, 3) := by decide +kernel
theorem dX9_carryOut_124 : decode cX9_carryOut 124 = .ok (.aload_n 0, 1) := by decide +kernel
theorem dX9_carryOut_125 : decode cX9_carryOut 125 = .ok (.getfield 40, 3) := by decide +kernel
theorem dX9_carryOut_128 : decode cX9_carryOut 128 = .ok (.invokevirtual 246, 3) := by decide +kernel
theorem dX9_carryOut_131 : decode cX9_carryOut 131 = .ok (.invokevirtual 249, 3) := by decide +kernel
theorem dX9_carryOut_134 : decode cX9_carryOut 134 = .ok (.iconst 0, 1) := by decide +kernel
theorem dX9_carryOut_135 : decode cX9_carryOut 135 = .ok (.istore_n 2, 1) := by decide +kernel
theorem dX9_carryOut_136 : decode cX9_carryOut 136 = .ok (.iload_n 2, 1) := by decide +kernel
theorem dX9_carryOut_137 : decode cX9_carryOut 137 = .ok (.aload_n 0, 1) := by decide +kernel
theorem dX9_carryOut_138 : decode cX9_carryOut 138 = .ok (.getfield 40, 3) := by decide +kernel
theorem dX9_carryOut_141 : decode cX9_carryOut 141 = .ok (.getfield 110, 3) := by decide +kernel
theorem dX9_carryOut_144 : decode cX9_carryOut 144 = .ok (.invokevirtual 131, 3) := by decide +kernel
theorem dX9_carryOut_147 : decode cX9_carryOut 147 = .ok (.if_icmp .ge 24, 3) := by decide +kernel
theorem dX9_carryOut_150 : decode cX9_carryOut 150 = .ok (.aload_n 0, 1) := by decide +kernel
theorem dX9_carryOut_151 : decode cX9_carryOut 151 = .ok (.getfield 33, 3) := by decide +kernel
theorem dX9_carryOut_154 : decode cX9_carryOut 154 = .ok (.aload_n 0, 1) := by decide +kernel
theorem dX9_carryOut_155 : decode cX9_carryOut 155 = .ok (.getfield 49, 3) := by decide +kernel
theorem dX9_carryOut_158 : decode cX9_carryOut 158 = .ok (.iload_n 2, 1) := by decide +kernel
theorem dX9_carryOut_159 : decode cX9_carryOut 159 = .ok (.invokevirtual 138, 3) := by decide +kernel
theorem dX9_carryOut_162 : decode cX9_carryOut 162 = .ok (.invokevirtual 253, 3) := by decide +kernel
theorem dX9_carryOut_165 : decode cX9_carryOut 165 = .ok (.iinc 2 1, 3) := by decide +kernel
theorem dX9_carryOut_168 : decode cX9_carryOut 168 = .ok (.goto (-32), 3) := by decide +kernel
theorem dX9_carryOut_171 : decode cX9_carryOut 171 = .ok (.aload_n 0, 1) := by decide +kernel
theorem dX9_carryOut_172 : decode cX9_carryOut 172 = .ok (.getfield 33, 3) := by decide +kernel
theorem dX9_carryOut_175 : decode cX9_carryOut 175 = .ok (.aload_n 0, 1) := by decide +kernel
theorem dX9_carryOut_176 : decode cX9_carryOut 176 = .ok (.getfield 40, 3) := by decide +kernel
theorem dX9_carryOut_179 : decode cX9_carryOut 179 = .ok (.getfield 110, 3) := by decide +kernel
theorem dX9_carryOut_182 : decode cX9_carryOut 182 = .ok (.invokevirtual 256, 3) := by decide +kernel
theorem dX9_carryOut_185 : decode cX9_carryOut 185 = .ok (.invokevirtual 257, 3) := by decide +kernel
theorem dX9_carryOut_188 : decode cX9_carryOut 188 = .ok (.aload_n 0, 1) := by decide +kernel
theorem dX9_carryOut_189 : decode cX9_carryOut 189 = .ok (.getfield 40, 3) := by decide +kernel
theorem dX9_carryOut_192 : decode cX9_carryOut 192 = .ok (.invokevirtual 260, 3) := by decide +kernel
theorem dX9_carryOut_195 : decode cX9_carryOut 195 = .ok (.iload_n 1, 1) := by decide +kernel
theorem dX9_carryOut_196 : decode cX9_carryOut 196 = .ok (.ireturn, 1) := by decide +kernel
theorem dX9_firstWrong_0 : decode cX9_firstWrong 0 = .ok (.iconst 0, 1) := by decide +kernel
theorem dX9_firstWrong_1 : decode cX9_firstWrong 1 = .ok (.istore_n 2, 1) := by decide +kernel
theorem dX9_firstWrong_2 : decode cX9_firstWrong 2 = .ok (.iload_n 2, 1) := by decide +kernel
theorem dX9_firstWrong_3 : decode cX9_firstWrong 3 = .ok (.iload_n 1, 1) := by decide +kernel
theorem dX9_firstWrong_4 : decode cX9_firstWrong 4 = .ok (.if_icmp .ge 67, 3) := by decide +kernel
theorem dX9_firstWrong_7 : decode cX9_firstWrong 7 = .ok (.aload_n 0, 1) := by decide +kernel
theorem dX9_firstWrong_8 : decode cX9_firstWrong 8 = .ok (.getfield 12, 3) := by decide +kernel
theorem dX9_firstWrong_11 : decode cX9_firstWrong 11 = .ok (.iload_n 2, 1) := by decide +kernel
theorem dX9_firstWrong_12 : decode cX9_firstWrong 12 = .ok (.invokevirtual 194, 3) := by decide +kernel
theorem dX9_firstWrong_15 : decode cX9_firstWrong 15 = .ok (.ifCond .eq 17, 3) := by decide +kernel
theorem dX9_firstWrong_18 : decode cX9_firstWrong 18 = .ok (.aload_n 0, 1) := by decide +kernel
theorem dX9_firstWrong_19 : decode cX9_firstWrong 19 = .ok (.getfield 19, 3) := by decide +kernel
theorem dX9_firstWrong_22 : decode cX9_firstWrong 22 = .ok (.iconst 2, 1) := by decide +kernel
theorem dX9_firstWrong_23 : decode cX9_firstWrong 23 = .ok (.iload_n 2, 1) := by decide +kernel
theorem dX9_firstWrong_24 : decode cX9_firstWrong 24 = .ok (.imul, 1) := by decide +kernel
theorem dX9_firstWrong_25 : decode cX9_firstWrong 25 = .ok (.invokevirtual 263, 3) := by decide +kernel
theorem dX9_firstWrong_28 : decode cX9_firstWrong 28 = .ok (.iload_n 2, 1) := by decide +kernel
theorem dX9_firstWrong_29 : decode cX9_firstWrong 29 = .ok (.if_icmp .eq 7, 3) := by decide +kernel
theorem dX9_firstWrong_32 : decode cX9_firstWrong 32 = .ok (.iconst 2, 1) := by decide +kernel
theorem dX9_firstWrong_33 : decode cX9_firstWrong 33 = .ok (.iload_n 2, 1) := by decide +kernel
theorem dX9_firstWrong_34 : decode cX9_firstWrong 34 = .ok (.imul, 1) := by decide +kernel
theorem dX9_firstWrong_35 : decode cX9_firstWrong 35 = .ok (.ireturn, 1) := by decide +kernel
theorem dX9_firstWrong_36 : decode cX9_firstWrong 36 = .ok (.aload_n 0, 1) := by decide +kernel
theorem dX9_firstWrong_37 : decode cX9_firstWrong 37 = .ok (.getfield 19, 3) := by decide +kernel
theorem dX9_firstWrong_40 : decode cX9_firstWrong 40 = .ok (.iconst 2, 1) := by decide +kernel
theorem dX9_firstWrong_41 : decode cX9_firstWrong 41 = .ok (.iload_n 2, 1) := by decide +kernel
theorem dX9_firstWrong_42 : decode cX9_firstWrong 42 = .ok (.imul, 1) := by decide +kernel
theorem dX9_firstWrong_43 : decode cX9_firstWrong 43 = .ok (.iconst 1, 1) := by decide +kernel
theorem dX9_firstWrong_44 : decode cX9_firstWrong 44 = .ok (.iadd, 1) := by decide +kernel
theorem dX9_firstWrong_45 : decode cX9_firstWrong 45 = .ok (.invokevirtual 263, 3) := by decide +kernel
theorem dX9_firstWrong_48 : decode cX9_firstWrong 48 = .ok (.aload_n 0, 1) := by decide +kernel
theorem dX9_firstWrong_49 : decode cX9_firstWrong 49 = .ok (.getfield 12, 3) := by decide +kernel
theorem dX9_firstWrong_52 : decode cX9_firstWrong 52 = .ok (.iload_n 2, 1) := by decide +kernel
theorem dX9_firstWrong_53 : decode cX9_firstWrong 53 = .ok (.invokevirtual 72, 3) := by decide +kernel
theorem dX9_firstWrong_56 : decode cX9_firstWrong 56 = .ok (.if_icmp .eq 9, 3) := by decide +kernel
theorem dX9_firstWrong_59 : decode cX9_firstWrong 59 = .ok (.iconst 2, 1) := by decide +kernel
theorem dX9_firstWrong_60 : decode cX9_firstWrong 60 = .ok (.iload_n 2, 1) := by decide +kernel
theorem dX9_firstWrong_61 : decode cX9_firstWrong 61 = .ok (.imul, 1) := by decide +kernel
theorem dX9_firstWrong_62 : decode cX9_firstWrong 62 = .ok (.iconst 1, 1) := by decide +kernel
theorem dX9_firstWrong_63 : decode cX9_firstWrong 63 = .ok (.iadd, 1) := by decide +kernel
theorem dX9_firstWrong_64 : decode cX9_firstWrong 64 = .ok (.ireturn, 1) := by decide +kernel
theorem dX9_firstWrong_65 : decode cX9_firstWrong 65 = .ok (.iinc 2 1, 3) := by decide +kernel
theorem dX9_firstWrong_68 : decode cX9_firstWrong 68 = .ok (.goto (-66), 3) := by decide +kernel
theorem dX9_firstWrong_71 : decode cX9_firstWrong 71 = .ok (.iload_n 1, 1) := by decide +kernel
theorem dX9_firstWrong_72 : decode cX9_firstWrong 72 = .ok (.aload_n 0, 1) := by decide +kernel
theorem dX9_firstWrong_73 : decode cX9_firstWrong 73 = .ok (.getfield 12, 3) := by decide +kernel
theorem dX9_firstWrong_76 : decode cX9_firstWrong 76 = .ok (.invokevirtual 228, 3) := by decide +kernel
theorem dX9_firstWrong_79 : decode cX9_firstWrong 79 = .ok (.if_icmp .ge 9, 3) := by decide +kernel
theorem dX9_firstWrong_82 : decode cX9_firstWrong 82 = .ok (.iconst 2, 1) := by decide +kernel
theorem dX9_firstWrong_83 : decode cX9_firstWrong 83 = .ok (.iload_n 1, 1) := by decide +kernel
theorem dX9_firstWrong_84 : decode cX9_firstWrong 84 = .ok (.imul, 1) := by decide +kernel
theorem dX9_firstWrong_85 : decode cX9_firstWrong 85 = .ok (.goto 4, 3) := by decide +kernel
theorem dX9_firstWrong_88 : decode cX9_firstWrong 88 = .ok (.iconst (-1), 1) := by decide +kernel
theorem dX9_firstWrong_89 : decode cX9_firstWrong 89 = .ok (.ireturn, 1) := by decide +kernel
theorem dX10_init_0 : decode cX10_init 0 = .ok (.aload_n 0, 1) := by decide +kernel
theorem dX10_init_1 : decode cX10_init 1 = .ok (.invokespecial 1, 3) := by decide +kernel
theorem dX10_init_4 : decode cX10_init 4 = .ok (.aload_n 0, 1) := by decide +kernel
theorem dX10_init_5 : decode cX10_init 5 = .ok (.bipush 16, 2) := by decide +kernel
theorem dX10_init_7 : decode cX10_init 7 = .ok (.newarray .int, 2) := by decide +kernel
theorem dX10_init_9 : decode cX10_init 9 = .ok (.putfield 7, 3) := by decide +kernel
theorem dX10_init_12 : decode cX10_init 12 = .ok (.aload_n 0, 1) := by decide +kernel
theorem dX10_init_13 : decode cX10_init 13 = .ok (.bipush 16, 2) := by decide +kernel
theorem dX10_init_15 : decode cX10_init 15 = .ok (.newarray .int, 2) := by decide +kernel
theorem dX10_init_17 : decode cX10_init 17 = .ok (.putfield 13, 3) := by decide +kernel
theorem dX10_init_20 : decode cX10_init 20 = .ok (.aload_n 0, 1) := by decide +kernel
theorem dX10_init_21 : decode cX10_init 21 = .ok (.bipush 16, 2) := by decide +kernel
theorem dX10_init_23 : decode cX10_init 23 = .ok (.newarray .int, 2) := by decide +kernel
theorem dX10_init_25 : decode cX10_init 25 = .ok (.putfield 16, 3) := by decide +kernel
theorem dX10_init_28 : decode cX10_init 28 = .ok (.aload_n 0, 1) := by decide +kernel
theorem dX10_init_29 : decode cX10_init 29 = .ok (.bipush 16, 2) := by decide +kernel
theorem dX10_init_31 : decode cX10_init 31 = .ok (.newarray .int, 2) := by decide +kernel
theorem dX10_init_33 : decode cX10_init 33 = .ok (.putfield 19, 3) := by decide +kernel
theorem dX10_init_36 : decode cX10_init 36 = .ok (.aload_n 0, 1) := by decide +kernel
theorem dX10_init_37 : decode cX10_init 37 = .ok (.sipush 200, 3) := by decide +kernel
theorem dX10_init_40 : decode cX10_init 40 = .ok (.newarray .int, 2) := by decide +kernel
theorem dX10_init_42 : decode cX10_init 42 = .ok (.putfield 22, 3) := by decide +kernel
theorem dX10_init_45 : decode cX10_init 45 = .ok (.aload_n 0, 1) := by decide +kernel
theorem dX10_init_46 : decode cX10_init 46 = .ok (.sipush 200, 3) := by decide +kernel
theorem dX10_init_49 : decode cX10_init 49 = .ok (.newarray .int, 2) := by decide +kernel
theorem dX10_init_51 : decode cX10_init 51 = .ok (.putfield 25, 3) := by decide +kernel
theorem dX10_init_54 : decode cX10_init 54 = .ok (.aload_n 0, 1) := by decide +kernel
theorem dX10_init_55 : decode cX10_init 55 = .ok (.sipush 200, 3) := by decide +kernel
theorem dX10_init_58 : decode cX10_init 58 = .ok (.newarray .int, 2) := by decide +kernel
theorem dX10_init_60 : decode cX10_init 60 = .ok (.putfield 28, 3) := by decide +kernel
theorem dX10_init_63 : decode cX10_init 63 = .ok (.aload_n 0, 1) := by decide +kernel
theorem dX10_init_64 : decode cX10_init 64 = .ok (.sipush 200, 3) := by decide +kernel
theorem dX10_init_67 : decode cX10_init 67 = .ok (.newarray .int, 2) := by decide +kernel
theorem dX10_init_69 : decode cX10_init 69 = .ok (.putfield 31, 3) := by decide +kernel
theorem dX10_init_72 : decode cX10_init 72 = .ok (.aload_n 0, 1) := by decide +kernel
theorem dX10_init_73 : decode cX10_init 73 = .ok (.sipush 200, 3) := by decide +kernel
theorem dX10_init_76 : decode cX10_init 76 = .ok (.newarray .int, 2) := by decide +kernel
theorem dX10_init_78 : decode cX10_init 78 = .ok (.putfield 34, 3) := by decide +kernel
theorem dX10_init_81 : decode cX10_init 81 = .ok (.aload_n 0, 1) := by decide +kernel
theorem dX10_init_82 : decode cX10_init 82 = .ok (.sipush 200, 3) := by decide +kernel
theorem dX10_init_85 : decode cX10_init 85 = .ok (.newarray .int, 2) := by decide +kernel
theorem dX10_init_87 : decode cX10_init 87 = .ok (.putfield 37, 3) := by decide +kernel
theorem dX10_init_90 : decode cX10_init 90 = .ok (.aload_n 0, 1) := by decide +kernel
theorem dX10_init_91 : decode cX10_init 91 = .ok (.sipush 200, 3) := by decide +kernel
theorem dX10_init_94 : decode cX10_init 94 = .ok (.newarray .byte, 2) := by decide +kernel
theorem dX10_init_96 : decode cX10_init 96 = .ok (.putfield 40, 3) := by decide +kernel
theorem dX10_init_99 : decode cX10_init 99 = .ok (.aload_n 0, 1) := by decide +kernel
theorem dX10_init_100 : decode cX10_init 100 = .ok (.bipush 29, 2) := by decide +kernel
theorem dX10_init_102 : decode cX10_init 102 = .ok (.newarray .long, 2) := by decide +kernel
theorem dX10_init_104 : decode cX10_init 104 = .ok (.putfield 44, 3) := by decide +kernel
theorem dX10_init_107 : decode cX10_init 107 = .ok (.aload_n 0, 1) := by decide +kernel
theorem dX10_init_108 : decode cX10_init 108 = .ok (.bipush 8, 2) := by decide +kernel
theorem dX10_init_110 : decode cX10_init 110 = .ok (.newarray .long, 2) := by decide +kernel
theorem dX10_init_112 : decode cX10_init 112 = .ok (.putfield 48, 3) := by decide +kernel
theorem dX10_init_115 : decode cX10_init 115 = .ok (.aload_n 0, 1) := by decide +kernel
theorem dX10_init_116 : decode cX10_init 116 = .ok (.bipush 9, 2) := by decide +kernel
theorem dX10_init_118 : decode cX10_init 118 = .ok (.newarray .int, 2) := by decide +kernel
theorem dX10_init_120 : decode cX10_init 120 = .ok (.putfield 51, 3) := by decide +kernel
theorem dX10_init_123 : decode cX10_init 123 = .ok (.aload_n 0, 1) := by decide +kernel
theorem dX10_init_124 : decode cX10_init 124 = .ok (.bipush 9, 2) := by decide +kernel
theorem dX10_init_126 : decode cX10_init 126 = .ok (.newarray .int, 2) := by decide +kernel
theorem dX10_init_128 : decode cX10_init 128 = .ok (.putfield 54, 3) := by decide +kernel
theorem dX10_init_131 : decode cX10_init 131 = .ok (.aload_n 0, 1) := by decide +kernel
theorem dX10_init_132 : decode cX10_init 132 = .ok (.bipush 63, 2) := by decide +kernel
theorem dX10_init_134 : decode cX10_init 134 = .ok (.newarray .int, 2) := by decide +kernel
theorem dX10_init_136 : decode cX10_init 136 = .ok (.putfield 57, 3) := by decide +kernel
theorem dX10_init_139 : decode cX10_init 139 = .ok (.aload_n 0, 1) := by decide +kernel
theorem dX10_init_140 : decode cX10_init 140 = .ok (.bipush 63, 2) := by decide +kernel
theorem dX10_init_142 : decode cX10_init 142 = .ok (.newarray .int, 2) := by decide +kernel
theorem dX10_init_144 : decode cX10_init 144 = .ok (.putfield 60, 3) := by decide +kernel
theorem dX10_init_147 : decode cX10_init 147 = .ok (.aload_n 0, 1) := by decide +kernel
theorem dX10_init_148 : decode cX10_init 148 = .ok (.bipush 63, 2) := by decide +kernel
theorem dX10_init_150 : decode cX10_init 150 = .ok (.newarray .int, 2) := by decide +kernel
theorem dX10_init_152 : decode cX10_init 152 = .ok (.putfield 63, 3) := by decide +kernel
theorem dX10_init_155 : decode cX10_init 155 = .ok (.aload_n 0, 1) := by decide +kernel
theorem dX10_init_156 : decode cX10_init 156 = .ok (.bipush 54, 2) := by decide +kernel
theorem dX10_init_158 : decode cX10_init 158 = .ok (.newarray .int, 2) := by decide +kernel
theorem dX10_init_160 : decode cX10_init 160 = .ok (.putfield 66, 3) := by decide +kernel
theorem dX10_init_163 : decode cX10_init 163 = .ok (.aload_n 0, 1) := by decide +kernel
theorem dX10_init_164 : decode cX10_init 164 = .ok (.bipush 9, 2) := by decide +kernel
theorem dX10_init_166 : decode cX10_init 166 = .ok (.newarray .int, 2) := by decide +kernel
theorem dX10_init_168 : decode cX10_init 168 = .ok (.putfield 69, 3) := by decide +kernel
theorem dX10_init_171 : decode cX10_init 171 = .ok (.aload_n 0, 1) := by decide +kernel
theorem dX10_init_172 : decode cX10_init 172 = .ok (.bipush 9, 2) := by decide +kernel
theorem dX10_init_174 : decode cX10_init 174 = .ok (.newarray .int, 2) := by decide +kernel
theorem dX10_init_176 : decode cX10_init 176 = .ok (.putfield 72, 3) := by decide +kernel
theorem dX10_init_179 : decode cX10_init 179 = .ok (.aload_n 0, 1) := by decide +kernel
theorem dX10_init_180 : decode cX10_init 180 = .ok (.sipush 3000, 3) := by decide +kernel
theorem dX10_init_183 : decode cX10_init 183 = .ok (.newarray .int, 2) := by decide +kernel
theorem dX10_init_185 : decode cX10_init 185 = .ok (.putfield 75, 3) := by decide +kernel
theorem dX10_init_188 : decode cX10_init 188 = .ok (.aload_n 0, 1) := by decide +kernel
theorem dX10_init_189 : decode cX10_init 189 = .ok (.sipush 3000, 3) := by decide +kernel
theorem dX10_init_192 : decode cX10_init 192 = .ok (.newarray .int, 2) := by decide +kernel
theorem dX10_init_194 : decode cX10_init 194 = .ok (.putfield 78, 3) := by decide +kernel
theorem dX10_init_197 : decode cX10_init 197 = .ok (.aload_n 0, 1) := by decide +kernel
theorem dX10_init_198 : decode cX10_init 198 = .ok (.sipush 3000, 3) := by decide +kernel
theorem dX10_init_201 : decode cX10_init 201 = .ok (.newarray .int, 2) := by decide +kernel
theorem dX10_init_203 : decode cX10_init 203 = .ok (.putfield 81, 3) := by decide +kernel
theorem dX10_init_206 : decode cX10_init 206 = .ok (.aload_n 0, 1) := by decide +kernel
theorem dX10_init_207 : decode cX10_init 207 = .ok (.sipush 3000, 3) := by decide +kernel
theorem dX10_init_210 : decode cX10_init 210 = .ok (.newarray .int, 2) := by decide +kernel
theorem dX10_init_212 : decode cX10_init 212 = .ok (.putfield 84, 3) := by decide +kernel
theorem dX10_init_215 : decode cX10_init 215 = .ok (.aload_n 0, 1) := by decide +kernel
theorem dX10_init_216 : decode cX10_init 216 = .ok (.sipush 3000, 3) := by decide +kernel
theorem dX10_init_219 : decode cX10_init 219 = .ok (.newarray .int, 2) := by decide +kernel
theorem dX10_init_221 : decode cX10_init 221 = .ok (.putfield 87, 3) := by decide +kernel
theorem dX10_init_224 : decode cX10_init 224 = .ok (.aload_n 0, 1) := by decide +kernel
theorem dX10_init_225 : decode cX10_init 225 = .ok (.sipush 3000, 3) := by decide +kernel
theorem dX10_init_228 : decode cX10_init 228 = .ok (.newarray .boolean, 2) := by decide +kernel
theorem dX10_init_230 : decode cX10_init 230 = .ok (.putfield 90, 3) := by decide +kernel
theorem dX10_init_233 : decode cX10_init 233 = .ok (.aload_n 0, 1) := by decide +kernel
theorem dX10_init_234 : decode cX10_init 234 = .ok (.sipush 3000, 3) := by decide +kernel
theorem dX10_init_237 : decode cX10_init 237 = .ok (.newarray .boolean, 2) := by decide +kernel
theorem dX10_init_239 : decode cX10_init 239 = .ok (.putfield 94, 3) := by decide +kernel
theorem dX10_init_242 : decode cX10_init 242 = .ok (.aload_n 0, 1) := by decide +kernel
theorem dX10_init_243 : decode cX10_init 243 = .ok (.sipush 420, 3) := by decide +kernel
theorem dX10_init_246 : decode cX10_init 246 = .ok (.newarray .int, 2) := by decide +kernel
theorem dX10_init_248 : decode cX10_init 248 = .ok (.putfield 97, 3) := by decide +kernel
theorem dX10_init_251 : decode cX10_init 251 = .ok (.aload_n 0, 1) := by decide +kernel
theorem dX10_init_252 : decode cX10_init 252 = .ok (.bipush 63, 2) := by decide +kernel
theorem dX10_init_254 : decode cX10_init 254 = .ok (.newarray .int, 2) := by decide +kernel
theorem dX10_init_256 : decode cX10_init 256 = .ok (.putfield 100, 3) := by decide +kernel
theorem dX10_init_259 : decode cX10_init 259 = .ok (.aload_n 0, 1) := by decide +kernel
theorem dX10_init_260 : decode cX10_init 260 = .ok (.bipush 8, 2) := by decide +kernel
theorem dX10_init_262 : decode cX10_init 262 = .ok (.newarray .int, 2) := by decide +kernel
theorem dX10_init_264 : decode cX10_init 264 = .ok (.putfield 103, 3) := by decide +kernel
theorem dX10_init_267 : decode cX10_init 267 = .ok (.aload_n 0, 1) := by decide +kernel
theorem dX10_init_268 : decode cX10_init 268 = .ok (.bipush 16, 2) := by decide +kernel
theorem dX10_init_270 : decode cX10_init 270 = .ok (.newarray .int, 2) := by decide +kernel
theorem dX10_init_272 : decode cX10_init 272 = .ok (.putfield 106, 3) := by decide +kernel
theorem dX10_init_275 : decode cX10_init 275 = .ok (.aload_n 0, 1) := by decide +kernel
theorem dX10_init_276 : decode cX10_init 276 = .ok (.bipush 100, 2) := by decide +kernel
theorem dX10_init_278 : decode cX10_init 278 = .ok (.newarray .int, 2) := by decide +kernel
theorem dX10_init_280 : decode cX10_init 280 = .ok (.putfield 109, 3) := by decide +kernel
theorem dX10_init_283 : decode cX10_init 283 = .ok (.aload_n 0, 1) := by decide +kernel
theorem dX10_init_284 : decode cX10_init 284 = .ok (.bipush 100, 2) := by decide +kernel
theorem dX10_init_286 : decode cX10_init 286 = .ok (.newarray .int, 2) := by decide +kernel
theorem dX10_init_288 : decode cX10_init 288 = .ok (.putfield 112, 3) := by decide +kernel
theorem dX10_init_291 : decode cX10_init 291 = .ok (.aload_n 0, 1) := by decide +kernel
theorem dX10_init_292 : decode cX10_init 292 = .ok (.bipush 100, 2) := by decide +kernel
theorem dX10_init_294 : decode cX10_init 294 = .ok (.newarray .int, 2) := by decide +kernel
theorem dX10_init_296 : decode cX10_init 296 = .ok (.putfield 115, 3) := by decide +kernel
theorem dX10_init_299 : decode cX10_init 299 = .ok (.aload_n 0, 1) := by decide +kernel
theorem dX10_init_300 : decode cX10_init 300 = .ok (.bipush 20, 2) := by decide +kernel
theorem dX10_init_302 : decode cX10_init 302 = .ok (.newarray .int, 2) := by decide +kernel
theorem dX10_init_304 : decode cX10_init 304 = .ok (.putfield 118, 3) := by decide +kernel
theorem dX10_init_307 : decode cX10_init 307 = .ok (.aload_n 0, 1) := by decide +kernel
theorem dX10_init_308 : decode cX10_init 308 = .ok (.bipush 20, 2) := by decide +kernel
theorem dX10_init_310 : decode cX10_init 310 = .ok (.newarray .boolean, 2) := by decide +kernel
theorem dX10_init_312 : decode cX10_init 312 = .ok (.putfield 121, 3) := by decide +kernel
theorem dX10_init_315 : decode cX10_init 315 = .ok (.aload_n 0, 1) := by decide +kernel
theorem dX10_init_316 : decode cX10_init 316 = .ok (.getfield 44, 3) := by decide +kernel
theorem dX10_init_319 : decode cX10_init 319 = .ok (.iconst 0, 1) := by decide +kernel
theorem dX10_init_320 : decode cX10_init 320 = .ok (.ldc2_w 124, 3) := by decide +kernel
theorem dX10_init_323 : decode cX10_init 323 = .ok (.lastore, 1) := by decide +kernel
theorem dX10_init_324 : decode cX10_init 324 = .ok (.aload_n 0, 1) := by decide +kernel
theorem dX10_init_325 : decode cX10_init 325 = .ok (.getfield 44, 3) := by decide +kernel
theorem dX10_init_328 : decode cX10_init 328 = .ok (.iconst 1, 1) := by decide +kernel
theorem dX10_init_329 : decode cX10_init 329 = .ok (.ldc2_w 126, 3) := by decide +kernel
theorem dX10_init_332 : decode cX10_init 332 = .ok (.lastore, 1) := by decide +kernel
theorem dX10_init_333 : decode cX10_init 333 = .ok (.aload_n 0, 1) := by decide +kernel
theorem dX10_init_334 : decode cX10_init 334 = .ok (.getfield 44, 3) := by decide +kernel
theorem dX10_init_337 : decode cX10_init 337 = .ok (.iconst 2, 1) := by decide +kernel
theorem dX10_init_338 : decode cX10_init 338 = .ok (.ldc2_w 128, 3) := by decide +kernel
theorem dX10_init_341 : decode cX10_init 341 = .ok (.lastore, 1) := by decide +kernel
theorem dX10_init_342 : decode cX10_init 342 = .ok (.aload_n 0, 1) := by decide +kernel
theorem dX10_init_343 : decode cX10_init 343 = .ok (.getfield 44, 3) := by decide +kernel
theorem dX10_init_346 : decode cX10_init 346 = .ok (.iconst 3, 1) := by decide +kernel
theorem dX10_init_347 : decode cX10_init 347 = .ok (.ldc2_w 130, 3) := by decide +kernel
theorem dX10_init_350 : decode cX10_init 350 = .ok (.lastore, 1) := by decide +kernel
theorem dX10_init_351 : decode cX10_init 351 = .ok (.aload_n 0, 1) := by decide +kernel
theorem dX10_init_352 : decode cX10_init 352 = .ok (.getfield 44, 3) := by decide +kernel
theorem dX10_init_355 : decode cX10_init 355 = .ok (.iconst 4, 1) := by decide +kernel
theorem dX10_init_356 : decode cX10_init 356 = .ok (.ldc2_w 132, 3) := by decide +kernel
theorem dX10_init_359 : decode cX10_init 359 = .ok (.lastore, 1) := by decide +kernel
theorem dX10_init_360 : decode cX10_init 360 = .ok (.aload_n 0, 1) := by decide +kernel
theorem dX10_init_361 : decode cX10_init 361 = .ok (.getfield 44, 3) := by decide +kernel
theorem dX10_init_364 : decode cX10_init 364 = .ok (.iconst 5, 1) := by decide +kernel
theorem dX10_init_365 : decode cX10_init 365 = .ok (.ldc2_w 134, 3) := by decide +kernel
theorem dX10_init_368 : decode cX10_init 368 = .ok (.lastore, 1) := by decide +kernel
theorem dX10_init_369 : decode cX10_init 369 = .ok (.aload_n 0, 1) := by decide +kernel
theorem dX10_init_370 : decode cX10_init 370 = .ok (.getfield 44, 3) := by decide +kernel
theorem dX10_init_373 : decode cX10_init 373 = .ok (.bipush 6, 2) := by decide +kernel
theorem dX10_init_375 : decode cX10_init 375 = .ok (.ldc2_w 136, 3) := by decide +kernel
theorem dX10_init_378 : decode cX10_init 378 = .ok (.lastore, 1) := by decide +kernel
theorem dX10_init_379 : decode cX10_init 379 = .ok (.aload_n 0, 1) := by decide +kernel
theorem dX10_init_380 : decode cX10_init 380 = .ok (.getfield 44, 3) := by decide +kernel
theorem dX10_init_383 : decode cX10_init 383 = .ok (.bipush 7, 2) := by decide +kernel
theorem dX10_init_385 : decode cX10_init 385 = .ok (.ldc2_w 138, 3) := by decide +kernel
theorem dX10_init_388 : decode cX10_init 388 = .ok (.lastore, 1) := by decide +kernel
theorem dX10_init_389 : decode cX10_init 389 = .ok (.aload_n 0, 1) := by decide +kernel
theorem dX10_init_390 : decode cX10_init 390 = .ok (.getfield 44, 3) := by decide +kernel
theorem dX10_init_393 : decode cX10_init 393 = .ok (.bipush 8, 2) := by decide +kernel
theorem dX10_init_395 : decode cX10_init 395 = .ok (.ldc2_w 140, 3) := by decide +kernel
theorem dX10_init_398 : decode cX10_init 398 = .ok (.lastore, 1) := by decide +kernel
theorem dX10_init_399 : decode cX10_init 399 = .ok (.aload_n 0, 1) := by decide +kernel
theorem dX10_init_400 : decode cX10_init 400 = .ok (.getfield 44, 3) := by decide +kernel
theorem dX10_init_403 : decode cX10_init 403 = .ok (.bipush 9, 2) := by decide +kernel
theorem dX10_init_405 : decode cX10_init 405 = .ok (.ldc2_w 142, 3) := by decide +kernel
theorem dX10_init_408 : decode cX10_init 408 = .ok (.lastore, 1) := by decide +kernel
theorem dX10_init_409 : decode cX10_init 409 = .ok (.aload_n 0, 1) := by decide +kernel
theorem dX10_init_410 : decode cX10_init 410 = .ok (.getfield 44, 3) := by decide +kernel
theorem dX10_init_413 : decode cX10_init 413 = .ok (.bipush 10, 2) := by decide +kernel
theorem dX10_init_415 : decode cX10_init 415 = .ok (.ldc2_w 144, 3) := by decide +kernel
theorem dX10_init_418 : decode cX10_init 418 = .ok (.lastore, 1) := by decide +kernel
theorem dX10_init_419 : decode cX10_init 419 = .ok (.aload_n 0, 1) := by decide +kernel
theorem dX10_init_420 : decode cX10_init 420 = .ok (.getfield 44, 3) := by decide +kernel
theorem dX10_init_423 : decode cX10_init 423 = .ok (.bipush 11, 2) := by decide +kernel
theorem dX10_init_425 : decode cX10_init 425 = .ok (.lconst 1, 1) := by decide +kernel
theorem dX10_init_426 : decode cX10_init 426 = .ok (.lastore, 1) := by decide +kernel
theorem dX10_init_427 : decode cX10_init 427 = .ok (.aload_n 0, 1) := by decide +kernel
theorem dX10_init_428 : decode cX10_init 428 = .ok (.getfield 44, 3) := by decide +kernel
theorem dX10_init_431 : decode cX10_init 431 = .ok (.bipush 12, 2) := by decide +kernel
theorem dX10_init_433 : decode cX10_init 433 = .ok (.ldc2_w 146, 3) := by decide +kernel
theorem dX10_init_436 : decode cX10_init 436 = .ok (.lastore, 1) := by decide +kernel
theorem dX10_init_437 : decode cX10_init 437 = .ok (.aload_n 0, 1) := by decide +kernel
theorem dX10_init_438 : decode cX10_init 438 = .ok (.getfield 44, 3) := by decide +kernel
theorem dX10_init_441 : decode cX10_init 441 = .ok (.bipush 13, 2) := by decide +kernel
theorem dX10_init_443 : decode cX10_init 443 = .ok (.ldc2_w 148, 3) := by decide +kernel
theorem dX10_init_446 : decode cX10_init 446 = .ok (.lastore, 1) := by decide +kernel
theorem dX10_init_447 : decode cX10_init 447 = .ok (.aload_n 0, 1) := by decide +kernel
theorem dX10_init_448 : decode cX10_init 448 = .ok (.getfield 44, 3) := by decide +kernel
theorem dX10_init_451 : decode cX10_init 451 = .ok (.bipush 14, 2) := by decide +kernel
theorem dX10_init_453 : decode cX10_init 453 = .ok (.ldc2_w 150, 3) := by decide +kernel
theorem dX10_init_456 : decode cX10_init 456 = .ok (.lastore, 1) := by decide +kernel
theorem dX10_init_457 : decode cX10_init 457 = .ok (.aload_n 0, 1) := by decide +kernel
theorem dX10_init_458 : decode cX10_init 458 = .ok (.getfield 44, 3) := by decide +kernel
theorem dX10_init_461 : decode cX10_init 461 = .ok (.bipush 15, 2) := by decide +kernel
theorem dX10_init_463 : decode cX10_init 463 = .ok (.ldc2_w 152, 3) := by decide +kernel
theorem dX10_init_466 : decode cX10_init 466 = .ok (.lastore, 1) := by decide +kernel
theorem dX10_init_467 : decode cX10_init 467 = .ok (.aload_n 0, 1) := by decide +kernel
theorem dX10_init_468 : decode cX10_init 468 = .ok (.getfield 44, 3) := by decide +kernel
theorem dX10_init_471 : decode cX10_init 471 = .ok (.bipush 16, 2) := by decide +kernel
theorem dX10_init_473 : decode cX10_init 473 = .ok (.ldc2_w 154, 3) := by decide +kernel
theorem dX10_init_476 : decode cX10_init 476 = .ok (.lastore, 1) := by decide +kernel
theorem dX10_init_477 : decode cX10_init 477 = .ok (.aload_n 0, 1) := by decide +kernel
theorem dX10_init_478 : decode cX10_init 478 = .ok (.getfield 44, 3) := by decide +kernel
theorem dX10_init_481 : decode cX10_init 481 = .ok (.bipush 17, 2) := by decide +kernel
theorem dX10_init_483 : decode cX10_init 483 = .ok (.ldc2_w 156, 3) := by decide +kernel
theorem dX10_init_486 : decode cX10_init 486 = .ok (.lastore, 1) := by decide +kernel
theorem dX10_init_487 : decode cX10_init 487 = .ok (.aload_n 0, 1) := by decide +kernel
theorem dX10_init_488 : decode cX10_init 488 = .ok (.getfield 44, 3) := by decide +kernel
theorem dX10_init_491 : decode cX10_init 491 = .ok (.bipush 18, 2) := by decide +kernel
theorem dX10_init_493 : decode cX10_init 493 = .ok (.ldc2_w 158, 3) := by decide +kernel
theorem dX10_init_496 : decode cX10_init 496 = .ok (.lastore, 1) := by decide +kernel
theorem dX10_init_497 : decode cX10_init 497 = .ok (.aload_n 0, 1) := by decide +kernel
theorem dX10_init_498 : decode cX10_init 498 = .ok (.getfield 44, 3) := by decide +kernel
theorem dX10_init_501 : decode cX10_init 501 = .ok (.bipush 19, 2) := by decide +kernel
theorem dX10_init_503 : decode cX10_init 503 = .ok (.ldc2_w 160, 3) := by decide +kernel
theorem dX10_init_506 : decode cX10_init 506 = .ok (.lastore, 1) := by decide +kernel
theorem dX10_init_507 : decode cX10_init 507 = .ok (.aload_n 0, 1) := by decide +kernel
theorem dX10_init_508 : decode cX10_init 508 = .ok (.getfield 44, 3) := by decide +kernel
theorem dX10_init_511 : decode cX10_init 511 = .ok (.bipush 20, 2) := by decide +kernel
theorem dX10_init_513 : decode cX10_init 513 = .ok (.ldc2_w 162, 3) := by decide +kernel
theorem dX10_init_516 : decode cX10_init 516 = .ok (.lastore, 1) := by decide +kernel
theorem dX10_init_517 : decode cX10_init 517 = .ok (.aload_n 0, 1) := by decide +kernel
theorem dX10_init_518 : decode cX10_init 518 = .ok (.getfield 44, 3) := by decide +kernel
theorem dX10_init_521 : decode cX10_init 521 = .ok (.bipush 21, 2) := by decide +kernel
theorem dX10_init_523 : decode cX10_init 523 = .ok (.ldc2_w 164, 3) := by decide +kernel
theorem dX10_init_526 : decode cX10_init 526 = .ok (.lastore, 1) := by decide +kernel
theorem dX10_init_527 : decode cX10_init 527 = .ok (.aload_n 0, 1) := by decide +kernel
theorem dX10_init_528 : decode cX10_init 528 = .ok (.getfield 44, 3) := by decide +kernel
theorem dX10_init_531 : decode cX10_init 531 = .ok (.bipush 22, 2) := by decide +kernel
theorem dX10_init_533 : decode cX10_init 533 = .ok (.ldc2_w 166, 3) := by decide +kernel
theorem dX10_init_536 : decode cX10_init 536 = .ok (.lastore, 1) := by decide +kernel
theorem dX10_init_537 : decode cX10_init 537 = .ok (.aload_n 0, 1) := by decide +kernel
theorem dX10_init_538 : decode cX10_init 538 = .ok (.getfield 44, 3) := by decide +kernel
theorem dX10_init_541 : decode cX10_init 541 = .ok (.bipush 23, 2) := by decide +kernel
theorem dX10_init_543 : decode cX10_init 543 = .ok (.ldc2_w 168, 3) := by decide +kernel
theorem dX10_init_546 : decode cX10_init 546 = .ok (.lastore, 1) := by decide +kernel
theorem dX10_init_547 : decode cX10_init 547 = .ok (.aload_n 0, 1) := by decide +kernel
theorem dX10_init_548 : decode cX10_init 548 = .ok (.getfield 44, 3) := by decide +kernel
theorem dX10_init_551 : decode cX10_init 551 = .ok (.bipush 24, 2) := by decide +kernel
theorem dX10_init_553 : decode cX10_init 553 = .ok (.ldc2_w 170, 3) := by decide +kernel
theorem dX10_init_556 : decode cX10_init 556 = .ok (.lastore, 1) := by decide +kernel
theorem dX10_init_557 : decode cX10_init 557 = .ok (.aload_n 0, 1) := by decide +kernel
theorem dX10_init_558 : decode cX10_init 558 = .ok (.getfield 44, 3) := by decide +kernel
theorem dX10_init_561 : decode cX10_init 561 = .ok (.bipush 25, 2) := by decide +kernel
theorem dX10_init_563 : decode cX10_init 563 = .ok (.ldc2_w 172, 3) := by decide +kernel
theorem dX10_init_566 : decode cX10_init 566 = .ok (.lastore, 1) := by decide +kernel
theorem dX10_init_567 : decode cX10_init 567 = .ok (.aload_n 0, 1) := by decide +kernel
theorem dX10_init_568 : decode cX10_init 568 = .ok (.getfield 44, 3) := by decide +kernel
theorem dX10_init_571 : decode cX10_init 571 = .ok (.bipush 26, 2) := by decide +kernel
theorem dX10_init_573 : decode cX10_init 573 = .ok (.ldc2_w 174, 3) := by decide +kernel
theorem dX10_init_576 : decode cX10_init 576 = .ok (.lastore, 1) := by decide +kernel
theorem dX10_init_577 : decode cX10_init 577 = .ok (.aload_n 0, 1) := by decide +kernel
theorem dX10_init_578 : decode cX10_init 578 = .ok (.getfield 44, 3) := by decide +kernel
theorem dX10_init_581 : decode cX10_init 581 = .ok (.bipush 27, 2) := by decide +kernel
theorem dX10_init_583 : decode cX10_init 583 = .ok (.ldc2_w 176, 3) := by decide +kernel
theorem dX10_init_586 : decode cX10_init 586 = .ok (.lastore, 1) := by decide +kernel
theorem dX10_init_587 : decode cX10_init 587 = .ok (.aload_n 0, 1) := by decide +kernel
theorem dX10_init_588 : decode cX10_init 588 = .ok (.getfield 44, 3) := by decide +kernel
theorem dX10_init_591 : decode cX10_init 591 = .ok (.bipush 28, 2) := by decide +kernel
theorem dX10_init_593 : decode cX10_init 593 = .ok (.ldc2_w 178, 3) := by decide +kernel
theorem dX10_init_596 : decode cX10_init 596 = .ok (.lastore, 1) := by decide +kernel
theorem dX10_init_597 : decode cX10_init 597 = .ok (.aload_n 0, 1) := by decide +kernel
theorem dX10_init_598 : decode cX10_init 598 = .ok (.iconst (-1), 1) := by decide +kernel
theorem dX10_init_599 : decode cX10_init 599 = .ok (.putfield 180, 3) := by decide +kernel
theorem dX10_init_602 : decode cX10_init 602 = .ok (.return_, 1) := by decide +kernel
