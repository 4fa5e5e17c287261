theorem dX0_init_0 : decode cX0_init 0 = .ok (.aload_n 0, 1) := by decide +kernel
theorem dX0_init_1 : decode cX0_init 1 = .ok (.invokespecial 3, 3) := by decide +kernel
theorem dX0_init_4 : decode cX0_init 4 = .ok (.aload_n 0, 1) := by decide +kernel
theorem dX0_init_5 : decode cX0_init 5 = .ok (.sipush 420, 3) := by decide +kernel
theorem dX0_init_8 : decode cX0_init 8 = .ok (.newarray .int, 2) := by decide +kernel
theorem dX0_init_10 : decode cX0_init 10 = .ok (.putfield 9, 3) := by decide +kernel
theorem dX0_init_13 : decode cX0_init 13 = .ok (.aload_n 0, 1) := by decide +kernel
theorem dX0_init_14 : decode cX0_init 14 = .ok (.iconst (-1), 1) := by decide +kernel
theorem dX0_init_15 : decode cX0_init 15 = .ok (.putfield 15, 3) := by decide +kernel
theorem dX0_init_18 : decode cX0_init 18 = .ok (.aload_n 0, 1) := by decide +kernel
theorem dX0_init_19 : decode cX0_init 19 = .ok (.iconst (-1), 1) := by decide +kernel
theorem dX0_init_20 : decode cX0_init 20 = .ok (.putfield 19, 3) := by decide +kernel
theorem dX0_init_23 : decode cX0_init 23 = .ok (.return_, 1) := by decide +kernel
theorem dX0_statements_0 : decode cX0_statements 0 = .ok (.aload_n 0, 1) := by decide +kernel
theorem dX0_statements_1 : decode cX0_statements 1 = .ok (.getfield 22, 3) := by decide +kernel
theorem dX0_statements_4 : decode cX0_statements 4 = .ok (.ireturn, 1) := by decide +kernel
theorem dX0_judged_0 : decode cX0_judged 0 = .ok (.aload_n 0, 1) := by decide +kernel
theorem dX0_judged_1 : decode cX0_judged 1 = .ok (.getfield 25, 3) := by decide +kernel
theorem dX0_judged_4 : decode cX0_judged 4 = .ok (.ireturn, 1) := by decide +kernel
theorem dX0_otherwise_0 : decode cX0_otherwise 0 = .ok (.aload_n 0, 1) := by decide +kernel
theorem dX0_otherwise_1 : decode cX0_otherwise 1 = .ok (.getfield 28, 3) := by decide +kernel
theorem dX0_otherwise_4 : decode cX0_otherwise 4 = .ok (.ireturn, 1) := by decide +kernel
theorem dX0_firstOtherwise_0 : decode cX0_firstOtherwise 0 = .ok (.aload_n 0, 1) := by decide +kernel
theorem dX0_firstOtherwise_1 : decode cX0_firstOtherwise 1 = .ok (.getfield 15, 3) := by decide +kernel
theorem dX0_firstOtherwise_4 : decode cX0_firstOtherwise 4 = .ok (.ireturn, 1) := by decide +kernel
theorem dX0_sayings_0 : decode cX0_sayings 0 = .ok (.aload_n 0, 1) := by decide +kernel
theorem dX0_sayings_1 : decode cX0_sayings 1 = .ok (.getfield 31, 3) := by decide +kernel
theorem dX0_sayings_4 : decode cX0_sayings 4 = .ok (.ireturn, 1) := by decide +kernel
theorem dX0_lastNoun_0 : decode cX0_lastNoun 0 = .ok (.aload_n 0, 1) := by decide +kernel
theorem dX0_lastNoun_1 : decode cX0_lastNoun 1 = .ok (.getfield 19, 3) := by decide +kernel
theorem dX0_lastNoun_4 : decode cX0_lastNoun 4 = .ok (.ireturn, 1) := by decide +kernel
theorem dX0_mentionedBack_0 : decode cX0_mentionedBack 0 = .ok (.iload_n 1, 1) := by decide +kernel
theorem dX0_mentionedBack_1 : decode cX0_mentionedBack 1 = .ok (.ifCond .lt 27, 3) := by decide +kernel
theorem dX0_mentionedBack_4 : decode cX0_mentionedBack 4 = .ok (.iload_n 1, 1) := by decide +kernel
theorem dX0_mentionedBack_5 : decode cX0_mentionedBack 5 = .ok (.aload_n 0, 1) := by decide +kernel
theorem dX0_mentionedBack_6 : decode cX0_mentionedBack 6 = .ok (.getfield 34, 3) := by decide +kernel
theorem dX0_mentionedBack_9 : decode cX0_mentionedBack 9 = .ok (.if_icmp .ge 19, 3) := by decide +kernel
theorem dX0_mentionedBack_12 : decode cX0_mentionedBack 12 = .ok (.aload_n 0, 1) := by decide +kernel
theorem dX0_mentionedBack_13 : decode cX0_mentionedBack 13 = .ok (.getfield 9, 3) := by decide +kernel
theorem dX0_mentionedBack_16 : decode cX0_mentionedBack 16 = .ok (.aload_n 0, 1) := by decide +kernel
theorem dX0_mentionedBack_17 : decode cX0_mentionedBack 17 = .ok (.getfield 34, 3) := by decide +kernel
theorem dX0_mentionedBack_20 : decode cX0_mentionedBack 20 = .ok (.iconst 1, 1) := by decide +kernel
theorem dX0_mentionedBack_21 : decode cX0_mentionedBack 21 = .ok (.isub, 1) := by decide +kernel
theorem dX0_mentionedBack_22 : decode cX0_mentionedBack 22 = .ok (.iload_n 1, 1) := by decide +kernel
theorem dX0_mentionedBack_23 : decode cX0_mentionedBack 23 = .ok (.isub, 1) := by decide +kernel
theorem dX0_mentionedBack_24 : decode cX0_mentionedBack 24 = .ok (.iaload, 1) := by decide +kernel
theorem dX0_mentionedBack_25 : decode cX0_mentionedBack 25 = .ok (.goto 4, 3) := by decide +kernel
theorem dX0_mentionedBack_28 : decode cX0_mentionedBack 28 = .ok (.iconst (-1), 1) := by decide +kernel
theorem dX0_mentionedBack_29 : decode cX0_mentionedBack 29 = .ok (.ireturn, 1) := by decide +kernel
theorem dX0_mentionIfOne_0 : decode cX0_mentionIfOne 0 = .ok (.iload_n 1, 1) := by decide +kernel
theorem dX0_mentionIfOne_1 : decode cX0_mentionIfOne 1 = .ok (.invokestatic 37, 3) := by decide +kernel
theorem dX0_mentionIfOne_4 : decode cX0_mentionIfOne 4 = .ok (.iconst 1, 1) := by decide +kernel
theorem dX0_mentionIfOne_5 : decode cX0_mentionIfOne 5 = .ok (.if_icmp .ne 36, 3) := by decide +kernel
theorem dX0_mentionIfOne_8 : decode cX0_mentionIfOne 8 = .ok (.aload_n 0, 1) := by decide +kernel
theorem dX0_mentionIfOne_9 : decode cX0_mentionIfOne 9 = .ok (.getfield 34, 3) := by decide +kernel
theorem dX0_mentionIfOne_12 : decode cX0_mentionIfOne 12 = .ok (.sipush 420, 3) := by decide +kernel
theorem dX0_mentionIfOne_15 : decode cX0_mentionIfOne 15 = .ok (.if_icmp .ge 26, 3) := by decide +kernel
theorem dX0_mentionIfOne_18 : decode cX0_mentionIfOne 18 = .ok (.aload_n 0, 1) := by decide +kernel
theorem dX0_mentionIfOne_19 : decode cX0_mentionIfOne 19 = .ok (.getfield 9, 3) := by decide +kernel
theorem dX0_mentionIfOne_22 : decode cX0_mentionIfOne 22 = .ok (.aload_n 0, 1) := by decide +kernel
theorem dX0_mentionIfOne_23 : decode cX0_mentionIfOne 23 = .ok (.getfield 34, 3) := by decide +kernel
theorem dX0_mentionIfOne_26 : decode cX0_mentionIfOne 26 = .ok (.iload_n 1, 1) := by decide +kernel
theorem dX0_mentionIfOne_27 : decode cX0_mentionIfOne 27 = .ok (.invokestatic 43, 3) := by decide +kernel
theorem dX0_mentionIfOne_30 : decode cX0_mentionIfOne 30 = .ok (.iastore, 1) := by decide +kernel
theorem dX0_mentionIfOne_31 : decode cX0_mentionIfOne 31 = .ok (.aload_n 0, 1) := by decide +kernel
theorem dX0_mentionIfOne_32 : decode cX0_mentionIfOne 32 = .ok (.dup, 1) := by decide +kernel
theorem dX0_mentionIfOne_33 : decode cX0_mentionIfOne 33 = .ok (.getfield 34, 3) := by decide +kernel
theorem dX0_mentionIfOne_36 : decode cX0_mentionIfOne 36 = .ok (.iconst 1, 1) := by decide +kernel
theorem dX0_mentionIfOne_37 : decode cX0_mentionIfOne 37 = .ok (.iadd, 1) := by decide +kernel
theorem dX0_mentionIfOne_38 : decode cX0_mentionIfOne 38 = .ok (.putfield 34, 3) := by decide +kernel
theorem dX0_mentionIfOne_41 : decode cX0_mentionIfOne 41 = .ok (.return_, 1) := by decide +kernel
theorem dX0_keepStatement_0 : decode cX0_keepStatement 0 = .ok (.iload_n 2, 1) := by decide +kernel
theorem dX0_keepStatement_1 : decode cX0_keepStatement 1 = .ok (.ifCond .eq 16, 3) := by decide +kernel
theorem dX0_keepStatement_4 : decode cX0_keepStatement 4 = .ok (.aload_n 0, 1) := by decide +kernel
theorem dX0_keepStatement_5 : decode cX0_keepStatement 5 = .ok (.dup, 1) := by decide +kernel
theorem dX0_keepStatement_6 : decode cX0_keepStatement 6 = .ok (.getfield 46, 3) := by decide +kernel
theorem dX0_keepStatement_9 : decode cX0_keepStatement 9 = .ok (.iload_n 1, 1) := by decide +kernel
theorem dX0_keepStatement_10 : decode cX0_keepStatement 10 = .ok (.ior, 1) := by decide +kernel
theorem dX0_keepStatement_11 : decode cX0_keepStatement 11 = .ok (.putfield 46, 3) := by decide +kernel
theorem dX0_keepStatement_14 : decode cX0_keepStatement 14 = .ok (.goto 13, 3) := by decide +kernel
theorem dX0_keepStatement_17 : decode cX0_keepStatement 17 = .ok (.aload_n 0, 1) := by decide +kernel
theorem dX0_keepStatement_18 : decode cX0_keepStatement 18 = .ok (.dup, 1) := by decide +kernel
theorem dX0_keepStatement_19 : decode cX0_keepStatement 19 = .ok (.getfield 49, 3) := by decide +kernel
theorem dX0_keepStatement_22 : decode cX0_keepStatement 22 = .ok (.iload_n 1, 1) := by decide +kernel
theorem dX0_keepStatement_23 : decode cX0_keepStatement 23 = .ok (.ior, 1) := by decide +kernel
theorem dX0_keepStatement_24 : decode cX0_keepStatement 24 = .ok (.putfield 49, 3) := by decide +kernel
theorem dX0_keepStatement_27 : decode cX0_keepStatement 27 = .ok (.aload_n 0, 1) := by decide +kernel
theorem dX0_keepStatement_28 : decode cX0_keepStatement 28 = .ok (.dup, 1) := by decide +kernel
theorem dX0_keepStatement_29 : decode cX0_keepStatement 29 = .ok (.getfield 22, 3) := by decide +kernel
theorem dX0_keepStatement_32 : decode cX0_keepStatement 32 = .ok (.iconst 1, 1) := by decide +kernel
theorem dX0_keepStatement_33 : decode cX0_keepStatement 33 = .ok (.iadd, 1) := by decide +kernel
theorem dX0_keepStatement_34 : decode cX0_keepStatement 34 = .ok (.putfield 22, 3) := by decide +kernel
theorem dX0_keepStatement_37 : decode cX0_keepStatement 37 = .ok (.return_, 1) := by decide +kernel
theorem dX0_owning_0 : decode cX0_owning 0 = .ok (.aload_n 0, 1) := by decide +kernel
theorem dX0_owning_1 : decode cX0_owning 1 = .ok (.getfield 49, 3) := by decide +kernel
theorem dX0_owning_4 : decode cX0_owning 4 = .ok (.iload_n 1, 1) := by decide +kernel
theorem dX0_owning_5 : decode cX0_owning 5 = .ok (.ishr, 1) := by decide +kernel
theorem dX0_owning_6 : decode cX0_owning 6 = .ok (.iconst 1, 1) := by decide +kernel
theorem dX0_owning_7 : decode cX0_owning 7 = .ok (.iand, 1) := by decide +kernel
theorem dX0_owning_8 : decode cX0_owning 8 = .ok (.ifCond .eq 7, 3) := by decide +kernel
theorem dX0_owning_11 : decode cX0_owning 11 = .ok (.iconst 1, 1) := by decide +kernel
theorem dX0_owning_12 : decode cX0_owning 12 = .ok (.goto 4, 3) := by decide +kernel
theorem dX0_owning_15 : decode cX0_owning 15 = .ok (.iconst 0, 1) := by decide +kernel
theorem dX0_owning_16 : decode cX0_owning 16 = .ok (.istore_n 2, 1) := by decide +kernel
theorem dX0_owning_17 : decode cX0_owning 17 = .ok (.aload_n 0, 1) := by decide +kernel
theorem dX0_owning_18 : decode cX0_owning 18 = .ok (.getfield 46, 3) := by decide +kernel
theorem dX0_owning_21 : decode cX0_owning 21 = .ok (.iload_n 1, 1) := by decide +kernel
theorem dX0_owning_22 : decode cX0_owning 22 = .ok (.ishr, 1) := by decide +kernel
theorem dX0_owning_23 : decode cX0_owning 23 = .ok (.iconst 1, 1) := by decide +kernel
theorem dX0_owning_24 : decode cX0_owning 24 = .ok (.iand, 1) := by decide +kernel
theorem dX0_owning_25 : decode cX0_owning 25 = .ok (.ifCond .eq 7, 3) := by decide +kernel
theorem dX0_owning_28 : decode cX0_owning 28 = .ok (.iconst 1, 1) := by decide +kernel
theorem dX0_owning_29 : decode cX0_owning 29 = .ok (.goto 4, 3) := by decide +kernel
theorem dX0_owning_32 : decode cX0_owning 32 = .ok (.iconst 0, 1) := by decide +kernel
theorem dX0_owning_33 : decode cX0_owning 33 = .ok (.istore_n 3, 1) := by decide +kernel
theorem dX0_owning_34 : decode cX0_owning 34 = .ok (.iload_n 2, 1) := by decide +kernel
theorem dX0_owning_35 : decode cX0_owning 35 = .ok (.ifCond .eq 13, 3) := by decide +kernel
theorem dX0_owning_38 : decode cX0_owning 38 = .ok (.iload_n 3, 1) := by decide +kernel
theorem dX0_owning_39 : decode cX0_owning 39 = .ok (.ifCond .eq 7, 3) := by decide +kernel
theorem dX0_owning_42 : decode cX0_owning 42 = .ok (.iconst 3, 1) := by decide +kernel
theorem dX0_owning_43 : decode cX0_owning 43 = .ok (.goto 4, 3) := by decide +kernel
theorem dX0_owning_46 : decode cX0_owning 46 = .ok (.iconst 1, 1) := by decide +kernel
theorem dX0_owning_47 : decode cX0_owning 47 = .ok (.ireturn, 1) := by decide +kernel
theorem dX0_owning_48 : decode cX0_owning 48 = .ok (.iload_n 3, 1) := by decide +kernel
theorem dX0_owning_49 : decode cX0_owning 49 = .ok (.ifCond .eq 7, 3) := by decide +kernel
theorem dX0_owning_52 : decode cX0_owning 52 = .ok (.iconst 0, 1) := by decide +kernel
theorem dX0_owning_53 : decode cX0_owning 53 = .ok (.goto 4, 3) := by decide +kernel
theorem dX0_owning_56 : decode cX0_owning 56 = .ok (.iconst 2, 1) := by decide +kernel
theorem dX0_owning_57 : decode cX0_owning 57 = .ok (.ireturn, 1) := by decide +kernel
theorem dX0_keepJudged_0 : decode cX0_keepJudged 0 = .ok (.iload_n 1, 1) := by decide +kernel
theorem dX0_keepJudged_1 : decode cX0_keepJudged 1 = .ok (.ifCond .ne 29, 3) := by decide +kernel
theorem dX0_keepJudged_4 : decode cX0_keepJudged 4 = .ok (.aload_n 0, 1) := by decide +kernel
theorem dX0_keepJudged_5 : decode cX0_keepJudged 5 = .ok (.dup, 1) := by decide +kernel
theorem dX0_keepJudged_6 : decode cX0_keepJudged 6 = .ok (.getfield 28, 3) := by decide +kernel
theorem dX0_keepJudged_9 : decode cX0_keepJudged 9 = .ok (.iconst 1, 1) := by decide +kernel
theorem dX0_keepJudged_10 : decode cX0_keepJudged 10 = .ok (.iadd, 1) := by decide +kernel
theorem dX0_keepJudged_11 : decode cX0_keepJudged 11 = .ok (.putfield 28, 3) := by decide +kernel
theorem dX0_keepJudged_14 : decode cX0_keepJudged 14 = .ok (.aload_n 0, 1) := by decide +kernel
theorem dX0_keepJudged_15 : decode cX0_keepJudged 15 = .ok (.getfield 15, 3) := by decide +kernel
theorem dX0_keepJudged_18 : decode cX0_keepJudged 18 = .ok (.iconst (-1), 1) := by decide +kernel
theorem dX0_keepJudged_19 : decode cX0_keepJudged 19 = .ok (.if_icmp .ne 11, 3) := by decide +kernel
theorem dX0_keepJudged_22 : decode cX0_keepJudged 22 = .ok (.aload_n 0, 1) := by decide +kernel
theorem dX0_keepJudged_23 : decode cX0_keepJudged 23 = .ok (.aload_n 0, 1) := by decide +kernel
theorem dX0_keepJudged_24 : decode cX0_keepJudged 24 = .ok (.getfield 25, 3) := by decide +kernel
theorem dX0_keepJudged_27 : decode cX0_keepJudged 27 = .ok (.putfield 15, 3) := by decide +kernel
theorem dX0_keepJudged_30 : decode cX0_keepJudged 30 = .ok (.aload_n 0, 1) := by decide +kernel
theorem dX0_keepJudged_31 : decode cX0_keepJudged 31 = .ok (.dup, 1) := by decide +kernel
theorem dX0_keepJudged_32 : decode cX0_keepJudged 32 = .ok (.getfield 25, 3) := by decide +kernel
theorem dX0_keepJudged_35 : decode cX0_keepJudged 35 = .ok (.iconst 1, 1) := by decide +kernel
theorem dX0_keepJudged_36 : decode cX0_keepJudged 36 = .ok (.iadd, 1) := by decide +kernel
theorem dX0_keepJudged_37 : decode cX0_keepJudged 37 = .ok (.putfield 25, 3) := by decide +kernel
theorem dX0_keepJudged_40 : decode cX0_keepJudged 40 = .ok (.return_, 1) := by decide +kernel
theorem dX0_keepDone_0 : decode cX0_keepDone 0 = .ok (.aload_n 0, 1) := by decide +kernel
theorem dX0_keepDone_1 : decode cX0_keepDone 1 = .ok (.dup, 1) := by decide +kernel
theorem dX0_keepDone_2 : decode cX0_keepDone 2 = .ok (.getfield 31, 3) := by decide +kernel
theorem dX0_keepDone_5 : decode cX0_keepDone 5 = .ok (.iconst 1, 1) := by decide +kernel
theorem dX0_keepDone_6 : decode cX0_keepDone 6 = .ok (.iadd, 1) := by decide +kernel
theorem dX0_keepDone_7 : decode cX0_keepDone 7 = .ok (.putfield 31, 3) := by decide +kernel
theorem dX0_keepDone_10 : decode cX0_keepDone 10 = .ok (.iload_n 1, 1) := by decide +kernel
theorem dX0_keepDone_11 : decode cX0_keepDone 11 = .ok (.iconst (-1), 1) := by decide +kernel
theorem dX0_keepDone_12 : decode cX0_keepDone 12 = .ok (.if_icmp .eq 8, 3) := by decide +kernel
theorem dX0_keepDone_15 : decode cX0_keepDone 15 = .ok (.aload_n 0, 1) := by decide +kernel
theorem dX0_keepDone_16 : decode cX0_keepDone 16 = .ok (.iload_n 1, 1) := by decide +kernel
theorem dX0_keepDone_17 : decode cX0_keepDone 17 = .ok (.putfield 19, 3) := by decide +kernel
theorem dX0_keepDone_20 : decode cX0_keepDone 20 = .ok (.return_, 1) := by decide +kernel
theorem dX1_init_0 : decode cX1_init 0 = .ok (.aload_n 0, 1) := by decide +kernel
theorem dX1_init_1 : decode cX1_init 1 = .ok (.invokespecial 3, 3) := by decide +kernel
theorem dX1_init_4 : decode cX1_init 4 = .ok (.aload_n 0, 1) := by decide +kernel
theorem dX1_init_5 : decode cX1_init 5 = .ok (.bipush 7, 2) := by decide +kernel
theorem dX1_init_7 : decode cX1_init 7 = .ok (.newarray .int, 2) := by decide +kernel
theorem dX1_init_9 : decode cX1_init 9 = .ok (.putfield 9, 3) := by decide +kernel
theorem dX1_init_12 : decode cX1_init 12 = .ok (.aload_n 0, 1) := by decide +kernel
theorem dX1_init_13 : decode cX1_init 13 = .ok (.bipush 7, 2) := by decide +kernel
theorem dX1_init_15 : decode cX1_init 15 = .ok (.newarray .int, 2) := by decide +kernel
theorem dX1_init_17 : decode cX1_init 17 = .ok (.putfield 15, 3) := by decide +kernel
theorem dX1_init_20 : decode cX1_init 20 = .ok (.aload_n 0, 1) := by decide +kernel
theorem dX1_init_21 : decode cX1_init 21 = .ok (.bipush 7, 2) := by decide +kernel
theorem dX1_init_23 : decode cX1_init 23 = .ok (.newarray .int, 2) := by decide +kernel
theorem dX1_init_25 : decode cX1_init 25 = .ok (.putfield 18, 3) := by decide +kernel
theorem dX1_init_28 : decode cX1_init 28 = .ok (.aload_n 0, 1) := by decide +kernel
theorem dX1_init_29 : decode cX1_init 29 = .ok (.bipush 6, 2) := by decide +kernel
theorem dX1_init_31 : decode cX1_init 31 = .ok (.newarray .int, 2) := by decide +kernel
theorem dX1_init_33 : decode cX1_init 33 = .ok (.putfield 21, 3) := by decide +kernel
theorem dX1_init_36 : decode cX1_init 36 = .ok (.return_, 1) := by decide +kernel
theorem dX1_nps_0 : decode cX1_nps 0 = .ok (.aload_n 0, 1) := by decide +kernel
theorem dX1_nps_1 : decode cX1_nps 1 = .ok (.getfield 24, 3) := by decide +kernel
theorem dX1_nps_4 : decode cX1_nps 4 = .ok (.ireturn, 1) := by decide +kernel
theorem dX1_onwards_0 : decode cX1_onwards 0 = .ok (.aload_n 0, 1) := by decide +kernel
theorem dX1_onwards_1 : decode cX1_onwards 1 = .ok (.getfield 28, 3) := by decide +kernel
theorem dX1_onwards_4 : decode cX1_onwards 4 = .ok (.ireturn, 1) := by decide +kernel
theorem dX1_clear_0 : decode cX1_clear 0 = .ok (.aload_n 0, 1) := by decide +kernel
theorem dX1_clear_1 : decode cX1_clear 1 = .ok (.iconst 0, 1) := by decide +kernel
theorem dX1_clear_2 : decode cX1_clear 2 = .ok (.putfield 24, 3) := by decide +kernel
theorem dX1_clear_5 : decode cX1_clear 5 = .ok (.aload_n 0, 1) := by decide +kernel
theorem dX1_clear_6 : decode cX1_clear 6 = .ok (.iconst 0, 1) := by decide +kernel
theorem dX1_clear_7 : decode cX1_clear 7 = .ok (.putfield 28, 3) := by decide +kernel
theorem dX1_clear_10 : decode cX1_clear 10 = .ok (.return_, 1) := by decide +kernel
theorem dX1_addNp_0 : decode cX1_addNp 0 = .ok (.aload_n 0, 1) := by decide +kernel
theorem dX1_addNp_1 : decode cX1_addNp 1 = .ok (.getfield 24, 3) := by decide +kernel
theorem dX1_addNp_4 : decode cX1_addNp 4 = .ok (.bipush 7, 2) := by decide +kernel
theorem dX1_addNp_6 : decode cX1_addNp 6 = .ok (.if_icmp .ge 43, 3) := by decide +kernel
theorem dX1_addNp_9 : decode cX1_addNp 9 = .ok (.aload_n 0, 1) := by decide +kernel
theorem dX1_addNp_10 : decode cX1_addNp 10 = .ok (.getfield 9, 3) := by decide +kernel
theorem dX1_addNp_13 : decode cX1_addNp 13 = .ok (.aload_n 0, 1) := by decide +kernel
theorem dX1_addNp_14 : decode cX1_addNp 14 = .ok (.getfield 24, 3) := by decide +kernel
theorem dX1_addNp_17 : decode cX1_addNp 17 = .ok (.iload_n 1, 1) := by decide +kernel
theorem dX1_addNp_18 : decode cX1_addNp 18 = .ok (.iastore, 1) := by decide +kernel
theorem dX1_addNp_19 : decode cX1_addNp 19 = .ok (.aload_n 0, 1) := by decide +kernel
theorem dX1_addNp_20 : decode cX1_addNp 20 = .ok (.getfield 15, 3) := by decide +kernel
theorem dX1_addNp_23 : decode cX1_addNp 23 = .ok (.aload_n 0, 1) := by decide +kernel
theorem dX1_addNp_24 : decode cX1_addNp 24 = .ok (.getfield 24, 3) := by decide +kernel
theorem dX1_addNp_27 : decode cX1_addNp 27 = .ok (.iconst 0, 1) := by decide +kernel
theorem dX1_addNp_28 : decode cX1_addNp 28 = .ok (.iastore, 1) := by decide +kernel
theorem dX1_addNp_29 : decode cX1_addNp 29 = .ok (.aload_n 0, 1) := by decide +kernel
theorem dX1_addNp_30 : decode cX1_addNp 30 = .ok (.getfield 18, 3) := by decide +kernel
theorem dX1_addNp_33 : decode cX1_addNp 33 = .ok (.aload_n 0, 1) := by decide +kernel
theorem dX1_addNp_34 : decode cX1_addNp 34 = .ok (.getfield 24, 3) := by decide +kernel
theorem dX1_addNp_37 : decode cX1_addNp 37 = .ok (.iconst (-1), 1) := by decide +kernel
theorem dX1_addNp_38 : decode cX1_addNp 38 = .ok (.iastore, 1) := by decide +kernel
theorem dX1_addNp_39 : decode cX1_addNp 39 = .ok (.aload_n 0, 1) := by decide +kernel
theorem dX1_addNp_40 : decode cX1_addNp 40 = .ok (.dup, 1) := by decide +kernel
theorem dX1_addNp_41 : decode cX1_addNp 41 = .ok (.getfield 24, 3) := by decide +kernel
theorem dX1_addNp_44 : decode cX1_addNp 44 = .ok (.iconst 1, 1) := by decide +kernel
theorem dX1_addNp_45 : decode cX1_addNp 45 = .ok (.iadd, 1) := by decide +kernel
theorem dX1_addNp_46 : decode cX1_addNp 46 = .ok (.putfield 24, 3) := by decide +kernel
theorem dX1_addNp_49 : decode cX1_addNp 49 = .ok (.return_, 1) := by decide +kernel
theorem dX1_addAdjective_0 : decode cX1_addAdjective 0 = .ok (.aload_n 0, 1) := by decide +kernel
theorem dX1_addAdjective_1 : decode cX1_addAdjective 1 = .ok (.getfield 24, 3) := by decide +kernel
theorem dX1_addAdjective_4 : decode cX1_addAdjective 4 = .ok (.ifCond .le 20, 3) := by decide +kernel
theorem dX1_addAdjective_7 : decode cX1_addAdjective 7 = .ok (.aload_n 0, 1) := by decide +kernel
theorem dX1_addAdjective_8 : decode cX1_addAdjective 8 = .ok (.getfield 15, 3) := by decide +kernel
theorem dX1_addAdjective_11 : decode cX1_addAdjective 11 = .ok (.aload_n 0, 1) := by decide +kernel
theorem dX1_addAdjective_12 : decode cX1_addAdjective 12 = .ok (.getfield 24, 3) := by decide +kernel
theorem dX1_addAdjective_15 : decode cX1_addAdjective 15 = .ok (.iconst 1, 1) := by decide +kernel
theorem dX1_addAdjective_16 : decode cX1_addAdjective 16 = .ok (.isub, 1) := by decide +kernel
theorem dX1_addAdjective_17 : decode cX1_addAdjective 17 = .ok (.dup2, 1) := by decide +kernel
theorem dX1_addAdjective_18 : decode cX1_addAdjective 18 = .ok (.iaload, 1) := by decide +kernel
theorem dX1_addAdjective_19 : decode cX1_addAdjective 19 = .ok (.iconst 1, 1) := by decide +kernel
theorem dX1_addAdjective_20 : decode cX1_addAdjective 20 = .ok (.iload_n 1, 1) := by decide +kernel
theorem dX1_addAdjective_21 : decode cX1_addAdjective 21 = .ok (.ishl, 1) := by decide +kernel
theorem dX1_addAdjective_22 : decode cX1_addAdjective 22 = .ok (.ior, 1) := by decide +kernel
theorem dX1_addAdjective_23 : decode cX1_addAdjective 23 = .ok (.iastore, 1) := by decide +kernel
theorem dX1_addAdjective_24 : decode cX1_addAdjective 24 = .ok (.return_, 1) := by decide +kernel
theorem dX1_setNoun_0 : decode cX1_setNoun 0 = .ok (.aload_n 0, 1) := by decide +kernel
theorem dX1_setNoun_1 : decode cX1_setNoun 1 = .ok (.getfield 24, 3) := by decide +kernel
theorem dX1_setNoun_4 : decode cX1_setNoun 4 = .ok (.ifCond .le 15, 3) := by decide +kernel
theorem dX1_setNoun_7 : decode cX1_setNoun 7 = .ok (.aload_n 0, 1) := by decide +kernel
theorem dX1_setNoun_8 : decode cX1_setNoun 8 = .ok (.getfield 18, 3) := by decide +kernel
theorem dX1_setNoun_11 : decode cX1_setNoun 11 = .ok (.aload_n 0, 1) := by decide +kernel
theorem dX1_setNoun_12 : decode cX1_setNoun 12 = .ok (.getfield 24, 3) := by decide +kernel
theorem dX1_setNoun_15 : decode cX1_setNoun 15 = .ok (.iconst 1, 1) := by decide +kernel
theorem dX1_setNoun_16 : decode cX1_setNoun 16 = .ok (.isub, 1) := by decide +kernel
theorem dX1_setNoun_17 : decode cX1_setNoun 17 = .ok (.iload_n 1, 1) := by decide +kernel
theorem dX1_setNoun_18 : decode cX1_setNoun 18 = .ok (.iastore, 1) := by decide +kernel
theorem dX1_setNoun_19 : decode cX1_setNoun 19 = .ok (.return_, 1) := by decide +kernel
theorem dX1_addOnward_0 : decode cX1_addOnward 0 = .ok (.aload_n 0, 1) := by decide +kernel
theorem dX1_addOnward_1 : decode cX1_addOnward 1 = .ok (.getfield 28, 3) := by decide +kernel
theorem dX1_addOnward_4 : decode cX1_addOnward 4 = .ok (.bipush 6, 2) := by decide +kernel
theorem dX1_addOnward_6 : decode cX1_addOnward 6 = .ok (.if_icmp .ge 23, 3) := by decide +kernel
theorem dX1_addOnward_9 : decode cX1_addOnward 9 = .ok (.aload_n 0, 1) := by decide +kernel
theorem dX1_addOnward_10 : decode cX1_addOnward 10 = .ok (.getfield 21, 3) := by decide +kernel
theorem dX1_addOnward_13 : decode cX1_addOnward 13 = .ok (.aload_n 0, 1) := by decide +kernel
theorem dX1_addOnward_14 : decode cX1_addOnward 14 = .ok (.getfield 28, 3) := by decide +kernel
theorem dX1_addOnward_17 : decode cX1_addOnward 17 = .ok (.iload_n 1, 1) := by decide +kernel
theorem dX1_addOnward_18 : decode cX1_addOnward 18 = .ok (.iastore, 1) := by decide +kernel
theorem dX1_addOnward_19 : decode cX1_addOnward 19 = .ok (.aload_n 0, 1) := by decide +kernel
theorem dX1_addOnward_20 : decode cX1_addOnward 20 = .ok (.dup, 1) := by decide +kernel
theorem dX1_addOnward_21 : decode cX1_addOnward 21 = .ok (.getfield 28, 3) := by decide +kernel
theorem dX1_addOnward_24 : decode cX1_addOnward 24 = .ok (.iconst 1, 1) := by decide +kernel
theorem dX1_addOnward_25 : decode cX1_addOnward 25 = .ok (.iadd, 1) := by decide +kernel
theorem dX1_addOnward_26 : decode cX1_addOnward 26 = .ok (.putfield 28, 3) := by decide +kernel
theorem dX1_addOnward_29 : decode cX1_addOnward 29 = .ok (.return_, 1) := by decide +kernel
theorem dX1_kind_0 : decode cX1_kind 0 = .ok (.iload_n 1, 1) := by decide +kernel
theorem dX1_kind_1 : decode cX1_kind 1 = .ok (.ifCond .lt 20, 3) := by decide +kernel
theorem dX1_kind_4 : decode cX1_kind 4 = .ok (.iload_n 1, 1) := by decide +kernel
theorem dX1_kind_5 : decode cX1_kind 5 = .ok (.aload_n 0, 1) := by decide +kernel
theorem dX1_kind_6 : decode cX1_kind 6 = .ok (.getfield 24, 3) := by decide +kernel
theorem dX1_kind_9 : decode cX1_kind 9 = .ok (.if_icmp .ge 12, 3) := by decide +kernel
theorem dX1_kind_12 : decode cX1_kind 12 = .ok (.aload_n 0, 1) := by decide +kernel
theorem dX1_kind_13 : decode cX1_kind 13 = .ok (.getfield 9, 3) := by decide +kernel
theorem dX1_kind_16 : decode cX1_kind 16 = .ok (.iload_n 1, 1) := by decide +kernel
theorem dX1_kind_17 : decode cX1_kind 17 = .ok (.iaload, 1) := by decide +kernel
theorem dX1_kind_18 : decode cX1_kind 18 = .ok (.goto 4, 3) := by decide +kernel
theorem dX1_kind_21 : decode cX1_kind 21 = .ok (.iconst (-1), 1) := by decide +kernel
theorem dX1_kind_22 : decode cX1_kind 22 = .ok (.ireturn, 1) := by decide +kernel
theorem dX1_hasLook_0 : decode cX1_hasLook 0 = .ok (.iload_n 1, 1) := by decide +kernel
theorem dX1_hasLook_1 : decode cX1_hasLook 1 = .ok (.ifCond .lt 28, 3) := by decide +kernel
theorem dX1_hasLook_4 : decode cX1_hasLook 4 = .ok (.iload_n 1, 1) := by decide +kernel
theorem dX1_hasLook_5 : decode cX1_hasLook 5 = .ok (.aload_n 0, 1) := by decide +kernel
theorem dX1_hasLook_6 : decode cX1_hasLook 6 = .ok (.getfield 24, 3) := by decide +kernel
theorem dX1_hasLook_9 : decode cX1_hasLook 9 = .ok (.if_icmp .ge 20, 3) := by decide +kernel
theorem dX1_hasLook_12 : decode cX1_hasLook 12 = .ok (.aload_n 0, 1) := by decide +kernel
theorem dX1_hasLook_13 : decode cX1_hasLook 13 = .ok (.getfield 15, 3) := by decide +kernel
theorem dX1_hasLook_16 : decode cX1_hasLook 16 = .ok (.iload_n 1, 1) := by decide +kernel
theorem dX1_hasLook_17 : decode cX1_hasLook 17 = .ok (.iaload, 1) := by decide +kernel
theorem dX1_hasLook_18 : decode cX1_hasLook 18 = .ok (.iload_n 2, 1) := by decide +kernel
theorem dX1_hasLook_19 : decode cX1_hasLook 19 = .ok (.ishr, 1) := by decide +kernel
theorem dX1_hasLook_20 : decode cX1_hasLook 20 = .ok (.iconst 1, 1) := by decide +kernel
theorem dX1_hasLook_21 : decode cX1_hasLook 21 = .ok (.iand, 1) := by decide +kernel
theorem dX1_hasLook_22 : decode cX1_hasLook 22 = .ok (.ifCond .eq 7, 3) := by decide +kernel
theorem dX1_hasLook_25 : decode cX1_hasLook 25 = .ok (.iconst 1, 1) := by decide +kernel
theorem dX1_hasLook_26 : decode cX1_hasLook 26 = .ok (.goto 4, 3) := by decide +kernel
theorem dX1_hasLook_29 : decode cX1_hasLook 29 = .ok (.iconst 0, 1) := by decide +kernel
theorem dX1_hasLook_30 : decode cX1_hasLook 30 = .ok (.ireturn, 1) := by decide +kernel
theorem dX1_nounOf_0 : decode cX1_nounOf 0 = .ok (.iload_n 1, 1) := by decide +kernel
theorem dX1_nounOf_1 : decode cX1_nounOf 1 = .ok (.ifCond .lt 20, 3) := by decide +kernel
theorem dX1_nounOf_4 : decode cX1_nounOf 4 = .ok (.iload_n 1, 1) := by decide +kernel
theorem dX1_nounOf_5 : decode cX1_nounOf 5 = .ok (.aload_n 0, 1) := by decide +kernel
theorem dX1_nounOf_6 : decode cX1_nounOf 6 = .ok (.getfield 24, 3) := by decide +kernel
theorem dX1_nounOf_9 : decode cX1_nounOf 9 = .ok (.if_icmp .ge 12, 3) := by decide +kernel
theorem dX1_nounOf_12 : decode cX1_nounOf 12 = .ok (.aload_n 0, 1) := by decide +kernel
theorem dX1_nounOf_13 : decode cX1_nounOf 13 = .ok (.getfield 18, 3) := by decide +kernel
theorem dX1_nounOf_16 : decode cX1_nounOf 16 = .ok (.iload_n 1, 1) := by decide +kernel
theorem dX1_nounOf_17 : decode cX1_nounOf 17 = .ok (.iaload, 1) := by decide +kernel
theorem dX1_nounOf_18 : decode cX1_nounOf 18 = .ok (.goto 4, 3) := by decide +kernel
theorem dX1_nounOf_21 : decode cX1_nounOf 21 = .ok (.iconst (-1), 1) := by decide +kernel
theorem dX1_nounOf_22 : decode cX1_nounOf 22 = .ok (.ireturn, 1) := by decide +kernel
theorem dX1_relation_0 : decode cX1_relation 0 = .ok (.iload_n 1, 1) := by decide +kernel
theorem dX1_relation_1 : decode cX1_relation 1 = .ok (.ifCond .lt 20, 3) := by decide +kernel
theorem dX1_relation_4 : decode cX1_relation 4 = .ok (.iload_n 1, 1) := by decide +kernel
theorem dX1_relation_5 : decode cX1_relation 5 = .ok (.aload_n 0, 1) := by decide +kernel
theorem dX1_relation_6 : decode cX1_relation 6 = .ok (.getfield 28, 3) := by decide +kernel
theorem dX1_relation_9 : decode cX1_relation 9 = .ok (.if_icmp .ge 12, 3) := by decide +kernel
theorem dX1_relation_12 : decode cX1_relation 12 = .ok (.aload_n 0, 1) := by decide +kernel
theorem dX1_relation_13 : decode cX1_relation 13 = .ok (.getfield 21, 3) := by decide +kernel
theorem dX1_relation_16 : decode cX1_relation 16 = .ok (.iload_n 1, 1) := by decide +kernel
theorem dX1_relation_17 : decode cX1_relation 17 = .ok (.iaload, 1) := by decide +kernel
theorem dX1_relation_18 : decode cX1_relation 18 = .ok (.goto 4, 3) := by decide +kernel
theorem dX1_relation_21 : decode cX1_relation 21 = .ok (.iconst (-1), 1) := by decide +kernel
theorem dX1_relation_22 : decode cX1_relation 22 = .ok (.ireturn, 1) := by decide +kernel
theorem dX1_lastNoun_0 : decode cX1_lastNoun 0 = .ok (.aload_n 0, 1) := by decide +kernel
theorem dX1_lastNoun_1 : decode cX1_lastNoun 1 = .ok (.getfield 24, 3) := by decide +kernel
theorem dX1_lastNoun_4 : decode cX1_lastNoun 4 = .ok (.iconst 1, 1) := by decide +kernel
theorem dX1_lastNoun_5 : decode cX1_lastNoun 5 = .ok (.isub, 1) := by decide +kernel
theorem dX1_lastNoun_6 : decode cX1_lastNoun 6 = .ok (.istore_n 1, 1) := by decide +kernel
theorem dX1_lastNoun_7 : decode cX1_lastNoun 7 = .ok (.iload_n 1, 1) := by decide +kernel
theorem dX1_lastNoun_8 : decode cX1_lastNoun 8 = .ok (.ifCond .lt 36, 3) := by decide +kernel
theorem dX1_lastNoun_11 : decode cX1_lastNoun 11 = .ok (.aload_n 0, 1) := by decide +kernel
theorem dX1_lastNoun_12 : decode cX1_lastNoun 12 = .ok (.getfield 18, 3) := by decide +kernel
theorem dX1_lastNoun_15 : decode cX1_lastNoun 15 = .ok (.iload_n 1, 1) := by decide +kernel
theorem dX1_lastNoun_16 : decode cX1_lastNoun 16 = .ok (.iaload, 1) := by decide +kernel
theorem dX1_lastNoun_17 : decode cX1_lastNoun 17 = .ok (.iconst (-1), 1) := by decide +kernel
theorem dX1_lastNoun_18 : decode cX1_lastNoun 18 = .ok (.if_icmp .eq 20, 3) := by decide +kernel
theorem dX1_lastNoun_21 : decode cX1_lastNoun 21 = .ok (.aload_n 0, 1) := by decide +kernel
theorem dX1_lastNoun_22 : decode cX1_lastNoun 22 = .ok (.getfield 18, 3) := by decide +kernel
theorem dX1_lastNoun_25 : decode cX1_lastNoun 25 = .ok (.iload_n 1, 1) := by decide +kernel
theorem dX1_lastNoun_26 : decode cX1_lastNoun 26 = .ok (.iaload, 1) := by decide +kernel
theorem dX1_lastNoun_27 : decode cX1_lastNoun 27 = .ok (.iconst 4, 1) := by decide +kernel
theorem dX1_lastNoun_28 : decode cX1_lastNoun 28 = .ok (.if_icmp .eq 10, 3) := by decide +kernel
theorem dX1_lastNoun_31 : decode cX1_lastNoun 31 = .ok (.aload_n 0, 1) := by decide +kernel
theorem dX1_lastNoun_32 : decode cX1_lastNoun 32 = .ok (.getfield 18, 3) := by decide +kernel
theorem dX1_lastNoun_35 : decode cX1_lastNoun 35 = .ok (.iload_n 1, 1) := by decide +kernel
theorem dX1_lastNoun_36 : decode cX1_lastNoun 36 = .ok (.iaload, 1) := by decide +kernel
theorem dX1_lastNoun_37 : decode cX1_lastNoun 37 = .ok (.ireturn, 1) := by decide +kernel
theorem dX1_lastNoun_38 : decode cX1_lastNoun 38 = .ok (.iinc 1 (-1), 3) := by decide +kernel
theorem dX1_lastNoun_41 : decode cX1_lastNoun 41 = .ok (.goto (-34), 3) := by decide +kernel
theorem dX1_lastNoun_44 : decode cX1_lastNoun 44 = .ok (.iconst (-1), 1) := by decide +kernel
theorem dX1_lastNoun_45 : decode cX1_lastNoun 45 = .ok (.ireturn, 1) := by decide +kernel
theorem dX1_copy_0 : decode cX1_copy 0 = .ok (.new 10, 3) := by decide +kernel
theorem dX1_copy_3 : decode cX1_copy 3 = .ok (.dup, 1) := by decide +kernel
theorem dX1_copy_4 : decode cX1_copy 4 = .ok (.invokespecial 31, 3) := by decide +kernel
theorem dX1_copy_7 : decode cX1_copy 7 = .ok (.astore_n 1, 1) := by decide +kernel
theorem dX1_copy_8 : decode cX1_copy 8 = .ok (.aload_n 0, 1) := by decide +kernel
theorem dX1_copy_9 : decode cX1_copy 9 = .ok (.getfield 9, 3) := by decide +kernel
theorem dX1_copy_12 : decode cX1_copy 12 = .ok (.iconst 0, 1) := by decide +kernel
theorem dX1_copy_13 : decode cX1_copy 13 = .ok (.aload_n 1, 1) := by decide +kernel
theorem dX1_copy_14 : decode cX1_copy 14 = .ok (.getfield 9, 3) := by decide +kernel
theorem dX1_copy_17 : decode cX1_copy 17 = .ok (.iconst 0, 1) := by decide +kernel
theorem dX1_copy_18 : decode cX1_copy 18 = .ok (.bipush 7, 2) := by decide +kernel
theorem dX1_copy_20 : decode cX1_copy 20 = .ok (.invokestatic 32, 3) := by decide +kernel
theorem dX1_copy_23 : decode cX1_copy 23 = .ok (.aload_n 0, 1) := by decide +kernel
theorem dX1_copy_24 : decode cX1_copy 24 = .ok (.getfield 15, 3) := by decide +kernel
theorem dX1_copy_27 : decode cX1_copy 27 = .ok (.iconst 0, 1) := by decide +kernel
theorem dX1_copy_28 : decode cX1_copy 28 = .ok (.aload_n 1, 1) := by decide +kernel
theorem dX1_copy_29 : decode cX1_copy 29 = .ok (.getfield 15, 3) := by decide +kernel
theorem dX1_copy_32 : decode cX1_copy 32 = .ok (.iconst 0, 1) := by decide +kernel
theorem dX1_copy_33 : decode cX1_copy 33 = .ok (.bipush 7, 2) := by decide +kernel
theorem dX1_copy_35 : decode cX1_copy 35 = .ok (.invokestatic 32, 3) := by decide +kernel
theorem dX1_copy_38 : decode cX1_copy 38 = .ok (.aload_n 0, 1) := by decide +kernel
theorem dX1_copy_39 : decode cX1_copy 39 = .ok (.getfield 18, 3) := by decide +kernel
theorem dX1_copy_42 : decode cX1_copy 42 = .ok (.iconst 0, 1) := by decide +kernel
theorem dX1_copy_43 : decode cX1_copy 43 = .ok (.aload_n 1, 1) := by decide +kernel
theorem dX1_copy_44 : decode cX1_copy 44 = .ok (.getfield 18, 3) := by decide +kernel
theorem dX1_copy_47 : decode cX1_copy 47 = .ok (.iconst 0, 1) := by decide +kernel
theorem dX1_copy_48 : decode cX1_copy 48 = .ok (.bipush 7, 2) := by decide +kernel
theorem dX1_copy_50 : decode cX1_copy 50 = .ok (.invokestatic 32, 3) := by decide +kernel
theorem dX1_copy_53 : decode cX1_copy 53 = .ok (.aload_n 0, 1) := by decide +kernel
theorem dX1_copy_54 : decode cX1_copy 54 = .ok (.getfield 21, 3) := by decide +kernel
theorem dX1_copy_57 : decode cX1_copy 57 = .ok (.iconst 0, 1) := by decide +kernel
theorem dX1_copy_58 : decode cX1_copy 58 = .ok (.aload_n 1, 1) := by decide +kernel
theorem dX1_copy_59 : decode cX1_copy 59 = .ok (.getfield 21, 3) := by decide +kernel
theorem dX1_copy_62 : decode cX1_copy 62 = .ok (.iconst 0, 1) := by decide +kernel
theorem dX1_copy_63 : decode cX1_copy 63 = .ok (.bipush 6, 2) := by decide +kernel
theorem dX1_copy_65 : decode cX1_copy 65 = .ok (.invokestatic 32, 3) := by decide +kernel
theorem dX1_copy_68 : decode cX1_copy 68 = .ok (.aload_n 1, 1) := by decide +kernel
theorem dX1_copy_69 : decode cX1_copy 69 = .ok (.aload_n 0, 1) := by decide +kernel
theorem dX1_copy_70 : decode cX1_copy 70 = .ok (.getfield 24, 3) := by decide +kernel
theorem dX1_copy_73 : decode cX1_copy 73 = .ok (.putfield 24, 3) := by decide +kernel
theorem dX1_copy_76 : decode cX1_copy 76 = .ok (.aload_n 1, 1) := by decide +kernel
theorem dX1_copy_77 : decode cX1_copy 77 = .ok (.aload_n 0, 1) := by decide +kernel
theorem dX1_copy_78 : decode cX1_copy 78 = .ok (.getfield 28, 3) := by decide +kernel
theorem dX1_copy_81 : decode cX1_copy 81 = .ok (.putfield 28, 3) := by decide +kernel
theorem dX1_copy_84 : decode cX1_copy 84 = .ok (.aload_n 1, 1) := by decide +kernel
theorem dX1_copy_85 : decode cX1_copy 85 = .ok (.areturn, 1) := by decide +kernel
theorem dX2_init_0 : decode cX2_init 0 = .ok (.aload_n 0, 1) := by decide +kernel
theorem dX2_init_1 : decode cX2_init 1 = .ok (.invokespecial 3, 3) := by decide +kernel
theorem dX2_init_4 : decode cX2_init 4 = .ok (.aload_n 0, 1) := by decide +kernel
theorem dX2_init_5 : decode cX2_init 5 = .ok (.sipush 264, 3) := by decide +kernel
theorem dX2_init_8 : decode cX2_init 8 = .ok (.newarray .int, 2) := by decide +kernel
theorem dX2_init_10 : decode cX2_init 10 = .ok (.putfield 9, 3) := by decide +kernel
theorem dX2_init_13 : decode cX2_init 13 = .ok (.aload_n 0, 1) := by decide +kernel
theorem dX2_init_14 : decode cX2_init 14 = .ok (.sipush 264, 3) := by decide +kernel
theorem dX2_init_17 : decode cX2_init 17 = .ok (.newarray .int, 2) := by decide +kernel
theorem dX2_init_19 : decode cX2_init 19 = .ok (.putfield 15, 3) := by decide +kernel
theorem dX2_init_22 : decode cX2_init 22 = .ok (.return_, 1) := by decide +kernel
theorem dX2_size_0 : decode cX2_size 0 = .ok (.aload_n 0, 1) := by decide +kernel
theorem dX2_size_1 : decode cX2_size 1 = .ok (.getfield 18, 3) := by decide +kernel
theorem dX2_size_4 : decode cX2_size 4 = .ok (.ireturn, 1) := by decide +kernel
theorem dX2_row_0 : decode cX2_row 0 = .ok (.iload_n 1, 1) := by decide +kernel
theorem dX2_row_1 : decode cX2_row 1 = .ok (.ifCond .lt 20, 3) := by decide +kernel
theorem dX2_row_4 : decode cX2_row 4 = .ok (.iload_n 1, 1) := by decide +kernel
theorem dX2_row_5 : decode cX2_row 5 = .ok (.aload_n 0, 1) := by decide +kernel
theorem dX2_row_6 : decode cX2_row 6 = .ok (.getfield 18, 3) := by decide +kernel
theorem dX2_row_9 : decode cX2_row 9 = .ok (.if_icmp .ge 12, 3) := by decide +kernel
theorem dX2_row_12 : decode cX2_row 12 = .ok (.aload_n 0, 1) := by decide +kernel
theorem dX2_row_13 : decode cX2_row 13 = .ok (.getfield 9, 3) := by decide +kernel
theorem dX2_row_16 : decode cX2_row 16 = .ok (.iload_n 1, 1) := by decide +kernel
theorem dX2_row_17 : decode cX2_row 17 = .ok (.iaload, 1) := by decide +kernel
theorem dX2_row_18 : decode cX2_row 18 = .ok (.goto 4, 3) := by decide +kernel
theorem dX2_row_21 : decode cX2_row 21 = .ok (.iconst 0, 1) := by decide +kernel
theorem dX2_row_22 : decode cX2_row 22 = .ok (.ireturn, 1) := by decide +kernel
theorem dX2_ownerOf_0 : decode cX2_ownerOf 0 = .ok (.iload_n 0, 1) := by decide +kernel
theorem dX2_ownerOf_1 : decode cX2_ownerOf 1 = .ok (.bipush 20, 2) := by decide +kernel
theorem dX2_ownerOf_3 : decode cX2_ownerOf 3 = .ok (.iconst 4, 1) := by decide +kernel
theorem dX2_ownerOf_4 : decode cX2_ownerOf 4 = .ok (.iload_n 1, 1) := by decide +kernel
theorem dX2_ownerOf_5 : decode cX2_ownerOf 5 = .ok (.imul, 1) := by decide +kernel
theorem dX2_ownerOf_6 : decode cX2_ownerOf 6 = .ok (.isub, 1) := by decide +kernel
theorem dX2_ownerOf_7 : decode cX2_ownerOf 7 = .ok (.ishr, 1) := by decide +kernel
theorem dX2_ownerOf_8 : decode cX2_ownerOf 8 = .ok (.bipush 15, 2) := by decide +kernel
theorem dX2_ownerOf_10 : decode cX2_ownerOf 10 = .ok (.iand, 1) := by decide +kernel
theorem dX2_ownerOf_11 : decode cX2_ownerOf 11 = .ok (.ireturn, 1) := by decide +kernel
theorem dX2_restart_0 : decode cX2_restart 0 = .ok (.aload_n 0, 1) := by decide +kernel
theorem dX2_restart_1 : decode cX2_restart 1 = .ok (.getfield 9, 3) := by decide +kernel
theorem dX2_restart_4 : decode cX2_restart 4 = .ok (.iconst 0, 1) := by decide +kernel
theorem dX2_restart_5 : decode cX2_restart 5 = .ok (.iconst 0, 1) := by decide +kernel
theorem dX2_restart_6 : decode cX2_restart 6 = .ok (.iastore, 1) := by decide +kernel
theorem dX2_restart_7 : decode cX2_restart 7 = .ok (.aload_n 0, 1) := by decide +kernel
theorem dX2_restart_8 : decode cX2_restart 8 = .ok (.iconst 1, 1) := by decide +kernel
theorem dX2_restart_9 : decode cX2_restart 9 = .ok (.putfield 18, 3) := by decide +kernel
theorem dX2_restart_12 : decode cX2_restart 12 = .ok (.aload_n 0, 1) := by decide +kernel
theorem dX2_restart_13 : decode cX2_restart 13 = .ok (.iconst 0, 1) := by decide +kernel
theorem dX2_restart_14 : decode cX2_restart 14 = .ok (.putfield 22, 3) := by decide +kernel
theorem dX2_restart_17 : decode cX2_restart 17 = .ok (.return_, 1) := by decide +kernel
theorem dX2_extend_0 : decode cX2_extend 0 = .ok (.iconst 0, 1) := by decide +kernel
theorem dX2_extend_1 : decode cX2_extend 1 = .ok (.istore_n 3, 1) := by decide +kernel
theorem dX2_extend_2 : decode cX2_extend 2 = .ok (.iconst 0, 1) := by decide +kernel
theorem dX2_extend_3 : decode cX2_extend 3 = .ok (.istore 4, 2) := by decide +kernel
theorem dX2_extend_5 : decode cX2_extend 5 = .ok (.iload 4, 2) := by decide +kernel
theorem dX2_extend_7 : decode cX2_extend 7 = .ok (.aload_n 0, 1) := by decide +kernel
theorem dX2_extend_8 : decode cX2_extend 8 = .ok (.getfield 18, 3) := by decide +kernel
theorem dX2_extend_11 : decode cX2_extend 11 = .ok (.if_icmp .ge 86, 3) := by decide +kernel
theorem dX2_extend_14 : decode cX2_extend 14 = .ok (.aload_n 0, 1) := by decide +kernel
theorem dX2_extend_15 : decode cX2_extend 15 = .ok (.aload_n 1, 1) := by decide +kernel
theorem dX2_extend_16 : decode cX2_extend 16 = .ok (.aload_n 0, 1) := by decide +kernel
theorem dX2_extend_17 : decode cX2_extend 17 = .ok (.getfield 9, 3) := by decide +kernel
theorem dX2_extend_20 : decode cX2_extend 20 = .ok (.iload 4, 2) := by decide +kernel
theorem dX2_extend_22 : decode cX2_extend 22 = .ok (.iaload, 1) := by decide +kernel
theorem dX2_extend_23 : decode cX2_extend 23 = .ok (.iload_n 2, 1) := by decide +kernel
theorem dX2_extend_24 : decode cX2_extend 24 = .ok (.invokevirtual 25, 3) := by decide +kernel
theorem dX2_extend_27 : decode cX2_extend 27 = .ok (.istore 5, 2) := by decide +kernel
theorem dX2_extend_29 : decode cX2_extend 29 = .ok (.iconst 0, 1) := by decide +kernel
theorem dX2_extend_30 : decode cX2_extend 30 = .ok (.istore 6, 2) := by decide +kernel
theorem dX2_extend_32 : decode cX2_extend 32 = .ok (.iload 6, 2) := by decide +kernel
theorem dX2_extend_34 : decode cX2_extend 34 = .ok (.bipush 6, 2) := by decide +kernel
theorem dX2_extend_36 : decode cX2_extend 36 = .ok (.if_icmp .gt 55, 3) := by decide +kernel
theorem dX2_extend_39 : decode cX2_extend 39 = .ok (.iload 5, 2) := by decide +kernel
theorem dX2_extend_41 : decode cX2_extend 41 = .ok (.iload 6, 2) := by decide +kernel
theorem dX2_extend_43 : decode cX2_extend 43 = .ok (.ishr, 1) := by decide +kernel
theorem dX2_extend_44 : decode cX2_extend 44 = .ok (.iconst 1, 1) := by decide +kernel
theorem dX2_extend_45 : decode cX2_extend 45 = .ok (.iand, 1) := by decide +kernel
theorem dX2_extend_46 : decode cX2_extend 46 = .ok (.ifCond .eq 39, 3) := by decide +kernel
theorem dX2_extend_49 : decode cX2_extend 49 = .ok (.iload_n 3, 1) := by decide +kernel
theorem dX2_extend_50 : decode cX2_extend 50 = .ok (.sipush 264, 3) := by decide +kernel
theorem dX2_extend_53 : decode cX2_extend 53 = .ok (.if_icmp .ge 32, 3) := by decide +kernel
theorem dX2_extend_56 : decode cX2_extend 56 = .ok (.aload_n 0, 1) := by decide +kernel
theorem dX2_extend_57 : decode cX2_extend 57 = .ok (.getfield 15, 3) := by decide +kernel
theorem dX2_extend_60 : decode cX2_extend 60 = .ok (.iload_n 3, 1) := by decide +kernel
theorem dX2_extend_61 : decode cX2_extend 61 = .ok (.aload_n 0, 1) := by decide +kernel
theorem dX2_extend_62 : decode cX2_extend 62 = .ok (.getfield 9, 3) := by decide +kernel
theorem dX2_extend_65 : decode cX2_extend 65 = .ok (.iload 4, 2) := by decide +kernel
theorem dX2_extend_67 : decode cX2_extend 67 = .ok (.iaload, 1) := by decide +kernel
theorem dX2_extend_68 : decode cX2_extend 68 = .ok (.iload 6, 2) := by decide +kernel
theorem dX2_extend_70 : decode cX2_extend 70 = .ok (.bipush 20, 2) := by decide +kernel
theorem dX2_extend_72 : decode cX2_extend 72 = .ok (.iconst 4, 1) := by decide +kernel
theorem dX2_extend_73 : decode cX2_extend 73 = .ok (.aload_n 0, 1) := by decide +kernel
theorem dX2_extend_74 : decode cX2_extend 74 = .ok (.getfield 22, 3) := by decide +kernel
theorem dX2_extend_77 : decode cX2_extend 77 = .ok (.imul, 1) := by decide +kernel
theorem dX2_extend_78 : decode cX2_extend 78 = .ok (.isub, 1) := by decide +kernel
theorem dX2_extend_79 : decode cX2_extend 79 = .ok (.ishl, 1) := by decide +kernel
theorem dX2_extend_80 : decode cX2_extend 80 = .ok (.ior, 1) := by decide +kernel
theorem dX2_extend_81 : decode cX2_extend 81 = .ok (.iastore, 1) := by decide +kernel
theorem dX2_extend_82 : decode cX2_extend 82 = .ok (.iinc 3 1, 3) := by decide +kernel
theorem dX2_extend_85 : decode cX2_extend 85 = .ok (.iinc 6 1, 3) := by decide +kernel
theorem dX2_extend_88 : decode cX2_extend 88 = .ok (.goto (-56), 3) := by decide +kernel
theorem dX2_extend_91 : decode cX2_extend 91 = .ok (.iinc 4 1, 3) := by decide +kernel
theorem dX2_extend_94 : decode cX2_extend 94 = .ok (.goto (-89), 3) := by decide +kernel
theorem dX2_extend_97 : decode cX2_extend 97 = .ok (.aload_n 0, 1) := by decide +kernel
theorem dX2_extend_98 : decode cX2_extend 98 = .ok (.getfield 15, 3) := by decide +kernel
theorem dX2_extend_101 : decode cX2_extend 101 = .ok (.astore 4, 2) := by decide +kernel
theorem dX2_extend_103 : decode cX2_extend 103 = .ok (.aload_n 0, 1) := by decide +kernel
theorem dX2_extend_104 : decode cX2_extend 104 = .ok (.aload_n 0, 1) := by decide +kernel
theorem dX2_extend_105 : decode cX2_extend 105 = .ok (.getfield 9, 3) := by decide +kernel
theorem dX2_extend_108 : decode cX2_extend 108 = .ok (.putfield 15, 3) := by decide +kernel
theorem dX2_extend_111 : decode cX2_extend 111 = .ok (.aload_n 0, 1) := by decide +kernel
theorem dX2_extend_112 : decode cX2_extend 112 = .ok (.aload 4, 2) := by decide +kernel
theorem dX2_extend_114 : decode cX2_extend 114 = .ok (.putfield 9, 3) := by decide +kernel
theorem dX2_extend_117 : decode cX2_extend 117 = .ok (.aload_n 0, 1) := by decide +kernel
theorem dX2_extend_118 : decode cX2_extend 118 = .ok (.iload_n 3, 1) := by decide +kernel
theorem dX2_extend_119 : decode cX2_extend 119 = .ok (.putfield 18, 3) := by decide +kernel
theorem dX2_extend_122 : decode cX2_extend 122 = .ok (.aload_n 0, 1) := by decide +kernel
theorem dX2_extend_123 : decode cX2_extend 123 = .ok (.dup, 1) := by decide +kernel
theorem dX2_extend_124 : decode cX2_extend 124 = .ok (.getfield 22, 3) := by decide +kernel
theorem dX2_extend_127 : decode cX2_extend 127 = .ok (.iconst 1, 1) := by decide +kernel
theorem dX2_extend_128 : decode cX2_extend 128 = .ok (.iadd, 1) := by decide +kernel
theorem dX2_extend_129 : decode cX2_extend 129 = .ok (.putfield 22, 3) := by decide +kernel
theorem dX2_extend_132 : decode cX2_extend 132 = .ok (.aload_n 0, 1) := by decide +kernel
theorem dX2_extend_133 : decode cX2_extend 133 = .ok (.getfield 18, 3) := by decide +kernel
theorem dX2_extend_136 : decode cX2_extend 136 = .ok (.ifCond .le 7, 3) := by decide +kernel
theorem dX2_extend_139 : decode cX2_extend 139 = .ok (.iconst 1, 1) := by decide +kernel
theorem dX2_extend_140 : decode cX2_extend 140 = .ok (.goto 4, 3) := by decide +kernel
theorem dX2_extend_143 : decode cX2_extend 143 = .ok (.iconst 0, 1) := by decide +kernel
theorem dX2_extend_144 : decode cX2_extend 144 = .ok (.ireturn, 1) := by decide +kernel
theorem dX2_openOwners_0 : decode cX2_openOwners 0 = .ok (.iconst 0, 1) := by decide +kernel
theorem dX2_openOwners_1 : decode cX2_openOwners 1 = .ok (.istore 4, 2) := by decide +kernel
theorem dX2_openOwners_3 : decode cX2_openOwners 3 = .ok (.aload_n 0, 1) := by decide +kernel
theorem dX2_openOwners_4 : decode cX2_openOwners 4 = .ok (.getfield 22, 3) := by decide +kernel
theorem dX2_openOwners_7 : decode cX2_openOwners 7 = .ok (.istore 5, 2) := by decide +kernel
theorem dX2_openOwners_9 : decode cX2_openOwners 9 = .ok (.iconst 0, 1) := by decide +kernel
theorem dX2_openOwners_10 : decode cX2_openOwners 10 = .ok (.istore 6, 2) := by decide +kernel
theorem dX2_openOwners_12 : decode cX2_openOwners 12 = .ok (.iload 6, 2) := by decide +kernel
theorem dX2_openOwners_14 : decode cX2_openOwners 14 = .ok (.bipush 7, 2) := by decide +kernel
theorem dX2_openOwners_16 : decode cX2_openOwners 16 = .ok (.if_icmp .ge 66, 3) := by decide +kernel
theorem dX2_openOwners_19 : decode cX2_openOwners 19 = .ok (.iload 5, 2) := by decide +kernel
theorem dX2_openOwners_21 : decode cX2_openOwners 21 = .ok (.ifCond .lt 61, 3) := by decide +kernel
theorem dX2_openOwners_24 : decode cX2_openOwners 24 = .ok (.aload_n 1, 1) := by decide +kernel
theorem dX2_openOwners_25 : decode cX2_openOwners 25 = .ok (.iload 5, 2) := by decide +kernel
theorem dX2_openOwners_27 : decode cX2_openOwners 27 = .ok (.invokevirtual 29, 3) := by decide +kernel
theorem dX2_openOwners_30 : decode cX2_openOwners 30 = .ok (.iconst (-1), 1) := by decide +kernel
theorem dX2_openOwners_31 : decode cX2_openOwners 31 = .ok (.if_icmp .eq 14, 3) := by decide +kernel
theorem dX2_openOwners_34 : decode cX2_openOwners 34 = .ok (.iload 4, 2) := by decide +kernel
theorem dX2_openOwners_36 : decode cX2_openOwners 36 = .ok (.iconst 1, 1) := by decide +kernel
theorem dX2_openOwners_37 : decode cX2_openOwners 37 = .ok (.iload 5, 2) := by decide +kernel
theorem dX2_openOwners_39 : decode cX2_openOwners 39 = .ok (.iconst 1, 1) := by decide +kernel
theorem dX2_openOwners_40 : decode cX2_openOwners 40 = .ok (.iadd, 1) := by decide +kernel
theorem dX2_openOwners_41 : decode cX2_openOwners 41 = .ok (.ishl, 1) := by decide +kernel
theorem dX2_openOwners_42 : decode cX2_openOwners 42 = .ok (.ior, 1) := by decide +kernel
theorem dX2_openOwners_43 : decode cX2_openOwners 43 = .ok (.istore 4, 2) := by decide +kernel
theorem dX2_openOwners_45 : decode cX2_openOwners 45 = .ok (.iload 5, 2) := by decide +kernel
theorem dX2_openOwners_47 : decode cX2_openOwners 47 = .ok (.ifCond .ne 17, 3) := by decide +kernel
theorem dX2_openOwners_50 : decode cX2_openOwners 50 = .ok (.iload_n 3, 1) := by decide +kernel
theorem dX2_openOwners_51 : decode cX2_openOwners 51 = .ok (.ifCond .eq 10, 3) := by decide +kernel
theorem dX2_openOwners_54 : decode cX2_openOwners 54 = .ok (.iload 4, 2) := by decide +kernel
theorem dX2_openOwners_56 : decode cX2_openOwners 56 = .ok (.iconst 1, 1) := by decide +kernel
theorem dX2_openOwners_57 : decode cX2_openOwners 57 = .ok (.ior, 1) := by decide +kernel
theorem dX2_openOwners_58 : decode cX2_openOwners 58 = .ok (.goto 5, 3) := by decide +kernel
theorem dX2_openOwners_61 : decode cX2_openOwners 61 = .ok (.iload 4, 2) := by decide +kernel
theorem dX2_openOwners_63 : decode cX2_openOwners 63 = .ok (.ireturn, 1) := by decide +kernel
theorem dX2_openOwners_64 : decode cX2_openOwners 64 = .ok (.iload_n 2, 1) := by decide +kernel
theorem dX2_openOwners_65 : decode cX2_openOwners 65 = .ok (.iload 5, 2) := by decide +kernel
theorem dX2_openOwners_67 : decode cX2_openOwners 67 = .ok (.iconst 1, 1) := by decide +kernel
theorem dX2_openOwners_68 : decode cX2_openOwners 68 = .ok (.isub, 1) := by decide +kernel
theorem dX2_openOwners_69 : decode cX2_openOwners 69 = .ok (.invokestatic 35, 3) := by decide +kernel
theorem dX2_openOwners_72 : decode cX2_openOwners 72 = .ok (.iconst 1, 1) := by decide +kernel
theorem dX2_openOwners_73 : decode cX2_openOwners 73 = .ok (.isub, 1) := by decide +kernel
theorem dX2_openOwners_74 : decode cX2_openOwners 74 = .ok (.istore 5, 2) := by decide +kernel
theorem dX2_openOwners_76 : decode cX2_openOwners 76 = .ok (.iinc 6 1, 3) := by decide +kernel
theorem dX2_openOwners_79 : decode cX2_openOwners 79 = .ok (.goto (-67), 3) := by decide +kernel
theorem dX2_openOwners_82 : decode cX2_openOwners 82 = .ok (.iload 4, 2) := by decide +kernel
theorem dX2_openOwners_84 : decode cX2_openOwners 84 = .ok (.ireturn, 1) := by decide +kernel
theorem dX2_placeOnward_0 : decode cX2_placeOnward 0 = .ok (.iconst 0, 1) := by decide +kernel
theorem dX2_placeOnward_1 : decode cX2_placeOnward 1 = .ok (.istore_n 2, 1) := by decide +kernel
theorem dX2_placeOnward_2 : decode cX2_placeOnward 2 = .ok (.iload_n 2, 1) := by decide +kernel
theorem dX2_placeOnward_3 : decode cX2_placeOnward 3 = .ok (.aload_n 0, 1) := by decide +kernel
theorem dX2_placeOnward_4 : decode cX2_placeOnward 4 = .ok (.getfield 22, 3) := by decide +kernel
theorem dX2_placeOnward_7 : decode cX2_placeOnward 7 = .ok (.if_icmp .ge 19, 3) := by decide +kernel
theorem dX2_placeOnward_10 : decode cX2_placeOnward 10 = .ok (.iload_n 1, 1) := by decide +kernel
theorem dX2_placeOnward_11 : decode cX2_placeOnward 11 = .ok (.iload_n 2, 1) := by decide +kernel
theorem dX2_placeOnward_12 : decode cX2_placeOnward 12 = .ok (.invokestatic 35, 3) := by decide +kernel
theorem dX2_placeOnward_15 : decode cX2_placeOnward 15 = .ok (.ifCond .ne 5, 3) := by decide +kernel
theorem dX2_placeOnward_18 : decode cX2_placeOnward 18 = .ok (.iload_n 2, 1) := by decide +kernel
theorem dX2_placeOnward_19 : decode cX2_placeOnward 19 = .ok (.ireturn, 1) := by decide +kernel
theorem dX2_placeOnward_20 : decode cX2_placeOnward 20 = .ok (.iinc 2 1, 3) := by decide +kernel
theorem dX2_placeOnward_23 : decode cX2_placeOnward 23 = .ok (.goto (-21), 3) := by decide +kernel
theorem dX2_placeOnward_26 : decode cX2_placeOnward 26 = .ok (.iconst (-1), 1) := by decide +kernel
theorem dX2_placeOnward_27 : decode cX2_placeOnward 27 = .ok (.ireturn, 1) := by decide +kernel
theorem dX2_keep_0 : decode cX2_keep 0 = .ok (.iconst 0, 1) := by decide +kernel
theorem dX2_keep_1 : decode cX2_keep 1 = .ok (.istore_n 2, 1) := by decide +kernel
theorem dX2_keep_2 : decode cX2_keep 2 = .ok (.iconst 0, 1) := by decide +kernel
theorem dX2_keep_3 : decode cX2_keep 3 = .ok (.istore_n 3, 1) := by decide +kernel
theorem dX2_keep_4 : decode cX2_keep 4 = .ok (.iload_n 3, 1) := by decide +kernel
theorem dX2_keep_5 : decode cX2_keep 5 = .ok (.aload_n 0, 1) := by decide +kernel
theorem dX2_keep_6 : decode cX2_keep 6 = .ok (.getfield 18, 3) := by decide +kernel
theorem dX2_keep_9 : decode cX2_keep 9 = .ok (.if_icmp .ge 47, 3) := by decide +kernel
theorem dX2_keep_12 : decode cX2_keep 12 = .ok (.aload_n 0, 1) := by decide +kernel
theorem dX2_keep_13 : decode cX2_keep 13 = .ok (.aload_n 0, 1) := by decide +kernel
theorem dX2_keep_14 : decode cX2_keep 14 = .ok (.getfield 9, 3) := by decide +kernel
theorem dX2_keep_17 : decode cX2_keep 17 = .ok (.iload_n 3, 1) := by decide +kernel
theorem dX2_keep_18 : decode cX2_keep 18 = .ok (.iaload, 1) := by decide +kernel
theorem dX2_keep_19 : decode cX2_keep 19 = .ok (.invokevirtual 39, 3) := by decide +kernel
theorem dX2_keep_22 : decode cX2_keep 22 = .ok (.iconst (-1), 1) := by decide +kernel
theorem dX2_keep_23 : decode cX2_keep 23 = .ok (.if_icmp .eq 7, 3) := by decide +kernel
theorem dX2_keep_26 : decode cX2_keep 26 = .ok (.iconst 1, 1) := by decide +kernel
theorem dX2_keep_27 : decode cX2_keep 27 = .ok (.goto 4, 3) := by decide +kernel
theorem dX2_keep_30 : decode cX2_keep 30 = .ok (.iconst 0, 1) := by decide +kernel
theorem dX2_keep_31 : decode cX2_keep 31 = .ok (.iload_n 1, 1) := by decide +kernel
theorem dX2_keep_32 : decode cX2_keep 32 = .ok (.if_icmp .ne 18, 3) := by decide +kernel
theorem dX2_keep_35 : decode cX2_keep 35 = .ok (.aload_n 0, 1) := by decide +kernel
theorem dX2_keep_36 : decode cX2_keep 36 = .ok (.getfield 9, 3) := by decide +kernel
theorem dX2_keep_39 : decode cX2_keep 39 = .ok (.iload_n 2, 1) := by decide +kernel
theorem dX2_keep_40 : decode cX2_keep 40 = .ok (.aload_n 0, 1) := by decide +kernel
theorem dX2_keep_41 : decode cX2_keep 41 = .ok (.getfield 9, 3) := by decide +kernel
theorem dX2_keep_44 : decode cX2_keep 44 = .ok (.iload_n 3, 1) := by decide +kernel
theorem dX2_keep_45 : decode cX2_keep 45 = .ok (.iaload, 1) := by decide +kernel
theorem dX2_keep_46 : decode cX2_keep 46 = .ok (.iastore, 1) := by decide +kernel
theorem dX2_keep_47 : decode cX2_keep 47 = .ok (.iinc 2 1, 3) := by decide +kernel
theorem dX2_keep_50 : decode cX2_keep 50 = .ok (.iinc 3 1, 3) := by decide +kernel
theorem dX2_keep_53 : decode cX2_keep 53 = .ok (.goto (-49), 3) := by decide +kernel
theorem dX2_keep_56 : decode cX2_keep 56 = .ok (.aload_n 0, 1) := by decide +kernel
theorem dX2_keep_57 : decode cX2_keep 57 = .ok (.iload_n 2, 1) := by decide +kernel
theorem dX2_keep_58 : decode cX2_keep 58 = .ok (.putfield 18, 3) := by decide +kernel
theorem dX2_keep_61 : decode cX2_keep 61 = .ok (.aload_n 0, 1) := by decide +kernel
theorem dX2_keep_62 : decode cX2_keep 62 = .ok (.getfield 18, 3) := by decide +kernel
theorem dX2_keep_65 : decode cX2_keep 65 = .ok (.ifCond .le 7, 3) := by decide +kernel
theorem dX2_keep_68 : decode cX2_keep 68 = .ok (.iconst 1, 1) := by decide +kernel
theorem dX2_keep_69 : decode cX2_keep 69 = .ok (.goto 4, 3) := by decide +kernel
theorem dX2_keep_72 : decode cX2_keep 72 = .ok (.iconst 0, 1) := by decide +kernel
theorem dX2_keep_73 : decode cX2_keep 73 = .ok (.ireturn, 1) := by decide +kernel
theorem dX3_init_0 : decode cX3_init 0 = .ok (.aload_n 0, 1) := by decide +kernel
theorem dX3_init_1 : decode cX3_init 1 = .ok (.invokespecial 3, 3) := by decide +kernel
theorem dX3_init_4 : decode cX3_init 4 = .ok (.aload_n 0, 1) := by decide +kernel
theorem dX3_init_5 : decode cX3_init 5 = .ok (.bipush 16, 2) := by decide +kernel
theorem dX3_init_7 : decode cX3_init 7 = .ok (.newarray .int, 2) := by decide +kernel
theorem dX3_init_9 : decode cX3_init 9 = .ok (.putfield 9, 3) := by decide +kernel
theorem dX3_init_12 : decode cX3_init 12 = .ok (.aload_n 0, 1) := by decide +kernel
theorem dX3_init_13 : decode cX3_init 13 = .ok (.bipush 16, 2) := by decide +kernel
theorem dX3_init_15 : decode cX3_init 15 = .ok (.newarray .int, 2) := by decide +kernel
theorem dX3_init_17 : decode cX3_init 17 = .ok (.putfield 15, 3) := by decide +kernel
theorem dX3_init_20 : decode cX3_init 20 = .ok (.aload_n 0, 1) := by decide +kernel
theorem dX3_init_21 : decode cX3_init 21 = .ok (.bipush 16, 2) := by decide +kernel
theorem dX3_init_23 : decode cX3_init 23 = .ok (.newarray .int, 2) := by decide +kernel
theorem dX3_init_25 : decode cX3_init 25 = .ok (.putfield 18, 3) := by decide +kernel
theorem dX3_init_28 : decode cX3_init 28 = .ok (.aload_n 0, 1) := by decide +kernel
theorem dX3_init_29 : decode cX3_init 29 = .ok (.bipush 16, 2) := by decide +kernel
theorem dX3_init_31 : decode cX3_init 31 = .ok (.newarray .int, 2) := by decide +kernel
theorem dX3_init_33 : decode cX3_init 33 = .ok (.putfield 21, 3) := by decide +kernel
theorem dX3_init_36 : decode cX3_init 36 = .ok (.aload_n 0, 1) := by decide +kernel
theorem dX3_init_37 : decode cX3_init 37 = .ok (.sipush 1200, 3) := by decide +kernel
theorem dX3_init_40 : decode cX3_init 40 = .ok (.newarray .int, 2) := by decide +kernel
theorem dX3_init_42 : decode cX3_init 42 = .ok (.putfield 24, 3) := by decide +kernel
theorem dX3_init_45 : decode cX3_init 45 = .ok (.aload_n 0, 1) := by decide +kernel
theorem dX3_init_46 : decode cX3_init 46 = .ok (.iconst (-1), 1) := by decide +kernel
theorem dX3_init_47 : decode cX3_init 47 = .ok (.putfield 27, 3) := by decide +kernel
theorem dX3_init_50 : decode cX3_init 50 = .ok (.return_, 1) := by decide +kernel
theorem dX3_things_0 : decode cX3_things 0 = .ok (.aload_n 0, 1) := by decide +kernel
theorem dX3_things_1 : decode cX3_things 1 = .ok (.getfield 31, 3) := by decide +kernel
theorem dX3_things_4 : decode cX3_things 4 = .ok (.ireturn, 1) := by decide +kernel
theorem dX3_events_0 : decode cX3_events 0 = .ok (.aload_n 0, 1) := by decide +kernel
theorem dX3_events_1 : decode cX3_events 1 = .ok (.getfield 34, 3) := by decide +kernel
theorem dX3_events_4 : decode cX3_events 4 = .ok (.ireturn, 1) := by decide +kernel
theorem dX3_held_0 : decode cX3_held 0 = .ok (.aload_n 0, 1) := by decide +kernel
theorem dX3_held_1 : decode cX3_held 1 = .ok (.getfield 27, 3) := by decide +kernel
theorem dX3_held_4 : decode cX3_held 4 = .ok (.ireturn, 1) := by decide +kernel
theorem dX3_has_0 : decode cX3_has 0 = .ok (.iload_n 1, 1) := by decide +kernel
theorem dX3_has_1 : decode cX3_has 1 = .ok (.ifCond .lt 15, 3) := by decide +kernel
theorem dX3_has_4 : decode cX3_has 4 = .ok (.iload_n 1, 1) := by decide +kernel
theorem dX3_has_5 : decode cX3_has 5 = .ok (.aload_n 0, 1) := by decide +kernel
theorem dX3_has_6 : decode cX3_has 6 = .ok (.getfield 31, 3) := by decide +kernel
theorem dX3_has_9 : decode cX3_has 9 = .ok (.if_icmp .ge 7, 3) := by decide +kernel
theorem dX3_has_12 : decode cX3_has 12 = .ok (.iconst 1, 1) := by decide +kernel
theorem dX3_has_13 : decode cX3_has 13 = .ok (.goto 4, 3) := by decide +kernel
theorem dX3_has_16 : decode cX3_has 16 = .ok (.iconst 0, 1) := by decide +kernel
theorem dX3_has_17 : decode cX3_has 17 = .ok (.ireturn, 1) := by decide +kernel
theorem dX3_addThing_0 : decode cX3_addThing 0 = .ok (.iload_n 1, 1) := by decide +kernel
theorem dX3_addThing_1 : decode cX3_addThing 1 = .ok (.ifCond .lt 28, 3) := by decide +kernel
theorem dX3_addThing_4 : decode cX3_addThing 4 = .ok (.iload_n 1, 1) := by decide +kernel
theorem dX3_addThing_5 : decode cX3_addThing 5 = .ok (.iconst 2, 1) := by decide +kernel
theorem dX3_addThing_6 : decode cX3_addThing 6 = .ok (.if_icmp .gt 23, 3) := by decide +kernel
theorem dX3_addThing_9 : decode cX3_addThing 9 = .ok (.iload_n 2, 1) := by decide +kernel
theorem dX3_addThing_10 : decode cX3_addThing 10 = .ok (.ifCond .lt 19, 3) := by decide +kernel
theorem dX3_addThing_13 : decode cX3_addThing 13 = .ok (.iload_n 2, 1) := by decide +kernel
theorem dX3_addThing_14 : decode cX3_addThing 14 = .ok (.iconst 3, 1) := by decide +kernel
theorem dX3_addThing_15 : decode cX3_addThing 15 = .ok (.if_icmp .gt 14, 3) := by decide +kernel
theorem dX3_addThing_18 : decode cX3_addThing 18 = .ok (.iload_n 3, 1) := by decide +kernel
theorem dX3_addThing_19 : decode cX3_addThing 19 = .ok (.iconst 1, 1) := by decide +kernel
theorem dX3_addThing_20 : decode cX3_addThing 20 = .ok (.if_icmp .lt 9, 3) := by decide +kernel
theorem dX3_addThing_23 : decode cX3_addThing 23 = .ok (.iload_n 3, 1) := by decide +kernel
theorem dX3_addThing_24 : decode cX3_addThing 24 = .ok (.bipush 9, 2) := by decide +kernel
theorem dX3_addThing_26 : decode cX3_addThing 26 = .ok (.if_icmp .le 5, 3) := by decide +kernel
theorem dX3_addThing_29 : decode cX3_addThing 29 = .ok (.iconst (-1), 1) := by decide +kernel
theorem dX3_addThing_30 : decode cX3_addThing 30 = .ok (.ireturn, 1) := by decide +kernel
theorem dX3_addThing_31 : decode cX3_addThing 31 = .ok (.aload_n 0, 1) := by decide +kernel
theorem dX3_addThing_32 : decode cX3_addThing 32 = .ok (.getfield 31, 3) := by decide +kernel
theorem dX3_addThing_35 : decode cX3_addThing 35 = .ok (.bipush 16, 2) := by decide +kernel
theorem dX3_addThing_37 : decode cX3_addThing 37 = .ok (.if_icmp .lt 5, 3) := by decide +kernel
theorem dX3_addThing_40 : decode cX3_addThing 40 = .ok (.iconst (-1), 1) := by decide +kernel
theorem dX3_addThing_41 : decode cX3_addThing 41 = .ok (.ireturn, 1) := by decide +kernel
theorem dX3_addThing_42 : decode cX3_addThing 42 = .ok (.aload_n 0, 1) := by decide +kernel
theorem dX3_addThing_43 : decode cX3_addThing 43 = .ok (.getfield 9, 3) := by decide +kernel
theorem dX3_addThing_46 : decode cX3_addThing 46 = .ok (.aload_n 0, 1) := by decide +kernel
theorem dX3_addThing_47 : decode cX3_addThing 47 = .ok (.getfield 31, 3) := by decide +kernel
theorem dX3_addThing_50 : decode cX3_addThing 50 = .ok (.iload_n 1, 1) := by decide +kernel
theorem dX3_addThing_51 : decode cX3_addThing 51 = .ok (.iastore, 1) := by decide +kernel
theorem dX3_addThing_52 : decode cX3_addThing 52 = .ok (.aload_n 0, 1) := by decide +kernel
theorem dX3_addThing_53 : decode cX3_addThing 53 = .ok (.getfield 15, 3) := by decide +kernel
theorem dX3_addThing_56 : decode cX3_addThing 56 = .ok (.aload_n 0, 1) := by decide +kernel
theorem dX3_addThing_57 : decode cX3_addThing 57 = .ok (.getfield 31, 3) := by decide +kernel
theorem dX3_addThing_60 : decode cX3_addThing 60 = .ok (.iload_n 2, 1) := by decide +kernel
theorem dX3_addThing_61 : decode cX3_addThing 61 = .ok (.iastore, 1) := by decide +kernel
theorem dX3_addThing_62 : decode cX3_addThing 62 = .ok (.aload_n 0, 1) := by decide +kernel
theorem dX3_addThing_63 : decode cX3_addThing 63 = .ok (.getfield 18, 3) := by decide +kernel
theorem dX3_addThing_66 : decode cX3_addThing 66 = .ok (.aload_n 0, 1) := by decide +kernel
theorem dX3_addThing_67 : decode cX3_addThing 67 = .ok (.getfield 31, 3) := by decide +kernel
theorem dX3_addThing_70 : decode cX3_addThing 70 = .ok (.iload_n 3, 1) := by decide +kernel
theorem dX3_addThing_71 : decode cX3_addThing 71 = .ok (.iastore, 1) := by decide +kernel
theorem dX3_addThing_72 : decode cX3_addThing 72 = .ok (.aload_n 0, 1) := by decide +kernel
theorem dX3_addThing_73 : decode cX3_addThing 73 = .ok (.getfield 21, 3) := by decide +kernel
theorem dX3_addThing_76 : decode cX3_addThing 76 = .ok (.aload_n 0, 1) := by decide +kernel
theorem dX3_addThing_77 : decode cX3_addThing 77 = .ok (.getfield 31, 3) := by decide +kernel
theorem dX3_addThing_80 : decode cX3_addThing 80 = .ok (.bipush 16, 2) := by decide +kernel
theorem dX3_addThing_82 : decode cX3_addThing 82 = .ok (.iastore, 1) := by decide +kernel
theorem dX3_addThing_83 : decode cX3_addThing 83 = .ok (.aload_n 0, 1) := by decide +kernel
theorem dX3_addThing_84 : decode cX3_addThing 84 = .ok (.dup, 1) := by decide +kernel
theorem dX3_addThing_85 : decode cX3_addThing 85 = .ok (.getfield 31, 3) := by decide +kernel
theorem dX3_addThing_88 : decode cX3_addThing 88 = .ok (.iconst 1, 1) := by decide +kernel
theorem dX3_addThing_89 : decode cX3_addThing 89 = .ok (.iadd, 1) := by decide +kernel
theorem dX3_addThing_90 : decode cX3_addThing 90 = .ok (.putfield 31, 3) := by decide +kernel
theorem dX3_addThing_93 : decode cX3_addThing 93 = .ok (.aload_n 0, 1) := by decide +kernel
theorem dX3_addThing_94 : decode cX3_addThing 94 = .ok (.getfield 31, 3) := by decide +kernel
theorem dX3_addThing_97 : decode cX3_addThing 97 = .ok (.iconst 1, 1) := by decide +kernel
theorem dX3_addThing_98 : decode cX3_addThing 98 = .ok (.isub, 1) := by decide +kernel
theorem dX3_addThing_99 : decode cX3_addThing 99 = .ok (.ireturn, 1) := by decide +kernel
theorem dX3_isSort_0 : decode cX3_isSort 0 = .ok (.aload_n 0, 1) := by decide +kernel
theorem dX3_isSort_1 : decode cX3_isSort 1 = .ok (.iload_n 1, 1) := by decide +kernel
theorem dX3_isSort_2 : decode cX3_isSort 2 = .ok (.invokevirtual 37, 3) := by decide +kernel
theorem dX3_isSort_5 : decode cX3_isSort 5 = .ok (.ifCond .eq 17, 3) := by decide +kernel
theorem dX3_isSort_8 : decode cX3_isSort 8 = .ok (.aload_n 0, 1) := by decide +kernel
theorem dX3_isSort_9 : decode cX3_isSort 9 = .ok (.getfield 9, 3) := by decide +kernel
theorem dX3_isSort_12 : decode cX3_isSort 12 = .ok (.iload_n 1, 1) := by decide +kernel
theorem dX3_isSort_13 : decode cX3_isSort 13 = .ok (.iaload, 1) := by decide +kernel
theorem dX3_isSort_14 : decode cX3_isSort 14 = .ok (.iload_n 2, 1) := by decide +kernel
theorem dX3_isSort_15 : decode cX3_isSort 15 = .ok (.if_icmp .ne 7, 3) := by decide +kernel
theorem dX3_isSort_18 : decode cX3_isSort 18 = .ok (.iconst 1, 1) := by decide +kernel
theorem dX3_isSort_19 : decode cX3_isSort 19 = .ok (.goto 4, 3) := by decide +kernel
theorem dX3_isSort_22 : decode cX3_isSort 22 = .ok (.iconst 0, 1) := by decide +kernel
theorem dX3_isSort_23 : decode cX3_isSort 23 = .ok (.ireturn, 1) := by decide +kernel
theorem dX3_placeOf_0 : decode cX3_placeOf 0 = .ok (.iload_n 1, 1) := by decide +kernel
theorem dX3_placeOf_1 : decode cX3_placeOf 1 = .ok (.ifCond .lt 20, 3) := by decide +kernel
theorem dX3_placeOf_4 : decode cX3_placeOf 4 = .ok (.iload_n 1, 1) := by decide +kernel
theorem dX3_placeOf_5 : decode cX3_placeOf 5 = .ok (.aload_n 0, 1) := by decide +kernel
theorem dX3_placeOf_6 : decode cX3_placeOf 6 = .ok (.getfield 31, 3) := by decide +kernel
theorem dX3_placeOf_9 : decode cX3_placeOf 9 = .ok (.if_icmp .ge 12, 3) := by decide +kernel
theorem dX3_placeOf_12 : decode cX3_placeOf 12 = .ok (.aload_n 0, 1) := by decide +kernel
theorem dX3_placeOf_13 : decode cX3_placeOf 13 = .ok (.getfield 21, 3) := by decide +kernel
theorem dX3_placeOf_16 : decode cX3_placeOf 16 = .ok (.iload_n 1, 1) := by decide +kernel
theorem dX3_placeOf_17 : decode cX3_placeOf 17 = .ok (.iaload, 1) := by decide +kernel
theorem dX3_placeOf_18 : decode cX3_placeOf 18 = .ok (.goto 4, 3) := by decide +kernel
theorem dX3_placeOf_21 : decode cX3_placeOf 21 = .ok (.iconst (-1), 1) := by decide +kernel
theorem dX3_placeOf_22 : decode cX3_placeOf 22 = .ok (.ireturn, 1) := by decide +kernel
theorem dX3_onTop_0 : decode cX3_onTop 0 = .ok (.iload_n 1, 1) := by decide +kernel
theorem dX3_onTop_1 : decode cX3_onTop 1 = .ok (.ifCond .lt 48, 3) := by decide +kernel
theorem dX3_onTop_4 : decode cX3_onTop 4 = .ok (.iload_n 1, 1) := by decide +kernel
theorem dX3_onTop_5 : decode cX3_onTop 5 = .ok (.aload_n 0, 1) := by decide +kernel
theorem dX3_onTop_6 : decode cX3_onTop 6 = .ok (.getfield 31, 3) := by decide +kernel
theorem dX3_onTop_9 : decode cX3_onTop 9 = .ok (.if_icmp .ge 40, 3) := by decide +kernel
theorem dX3_onTop_12 : decode cX3_onTop 12 = .ok (.aload_n 0, 1) := by decide +kernel
theorem dX3_onTop_13 : decode cX3_onTop 13 = .ok (.getfield 9, 3) := by decide +kernel
theorem dX3_onTop_16 : decode cX3_onTop 16 = .ok (.iload_n 1, 1) := by decide +kernel
theorem dX3_onTop_17 : decode cX3_onTop 17 = .ok (.iaload, 1) := by decide +kernel
theorem dX3_onTop_18 : decode cX3_onTop 18 = .ok (.ifCond .ne 31, 3) := by decide +kernel
theorem dX3_onTop_21 : decode cX3_onTop 21 = .ok (.iconst 0, 1) := by decide +kernel
theorem dX3_onTop_22 : decode cX3_onTop 22 = .ok (.istore_n 2, 1) := by decide +kernel
theorem dX3_onTop_23 : decode cX3_onTop 23 = .ok (.iload_n 2, 1) := by decide +kernel
theorem dX3_onTop_24 : decode cX3_onTop 24 = .ok (.aload_n 0, 1) := by decide +kernel
theorem dX3_onTop_25 : decode cX3_onTop 25 = .ok (.getfield 31, 3) := by decide +kernel
theorem dX3_onTop_28 : decode cX3_onTop 28 = .ok (.if_icmp .ge 21, 3) := by decide +kernel
theorem dX3_onTop_31 : decode cX3_onTop 31 = .ok (.aload_n 0, 1) := by decide +kernel
theorem dX3_onTop_32 : decode cX3_onTop 32 = .ok (.getfield 21, 3) := by decide +kernel
theorem dX3_onTop_35 : decode cX3_onTop 35 = .ok (.iload_n 2, 1) := by decide +kernel
theorem dX3_onTop_36 : decode cX3_onTop 36 = .ok (.iaload, 1) := by decide +kernel
theorem dX3_onTop_37 : decode cX3_onTop 37 = .ok (.iload_n 1, 1) := by decide +kernel
theorem dX3_onTop_38 : decode cX3_onTop 38 = .ok (.if_icmp .ne 5, 3) := by decide +kernel
theorem dX3_onTop_41 : decode cX3_onTop 41 = .ok (.iload_n 2, 1) := by decide +kernel
theorem dX3_onTop_42 : decode cX3_onTop 42 = .ok (.ireturn, 1) := by decide +kernel
theorem dX3_onTop_43 : decode cX3_onTop 43 = .ok (.iinc 2 1, 3) := by decide +kernel
theorem dX3_onTop_46 : decode cX3_onTop 46 = .ok (.goto (-23), 3) := by decide +kernel
theorem dX3_onTop_49 : decode cX3_onTop 49 = .ok (.iconst (-1), 1) := by decide +kernel
theorem dX3_onTop_50 : decode cX3_onTop 50 = .ok (.ireturn, 1) := by decide +kernel
theorem dX3_highestOver_0 : decode cX3_highestOver 0 = .ok (.iconst (-1), 1) := by decide +kernel
theorem dX3_highestOver_1 : decode cX3_highestOver 1 = .ok (.istore_n 2, 1) := by decide +kernel
theorem dX3_highestOver_2 : decode cX3_highestOver 2 = .ok (.aload_n 0, 1) := by decide +kernel
theorem dX3_highestOver_3 : decode cX3_highestOver 3 = .ok (.iload_n 1, 1) := by decide +kernel
theorem dX3_highestOver_4 : decode cX3_highestOver 4 = .ok (.invokevirtual 41, 3) := by decide +kernel
theorem dX3_highestOver_7 : decode cX3_highestOver 7 = .ok (.istore_n 3, 1) := by decide +kernel
theorem dX3_highestOver_8 : decode cX3_highestOver 8 = .ok (.iconst 0, 1) := by decide +kernel
theorem dX3_highestOver_9 : decode cX3_highestOver 9 = .ok (.istore 4, 2) := by decide +kernel
theorem dX3_highestOver_11 : decode cX3_highestOver 11 = .ok (.iload 4, 2) := by decide +kernel
theorem dX3_highestOver_13 : decode cX3_highestOver 13 = .ok (.bipush 16, 2) := by decide +kernel
theorem dX3_highestOver_15 : decode cX3_highestOver 15 = .ok (.if_icmp .ge 22, 3) := by decide +kernel
theorem dX3_highestOver_18 : decode cX3_highestOver 18 = .ok (.iload_n 3, 1) := by decide +kernel
theorem dX3_highestOver_19 : decode cX3_highestOver 19 = .ok (.iconst (-1), 1) := by decide +kernel
theorem dX3_highestOver_20 : decode cX3_highestOver 20 = .ok (.if_icmp .eq 17, 3) := by decide +kernel
theorem dX3_highestOver_23 : decode cX3_highestOver 23 = .ok (.iload_n 3, 1) := by decide +kernel
theorem dX3_highestOver_24 : decode cX3_highestOver 24 = .ok (.istore_n 2, 1) := by decide +kernel
theorem dX3_highestOver_25 : decode cX3_highestOver 25 = .ok (.aload_n 0, 1) := by decide +kernel
theorem dX3_highestOver_26 : decode cX3_highestOver 26 = .ok (.iload_n 3, 1) := by decide +kernel
theorem dX3_highestOver_27 : decode cX3_highestOver 27 = .ok (.invokevirtual 41, 3) := by decide +kernel
theorem dX3_highestOver_30 : decode cX3_highestOver 30 = .ok (.istore_n 3, 1) := by decide +kernel
theorem dX3_highestOver_31 : decode cX3_highestOver 31 = .ok (.iinc 4 1, 3) := by decide +kernel
theorem dX3_highestOver_34 : decode cX3_highestOver 34 = .ok (.goto (-23), 3) := by decide +kernel
theorem dX3_highestOver_37 : decode cX3_highestOver 37 = .ok (.iload_n 2, 1) := by decide +kernel
theorem dX3_highestOver_38 : decode cX3_highestOver 38 = .ok (.ireturn, 1) := by decide +kernel
theorem dX3_standsOver_0 : decode cX3_standsOver 0 = .ok (.aload_n 0, 1) := by decide +kernel
theorem dX3_standsOver_1 : decode cX3_standsOver 1 = .ok (.iload_n 1, 1) := by decide +kernel
theorem dX3_standsOver_2 : decode cX3_standsOver 2 = .ok (.invokevirtual 45, 3) := by decide +kernel
theorem dX3_standsOver_5 : decode cX3_standsOver 5 = .ok (.istore_n 3, 1) := by decide +kernel
theorem dX3_standsOver_6 : decode cX3_standsOver 6 = .ok (.iconst 0, 1) := by decide +kernel
theorem dX3_standsOver_7 : decode cX3_standsOver 7 = .ok (.istore 4, 2) := by decide +kernel
theorem dX3_standsOver_9 : decode cX3_standsOver 9 = .ok (.iload 4, 2) := by decide +kernel
theorem dX3_standsOver_11 : decode cX3_standsOver 11 = .ok (.bipush 16, 2) := by decide +kernel
theorem dX3_standsOver_13 : decode cX3_standsOver 13 = .ok (.if_icmp .ge 31, 3) := by decide +kernel
theorem dX3_standsOver_16 : decode cX3_standsOver 16 = .ok (.aload_n 0, 1) := by decide +kernel
theorem dX3_standsOver_17 : decode cX3_standsOver 17 = .ok (.iload_n 3, 1) := by decide +kernel
theorem dX3_standsOver_18 : decode cX3_standsOver 18 = .ok (.invokevirtual 37, 3) := by decide +kernel
theorem dX3_standsOver_21 : decode cX3_standsOver 21 = .ok (.ifCond .eq 23, 3) := by decide +kernel
theorem dX3_standsOver_24 : decode cX3_standsOver 24 = .ok (.iload_n 3, 1) := by decide +kernel
theorem dX3_standsOver_25 : decode cX3_standsOver 25 = .ok (.iload_n 2, 1) := by decide +kernel
theorem dX3_standsOver_26 : decode cX3_standsOver 26 = .ok (.if_icmp .ne 5, 3) := by decide +kernel
theorem dX3_standsOver_29 : decode cX3_standsOver 29 = .ok (.iconst 1, 1) := by decide +kernel
theorem dX3_standsOver_30 : decode cX3_standsOver 30 = .ok (.ireturn, 1) := by decide +kernel
theorem dX3_standsOver_31 : decode cX3_standsOver 31 = .ok (.aload_n 0, 1) := by decide +kernel
theorem dX3_standsOver_32 : decode cX3_standsOver 32 = .ok (.getfield 21, 3) := by decide +kernel
theorem dX3_standsOver_35 : decode cX3_standsOver 35 = .ok (.iload_n 3, 1) := by decide +kernel
theorem dX3_standsOver_36 : decode cX3_standsOver 36 = .ok (.iaload, 1) := by decide +kernel
theorem dX3_standsOver_37 : decode cX3_standsOver 37 = .ok (.istore_n 3, 1) := by decide +kernel
theorem dX3_standsOver_38 : decode cX3_standsOver 38 = .ok (.iinc 4 1, 3) := by decide +kernel
theorem dX3_standsOver_41 : decode cX3_standsOver 41 = .ok (.goto (-32), 3) := by decide +kernel
theorem dX3_standsOver_44 : decode cX3_standsOver 44 = .ok (.iconst 0, 1) := by decide +kernel
theorem dX3_standsOver_45 : decode cX3_standsOver 45 = .ok (.ireturn, 1) := by decide +kernel
theorem dX3_allows_0 : decode cX3_allows 0 = .ok (.iload_n 1, 1) := by decide +kernel
theorem dX3_allows_1 : decode cX3_allows 1 = .ok (.tableswitch 154 0 3 #[31, 72, 112, 131], 31) := by decide +kernel
theorem dX3_allows_32 : decode cX3_allows 32 = .ok (.aload_n 0, 1) := by decide +kernel
theorem dX3_allows_33 : decode cX3_allows 33 = .ok (.getfield 27, 3) := by decide +kernel
theorem dX3_allows_36 : decode cX3_allows 36 = .ok (.iconst (-1), 1) := by decide +kernel
theorem dX3_allows_37 : decode cX3_allows 37 = .ok (.if_icmp .ne 34, 3) := by decide +kernel
theorem dX3_allows_40 : decode cX3_allows 40 = .ok (.aload_n 0, 1) := by decide +kernel
theorem dX3_allows_41 : decode cX3_allows 41 = .ok (.iload_n 2, 1) := by decide +kernel
theorem dX3_allows_42 : decode cX3_allows 42 = .ok (.invokevirtual 37, 3) := by decide +kernel
theorem dX3_allows_45 : decode cX3_allows 45 = .ok (.ifCond .eq 26, 3) := by decide +kernel
theorem dX3_allows_48 : decode cX3_allows 48 = .ok (.aload_n 0, 1) := by decide +kernel
theorem dX3_allows_49 : decode cX3_allows 49 = .ok (.getfield 9, 3) := by decide +kernel
theorem dX3_allows_52 : decode cX3_allows 52 = .ok (.iload_n 2, 1) := by decide +kernel
theorem dX3_allows_53 : decode cX3_allows 53 = .ok (.iaload, 1) := by decide +kernel
theorem dX3_allows_54 : decode cX3_allows 54 = .ok (.iconst 2, 1) := by decide +kernel
theorem dX3_allows_55 : decode cX3_allows 55 = .ok (.if_icmp .eq 16, 3) := by decide +kernel
theorem dX3_allows_58 : decode cX3_allows 58 = .ok (.aload_n 0, 1) := by decide +kernel
theorem dX3_allows_59 : decode cX3_allows 59 = .ok (.iload_n 2, 1) := by decide +kernel
theorem dX3_allows_60 : decode cX3_allows 60 = .ok (.invokevirtual 41, 3) := by decide +kernel
theorem dX3_allows_63 : decode cX3_allows 63 = .ok (.iconst (-1), 1) := by decide +kernel
theorem dX3_allows_64 : decode cX3_allows 64 = .ok (.if_icmp .ne 7, 3) := by decide +kernel
theorem dX3_allows_67 : decode cX3_allows 67 = .ok (.iconst 1, 1) := by decide +kernel
theorem dX3_allows_68 : decode cX3_allows 68 = .ok (.goto 4, 3) := by decide +kernel
theorem dX3_allows_71 : decode cX3_allows 71 = .ok (.iconst 0, 1) := by decide +kernel
theorem dX3_allows_72 : decode cX3_allows 72 = .ok (.ireturn, 1) := by decide +kernel
theorem dX3_allows_73 : decode cX3_allows 73 = .ok (.aload_n 0, 1) := by decide +kernel
theorem dX3_allows_74 : decode cX3_allows 74 = .ok (.getfield 27, 3) := by decide +kernel
theorem dX3_allows_77 : decode cX3_allows 77 = .ok (.iconst (-1), 1) := by decide +kernel
theorem dX3_allows_78 : decode cX3_allows 78 = .ok (.if_icmp .eq 33, 3) := by decide +kernel
theorem dX3_allows_81 : decode cX3_allows 81 = .ok (.aload_n 0, 1) := by decide +kernel
theorem dX3_allows_82 : decode cX3_allows 82 = .ok (.getfield 27, 3) := by decide +kernel
theorem dX3_allows_85 : decode cX3_allows 85 = .ok (.iload_n 2, 1) := by decide +kernel
theorem dX3_allows_86 : decode cX3_allows 86 = .ok (.if_icmp .eq 25, 3) := by decide +kernel
theorem dX3_allows_89 : decode cX3_allows 89 = .ok (.aload_n 0, 1) := by decide +kernel
theorem dX3_allows_90 : decode cX3_allows 90 = .ok (.iload_n 2, 1) := by decide +kernel
theorem dX3_allows_91 : decode cX3_allows 91 = .ok (.iconst 0, 1) := by decide +kernel
theorem dX3_allows_92 : decode cX3_allows 92 = .ok (.invokevirtual 48, 3) := by decide +kernel
theorem dX3_allows_95 : decode cX3_allows 95 = .ok (.ifCond .eq 16, 3) := by decide +kernel
theorem dX3_allows_98 : decode cX3_allows 98 = .ok (.aload_n 0, 1) := by decide +kernel
theorem dX3_allows_99 : decode cX3_allows 99 = .ok (.iload_n 2, 1) := by decide +kernel
theorem dX3_allows_100 : decode cX3_allows 100 = .ok (.invokevirtual 41, 3) := by decide +kernel
theorem dX3_allows_103 : decode cX3_allows 103 = .ok (.iconst (-1), 1) := by decide +kernel
theorem dX3_allows_104 : decode cX3_allows 104 = .ok (.if_icmp .ne 7, 3) := by decide +kernel
theorem dX3_allows_107 : decode cX3_allows 107 = .ok (.iconst 1, 1) := by decide +kernel
theorem dX3_allows_108 : decode cX3_allows 108 = .ok (.goto 4, 3) := by decide +kernel
theorem dX3_allows_111 : decode cX3_allows 111 = .ok (.iconst 0, 1) := by decide +kernel
theorem dX3_allows_112 : decode cX3_allows 112 = .ok (.ireturn, 1) := by decide +kernel
theorem dX3_allows_113 : decode cX3_allows 113 = .ok (.aload_n 0, 1) := by decide +kernel
theorem dX3_allows_114 : decode cX3_allows 114 = .ok (.getfield 27, 3) := by decide +kernel
theorem dX3_allows_117 : decode cX3_allows 117 = .ok (.iconst (-1), 1) := by decide +kernel
theorem dX3_allows_118 : decode cX3_allows 118 = .ok (.if_icmp .eq 12, 3) := by decide +kernel
theorem dX3_allows_121 : decode cX3_allows 121 = .ok (.iload_n 2, 1) := by decide +kernel
theorem dX3_allows_122 : decode cX3_allows 122 = .ok (.iconst (-1), 1) := by decide +kernel
theorem dX3_allows_123 : decode cX3_allows 123 = .ok (.if_icmp .ne 7, 3) := by decide +kernel
theorem dX3_allows_126 : decode cX3_allows 126 = .ok (.iconst 1, 1) := by decide +kernel
theorem dX3_allows_127 : decode cX3_allows 127 = .ok (.goto 4, 3) := by decide +kernel
theorem dX3_allows_130 : decode cX3_allows 130 = .ok (.iconst 0, 1) := by decide +kernel
theorem dX3_allows_131 : decode cX3_allows 131 = .ok (.ireturn, 1) := by decide +kernel
theorem dX3_allows_132 : decode cX3_allows 132 = .ok (.aload_n 0, 1) := by decide +kernel
theorem dX3_allows_133 : decode cX3_allows 133 = .ok (.getfield 27, 3) := by decide +kernel
theorem dX3_allows_136 : decode cX3_allows 136 = .ok (.iconst (-1), 1) := by decide +kernel
theorem dX3_allows_137 : decode cX3_allows 137 = .ok (.if_icmp .eq 16, 3) := by decide +kernel
theorem dX3_allows_140 : decode cX3_allows 140 = .ok (.aload_n 0, 1) := by decide +kernel
theorem dX3_allows_141 : decode cX3_allows 141 = .ok (.iload_n 2, 1) := by decide +kernel
theorem dX3_allows_142 : decode cX3_allows 142 = .ok (.iconst 2, 1) := by decide +kernel
theorem dX3_allows_143 : decode cX3_allows 143 = .ok (.invokevirtual 48, 3) := by decide +kernel
theorem dX3_allows_146 : decode cX3_allows 146 = .ok (.ifCond .eq 7, 3) := by decide +kernel
theorem dX3_allows_149 : decode cX3_allows 149 = .ok (.iconst 1, 1) := by decide +kernel
theorem dX3_allows_150 : decode cX3_allows 150 = .ok (.goto 4, 3) := by decide +kernel
theorem dX3_allows_153 : decode cX3_allows 153 = .ok (.iconst 0, 1) := by decide +kernel
theorem dX3_allows_154 : decode cX3_allows 154 = .ok (.ireturn, 1) := by decide +kernel
theorem dX3_allows_155 : decode cX3_allows 155 = .ok (.iconst 0, 1) := by decide +kernel
theorem dX3_allows_156 : decode cX3_allows 156 = .ok (.ireturn, 1) := by decide +kernel
theorem dX3_perform_0 : decode cX3_perform 0 = .ok (.aload_n 0, 1) := by decide +kernel
theorem dX3_perform_1 : decode cX3_perform 1 = .ok (.getfield 34, 3) := by decide +kernel
theorem dX3_perform_4 : decode cX3_perform 4 = .ok (.sipush 200, 3) := by decide +kernel
theorem dX3_perform_7 : decode cX3_perform 7 = .ok (.if_icmp .ge 12, 3) := by decide +kernel
theorem dX3_perform_10 : decode cX3_perform 10 = .ok (.aload_n 0, 1) := by decide +kernel
theorem dX3_perform_11 : decode cX3_perform 11 = .ok (.iload_n 1, 1) := by decide +kernel
theorem dX3_perform_12 : decode cX3_perform 12 = .ok (.iload_n 2, 1) := by decide +kernel
theorem dX3_perform_13 : decode cX3_perform 13 = .ok (.invokevirtual 52, 3) := by decide +kernel
theorem dX3_perform_16 : decode cX3_perform 16 = .ok (.ifCond .ne 5, 3) := by decide +kernel
theorem dX3_perform_19 : decode cX3_perform 19 = .ok (.iconst (-1), 1) := by decide +kernel
theorem dX3_perform_20 : decode cX3_perform 20 = .ok (.ireturn, 1) := by decide +kernel
theorem dX3_perform_21 : decode cX3_perform 21 = .ok (.iload_n 1, 1) := by decide +kernel
theorem dX3_perform_22 : decode cX3_perform 22 = .ok (.ifCond .ne 7, 3) := by decide +kernel
theorem dX3_perform_25 : decode cX3_perform 25 = .ok (.iload_n 2, 1) := by decide +kernel
theorem dX3_perform_26 : decode cX3_perform 26 = .ok (.goto 7, 3) := by decide +kernel
theorem dX3_perform_29 : decode cX3_perform 29 = .ok (.aload_n 0, 1) := by decide +kernel
theorem dX3_perform_30 : decode cX3_perform 30 = .ok (.getfield 27, 3) := by decide +kernel
theorem dX3_perform_33 : decode cX3_perform 33 = .ok (.istore 5, 2) := by decide +kernel
theorem dX3_perform_35 : decode cX3_perform 35 = .ok (.iload_n 1, 1) := by decide +kernel
theorem dX3_perform_36 : decode cX3_perform 36 = .ok (.ifCond .ne 8, 3) := by decide +kernel
theorem dX3_perform_39 : decode cX3_perform 39 = .ok (.bipush 17, 2) := by decide +kernel
theorem dX3_perform_41 : decode cX3_perform 41 = .ok (.goto 14, 3) := by decide +kernel
theorem dX3_perform_44 : decode cX3_perform 44 = .ok (.iload_n 1, 1) := by decide +kernel
theorem dX3_perform_45 : decode cX3_perform 45 = .ok (.iconst 2, 1) := by decide +kernel
theorem dX3_perform_46 : decode cX3_perform 46 = .ok (.if_icmp .ne 8, 3) := by decide +kernel
theorem dX3_perform_49 : decode cX3_perform 49 = .ok (.bipush 16, 2) := by decide +kernel
theorem dX3_perform_51 : decode cX3_perform 51 = .ok (.goto 4, 3) := by decide +kernel
theorem dX3_perform_54 : decode cX3_perform 54 = .ok (.iload_n 2, 1) := by decide +kernel
theorem dX3_perform_55 : decode cX3_perform 55 = .ok (.istore 6, 2) := by decide +kernel
theorem dX3_perform_57 : decode cX3_perform 57 = .ok (.aload_n 0, 1) := by decide +kernel
theorem dX3_perform_58 : decode cX3_perform 58 = .ok (.getfield 34, 3) := by decide +kernel
theorem dX3_perform_61 : decode cX3_perform 61 = .ok (.bipush 6, 2) := by decide +kernel
theorem dX3_perform_63 : decode cX3_perform 63 = .ok (.imul, 1) := by decide +kernel
theorem dX3_perform_64 : decode cX3_perform 64 = .ok (.istore 7, 2) := by decide +kernel
theorem dX3_perform_66 : decode cX3_perform 66 = .ok (.aload_n 0, 1) := by decide +kernel
theorem dX3_perform_67 : decode cX3_perform 67 = .ok (.getfield 24, 3) := by decide +kernel
theorem dX3_perform_70 : decode cX3_perform 70 = .ok (.iload 7, 2) := by decide +kernel
theorem dX3_perform_72 : decode cX3_perform 72 = .ok (.iload_n 1, 1) := by decide +kernel
theorem dX3_perform_73 : decode cX3_perform 73 = .ok (.iastore, 1) := by decide +kernel
theorem dX3_perform_74 : decode cX3_perform 74 = .ok (.aload_n 0, 1) := by decide +kernel
theorem dX3_perform_75 : decode cX3_perform 75 = .ok (.getfield 24, 3) := by decide +kernel
theorem dX3_perform_78 : decode cX3_perform 78 = .ok (.iload 7, 2) := by decide +kernel
theorem dX3_perform_80 : decode cX3_perform 80 = .ok (.iconst 1, 1) := by decide +kernel
theorem dX3_perform_81 : decode cX3_perform 81 = .ok (.iadd, 1) := by decide +kernel
theorem dX3_perform_82 : decode cX3_perform 82 = .ok (.iload 5, 2) := by decide +kernel
theorem dX3_perform_84 : decode cX3_perform 84 = .ok (.iastore, 1) := by decide +kernel
theorem dX3_perform_85 : decode cX3_perform 85 = .ok (.aload_n 0, 1) := by decide +kernel
theorem dX3_perform_86 : decode cX3_perform 86 = .ok (.getfield 24, 3) := by decide +kernel
theorem dX3_perform_89 : decode cX3_perform 89 = .ok (.iload 7, 2) := by decide +kernel
theorem dX3_perform_91 : decode cX3_perform 91 = .ok (.iconst 2, 1) := by decide +kernel
theorem dX3_perform_92 : decode cX3_perform 92 = .ok (.iadd, 1) := by decide +kernel
theorem dX3_perform_93 : decode cX3_perform 93 = .ok (.iload 6, 2) := by decide +kernel
theorem dX3_perform_95 : decode cX3_perform 95 = .ok (.iastore, 1) := by decide +kernel
theorem dX3_perform_96 : decode cX3_perform 96 = .ok (.aload_n 0, 1) := by decide +kernel
theorem dX3_perform_97 : decode cX3_perform 97 = .ok (.getfield 24, 3) := by decide +kernel
theorem dX3_perform_100 : decode cX3_perform 100 = .ok (.iload 7, 2) := by decide +kernel
theorem dX3_perform_102 : decode cX3_perform 102 = .ok (.iconst 3, 1) := by decide +kernel
theorem dX3_perform_103 : decode cX3_perform 103 = .ok (.iadd, 1) := by decide +kernel
theorem dX3_perform_104 : decode cX3_perform 104 = .ok (.iload_n 3, 1) := by decide +kernel
theorem dX3_perform_105 : decode cX3_perform 105 = .ok (.iastore, 1) := by decide +kernel
theorem dX3_perform_106 : decode cX3_perform 106 = .ok (.aload_n 0, 1) := by decide +kernel
theorem dX3_perform_107 : decode cX3_perform 107 = .ok (.getfield 24, 3) := by decide +kernel
theorem dX3_perform_110 : decode cX3_perform 110 = .ok (.iload 7, 2) := by decide +kernel
theorem dX3_perform_112 : decode cX3_perform 112 = .ok (.iconst 4, 1) := by decide +kernel
theorem dX3_perform_113 : decode cX3_perform 113 = .ok (.iadd, 1) := by decide +kernel
theorem dX3_perform_114 : decode cX3_perform 114 = .ok (.iload 4, 2) := by decide +kernel
theorem dX3_perform_116 : decode cX3_perform 116 = .ok (.iastore, 1) := by decide +kernel
theorem dX3_perform_117 : decode cX3_perform 117 = .ok (.aload_n 0, 1) := by decide +kernel
theorem dX3_perform_118 : decode cX3_perform 118 = .ok (.getfield 24, 3) := by decide +kernel
theorem dX3_perform_121 : decode cX3_perform 121 = .ok (.iload 7, 2) := by decide +kernel
theorem dX3_perform_123 : decode cX3_perform 123 = .ok (.iconst 5, 1) := by decide +kernel
theorem dX3_perform_124 : decode cX3_perform 124 = .ok (.iadd, 1) := by decide +kernel
theorem dX3_perform_125 : decode cX3_perform 125 = .ok (.aload_n 0, 1) := by decide +kernel
theorem dX3_perform_126 : decode cX3_perform 126 = .ok (.iload 5, 2) := by decide +kernel
theorem dX3_perform_128 : decode cX3_perform 128 = .ok (.invokevirtual 45, 3) := by decide +kernel
theorem dX3_perform_131 : decode cX3_perform 131 = .ok (.iastore, 1) := by decide +kernel
theorem dX3_perform_132 : decode cX3_perform 132 = .ok (.aload_n 0, 1) := by decide +kernel
theorem dX3_perform_133 : decode cX3_perform 133 = .ok (.dup, 1) := by decide +kernel
theorem dX3_perform_134 : decode cX3_perform 134 = .ok (.getfield 34, 3) := by decide +kernel
theorem dX3_perform_137 : decode cX3_perform 137 = .ok (.iconst 1, 1) := by decide +kernel
theorem dX3_perform_138 : decode cX3_perform 138 = .ok (.iadd, 1) := by decide +kernel
theorem dX3_perform_139 : decode cX3_perform 139 = .ok (.putfield 34, 3) := by decide +kernel
theorem dX3_perform_142 : decode cX3_perform 142 = .ok (.aload_n 0, 1) := by decide +kernel
theorem dX3_perform_143 : decode cX3_perform 143 = .ok (.iload 5, 2) := by decide +kernel
theorem dX3_perform_145 : decode cX3_perform 145 = .ok (.iload 6, 2) := by decide +kernel
theorem dX3_perform_147 : decode cX3_perform 147 = .ok (.invokevirtual 55, 3) := by decide +kernel
theorem dX3_perform_150 : decode cX3_perform 150 = .ok (.aload_n 0, 1) := by decide +kernel
theorem dX3_perform_151 : decode cX3_perform 151 = .ok (.getfield 34, 3) := by decide +kernel
theorem dX3_perform_154 : decode cX3_perform 154 = .ok (.iconst 1, 1) := by decide +kernel
theorem dX3_perform_155 : decode cX3_perform 155 = .ok (.isub, 1) := by decide +kernel
theorem dX3_perform_156 : decode cX3_perform 156 = .ok (.ireturn, 1) := by decide +kernel
theorem dX3_move_0 : decode cX3_move 0 = .ok (.aload_n 0, 1) := by decide +kernel
theorem dX3_move_1 : decode cX3_move 1 = .ok (.iload_n 1, 1) := by decide +kernel
theorem dX3_move_2 : decode cX3_move 2 = .ok (.invokevirtual 37, 3) := by decide +kernel
theorem dX3_move_5 : decode cX3_move 5 = .ok (.ifCond .eq 25, 3) := by decide +kernel
theorem dX3_move_8 : decode cX3_move 8 = .ok (.aload_n 0, 1) := by decide +kernel
theorem dX3_move_9 : decode cX3_move 9 = .ok (.getfield 21, 3) := by decide +kernel
theorem dX3_move_12 : decode cX3_move 12 = .ok (.iload_n 1, 1) := by decide +kernel
theorem dX3_move_13 : decode cX3_move 13 = .ok (.iload_n 2, 1) := by decide +kernel
theorem dX3_move_14 : decode cX3_move 14 = .ok (.iastore, 1) := by decide +kernel
theorem dX3_move_15 : decode cX3_move 15 = .ok (.aload_n 0, 1) := by decide +kernel
theorem dX3_move_16 : decode cX3_move 16 = .ok (.iload_n 2, 1) := by decide +kernel
theorem dX3_move_17 : decode cX3_move 17 = .ok (.bipush 17, 2) := by decide +kernel
theorem dX3_move_19 : decode cX3_move 19 = .ok (.if_icmp .ne 7, 3) := by decide +kernel
theorem dX3_move_22 : decode cX3_move 22 = .ok (.iload_n 1, 1) := by decide +kernel
theorem dX3_move_23 : decode cX3_move 23 = .ok (.goto 4, 3) := by decide +kernel
theorem dX3_move_26 : decode cX3_move 26 = .ok (.iconst (-1), 1) := by decide +kernel
theorem dX3_move_27 : decode cX3_move 27 = .ok (.putfield 27, 3) := by decide +kernel
theorem dX3_move_30 : decode cX3_move 30 = .ok (.return_, 1) := by decide +kernel
theorem dX3_takeBack_0 : decode cX3_takeBack 0 = .ok (.aload_n 0, 1) := by decide +kernel
theorem dX3_takeBack_1 : decode cX3_takeBack 1 = .ok (.getfield 34, 3) := by decide +kernel
theorem dX3_takeBack_4 : decode cX3_takeBack 4 = .ok (.ifCond .ne 5, 3) := by decide +kernel
theorem dX3_takeBack_7 : decode cX3_takeBack 7 = .ok (.iconst (-1), 1) := by decide +kernel
theorem dX3_takeBack_8 : decode cX3_takeBack 8 = .ok (.ireturn, 1) := by decide +kernel
theorem dX3_takeBack_9 : decode cX3_takeBack 9 = .ok (.aload_n 0, 1) := by decide +kernel
theorem dX3_takeBack_10 : decode cX3_takeBack 10 = .ok (.dup, 1) := by decide +kernel
theorem dX3_takeBack_11 : decode cX3_takeBack 11 = .ok (.getfield 34, 3) := by decide +kernel
theorem dX3_takeBack_14 : decode cX3_takeBack 14 = .ok (.iconst 1, 1) := by decide +kernel
theorem dX3_takeBack_15 : decode cX3_takeBack 15 = .ok (.isub, 1) := by decide +kernel
theorem dX3_takeBack_16 : decode cX3_takeBack 16 = .ok (.putfield 34, 3) := by decide +kernel
theorem dX3_takeBack_19 : decode cX3_takeBack 19 = .ok (.aload_n 0, 1) := by decide +kernel
theorem dX3_takeBack_20 : decode cX3_takeBack 20 = .ok (.getfield 34, 3) := by decide +kernel
theorem dX3_takeBack_23 : decode cX3_takeBack 23 = .ok (.bipush 6, 2) := by decide +kernel
theorem dX3_takeBack_25 : decode cX3_takeBack 25 = .ok (.imul, 1) := by decide +kernel
theorem dX3_takeBack_26 : decode cX3_takeBack 26 = .ok (.istore_n 1, 1) := by decide +kernel
theorem dX3_takeBack_27 : decode cX3_takeBack 27 = .ok (.aload_n 0, 1) := by decide +kernel
theorem dX3_takeBack_28 : decode cX3_takeBack 28 = .ok (.aload_n 0, 1) := by decide +kernel
theorem dX3_takeBack_29 : decode cX3_takeBack 29 = .ok (.getfield 24, 3) := by decide +kernel
theorem dX3_takeBack_32 : decode cX3_takeBack 32 = .ok (.iload_n 1, 1) := by decide +kernel
theorem dX3_takeBack_33 : decode cX3_takeBack 33 = .ok (.iconst 1, 1) := by decide +kernel
theorem dX3_takeBack_34 : decode cX3_takeBack 34 = .ok (.iadd, 1) := by decide +kernel
theorem dX3_takeBack_35 : decode cX3_takeBack 35 = .ok (.iaload, 1) := by decide +kernel
theorem dX3_takeBack_36 : decode cX3_takeBack 36 = .ok (.aload_n 0, 1) := by decide +kernel
theorem dX3_takeBack_37 : decode cX3_takeBack 37 = .ok (.getfield 24, 3) := by decide +kernel
theorem dX3_takeBack_40 : decode cX3_takeBack 40 = .ok (.iload_n 1, 1) := by decide +kernel
theorem dX3_takeBack_41 : decode cX3_takeBack 41 = .ok (.iconst 5, 1) := by decide +kernel
theorem dX3_takeBack_42 : decode cX3_takeBack 42 = .ok (.iadd, 1) := by decide +kernel
theorem dX3_takeBack_43 : decode cX3_takeBack 43 = .ok (.iaload, 1) := by decide +kernel
theorem dX3_takeBack_44 : decode cX3_takeBack 44 = .ok (.invokevirtual 55, 3) := by decide +kernel
theorem dX3_takeBack_47 : decode cX3_takeBack 47 = .ok (.aload_n 0, 1) := by decide +kernel
theorem dX3_takeBack_48 : decode cX3_takeBack 48 = .ok (.getfield 34, 3) := by decide +kernel
theorem dX3_takeBack_51 : decode cX3_takeBack 51 = .ok (.ireturn, 1) := by decide +kernel
theorem dX3_partOfEvent_0 : decode cX3_partOfEvent 0 = .ok (.iload_n 1, 1) := by decide +kernel
theorem dX3_partOfEvent_1 : decode cX3_partOfEvent 1 = .ok (.ifCond .lt 21, 3) := by decide +kernel
theorem dX3_partOfEvent_4 : decode cX3_partOfEvent 4 = .ok (.iload_n 1, 1) := by decide +kernel
theorem dX3_partOfEvent_5 : decode cX3_partOfEvent 5 = .ok (.aload_n 0, 1) := by decide +kernel
theorem dX3_partOfEvent_6 : decode cX3_partOfEvent 6 = .ok (.getfield 34, 3) := by decide +kernel
theorem dX3_partOfEvent_9 : decode cX3_partOfEvent 9 = .ok (.if_icmp .ge 13, 3) := by decide +kernel
theorem dX3_partOfEvent_12 : decode cX3_partOfEvent 12 = .ok (.iload_n 2, 1) := by decide +kernel
theorem dX3_partOfEvent_13 : decode cX3_partOfEvent 13 = .ok (.ifCond .lt 9, 3) := by decide +kernel
theorem dX3_partOfEvent_16 : decode cX3_partOfEvent 16 = .ok (.iload_n 2, 1) := by decide +kernel
theorem dX3_partOfEvent_17 : decode cX3_partOfEvent 17 = .ok (.bipush 6, 2) := by decide +kernel
theorem dX3_partOfEvent_19 : decode cX3_partOfEvent 19 = .ok (.if_icmp .lt 5, 3) := by decide +kernel
theorem dX3_partOfEvent_22 : decode cX3_partOfEvent 22 = .ok (.iconst (-1), 1) := by decide +kernel
theorem dX3_partOfEvent_23 : decode cX3_partOfEvent 23 = .ok (.ireturn, 1) := by decide +kernel
theorem dX3_partOfEvent_24 : decode cX3_partOfEvent 24 = .ok (.aload_n 0, 1) := by decide +kernel
theorem dX3_partOfEvent_25 : decode cX3_partOfEvent 25 = .ok (.getfield 24, 3) := by decide +kernel
theorem dX3_partOfEvent_28 : decode cX3_partOfEvent 28 = .ok (.iload_n 1, 1) := by decide +kernel
theorem dX3_partOfEvent_29 : decode cX3_partOfEvent 29 = .ok (.bipush 6, 2) := by decide +kernel
theorem dX3_partOfEvent_31 : decode cX3_partOfEvent 31 = .ok (.imul, 1) := by decide +kernel
theorem dX3_partOfEvent_32 : decode cX3_partOfEvent 32 = .ok (.iload_n 2, 1) := by decide +kernel
theorem dX3_partOfEvent_33 : decode cX3_partOfEvent 33 = .ok (.iadd, 1) := by decide +kernel
theorem dX3_partOfEvent_34 : decode cX3_partOfEvent 34 = .ok (.iaload, 1) := by decide +kernel
theorem dX3_partOfEvent_35 : decode cX3_partOfEvent 35 = .ok (.ireturn, 1) := by decide +kernel
theorem dX3_placeBehind_0 : decode cX3_placeBehind 0 = .ok (.aload_n 0, 1) := by decide +kernel
theorem dX3_placeBehind_1 : decode cX3_placeBehind 1 = .ok (.iload_n 1, 1) := by decide +kernel
theorem dX3_placeBehind_2 : decode cX3_placeBehind 2 = .ok (.invokevirtual 37, 3) := by decide +kernel
theorem dX3_placeBehind_5 : decode cX3_placeBehind 5 = .ok (.ifCond .eq 15, 3) := by decide +kernel
theorem dX3_placeBehind_8 : decode cX3_placeBehind 8 = .ok (.iload_n 2, 1) := by decide +kernel
theorem dX3_placeBehind_9 : decode cX3_placeBehind 9 = .ok (.ifCond .lt 11, 3) := by decide +kernel
theorem dX3_placeBehind_12 : decode cX3_placeBehind 12 = .ok (.iload_n 2, 1) := by decide +kernel
theorem dX3_placeBehind_13 : decode cX3_placeBehind 13 = .ok (.aload_n 0, 1) := by decide +kernel
theorem dX3_placeBehind_14 : decode cX3_placeBehind 14 = .ok (.getfield 34, 3) := by decide +kernel
theorem dX3_placeBehind_17 : decode cX3_placeBehind 17 = .ok (.if_icmp .lt 5, 3) := by decide +kernel
theorem dX3_placeBehind_20 : decode cX3_placeBehind 20 = .ok (.iconst (-1), 1) := by decide +kernel
theorem dX3_placeBehind_21 : decode cX3_placeBehind 21 = .ok (.ireturn, 1) := by decide +kernel
theorem dX3_placeBehind_22 : decode cX3_placeBehind 22 = .ok (.iload_n 2, 1) := by decide +kernel
theorem dX3_placeBehind_23 : decode cX3_placeBehind 23 = .ok (.istore_n 3, 1) := by decide +kernel
theorem dX3_placeBehind_24 : decode cX3_placeBehind 24 = .ok (.iload_n 3, 1) := by decide +kernel
theorem dX3_placeBehind_25 : decode cX3_placeBehind 25 = .ok (.ifCond .lt 36, 3) := by decide +kernel
theorem dX3_placeBehind_28 : decode cX3_placeBehind 28 = .ok (.aload_n 0, 1) := by decide +kernel
theorem dX3_placeBehind_29 : decode cX3_placeBehind 29 = .ok (.getfield 24, 3) := by decide +kernel
theorem dX3_placeBehind_32 : decode cX3_placeBehind 32 = .ok (.iload_n 3, 1) := by decide +kernel
theorem dX3_placeBehind_33 : decode cX3_placeBehind 33 = .ok (.bipush 6, 2) := by decide +kernel
theorem dX3_placeBehind_35 : decode cX3_placeBehind 35 = .ok (.imul, 1) := by decide +kernel
theorem dX3_placeBehind_36 : decode cX3_placeBehind 36 = .ok (.iconst 1, 1) := by decide +kernel
theorem dX3_placeBehind_37 : decode cX3_placeBehind 37 = .ok (.iadd, 1) := by decide +kernel
theorem dX3_placeBehind_38 : decode cX3_placeBehind 38 = .ok (.iaload, 1) := by decide +kernel
theorem dX3_placeBehind_39 : decode cX3_placeBehind 39 = .ok (.iload_n 1, 1) := by decide +kernel
theorem dX3_placeBehind_40 : decode cX3_placeBehind 40 = .ok (.if_icmp .ne 15, 3) := by decide +kernel
theorem dX3_placeBehind_43 : decode cX3_placeBehind 43 = .ok (.aload_n 0, 1) := by decide +kernel
theorem dX3_placeBehind_44 : decode cX3_placeBehind 44 = .ok (.getfield 24, 3) := by decide +kernel
theorem dX3_placeBehind_47 : decode cX3_placeBehind 47 = .ok (.iload_n 3, 1) := by decide +kernel
theorem dX3_placeBehind_48 : decode cX3_placeBehind 48 = .ok (.bipush 6, 2) := by decide +kernel
theorem dX3_placeBehind_50 : decode cX3_placeBehind 50 = .ok (.imul, 1) := by decide +kernel
theorem dX3_placeBehind_51 : decode cX3_placeBehind 51 = .ok (.iconst 2, 1) := by decide +kernel
theorem dX3_placeBehind_52 : decode cX3_placeBehind 52 = .ok (.iadd, 1) := by decide +kernel
theorem dX3_placeBehind_53 : decode cX3_placeBehind 53 = .ok (.iaload, 1) := by decide +kernel
theorem dX3_placeBehind_54 : decode cX3_placeBehind 54 = .ok (.ireturn, 1) := by decide +kernel
theorem dX3_placeBehind_55 : decode cX3_placeBehind 55 = .ok (.iinc 3 (-1), 3) := by decide +kernel
theorem dX3_placeBehind_58 : decode cX3_placeBehind 58 = .ok (.goto (-34), 3) := by decide +kernel
theorem dX3_placeBehind_61 : decode cX3_placeBehind 61 = .ok (.bipush 16, 2) := by decide +kernel
theorem dX3_placeBehind_63 : decode cX3_placeBehind 63 = .ok (.ireturn, 1) := by decide +kernel
theorem dX3_eventsOf_0 : decode cX3_eventsOf 0 = .ok (.iconst 0, 1) := by decide +kernel
theorem dX3_eventsOf_1 : decode cX3_eventsOf 1 = .ok (.istore_n 2, 1) := by decide +kernel
theorem dX3_eventsOf_2 : decode cX3_eventsOf 2 = .ok (.iconst 0, 1) := by decide +kernel
theorem dX3_eventsOf_3 : decode cX3_eventsOf 3 = .ok (.istore_n 3, 1) := by decide +kernel
theorem dX3_eventsOf_4 : decode cX3_eventsOf 4 = .ok (.iload_n 3, 1) := by decide +kernel
theorem dX3_eventsOf_5 : decode cX3_eventsOf 5 = .ok (.aload_n 0, 1) := by decide +kernel
theorem dX3_eventsOf_6 : decode cX3_eventsOf 6 = .ok (.getfield 34, 3) := by decide +kernel
theorem dX3_eventsOf_9 : decode cX3_eventsOf 9 = .ok (.if_icmp .ge 27, 3) := by decide +kernel
theorem dX3_eventsOf_12 : decode cX3_eventsOf 12 = .ok (.aload_n 0, 1) := by decide +kernel
theorem dX3_eventsOf_13 : decode cX3_eventsOf 13 = .ok (.getfield 24, 3) := by decide +kernel
theorem dX3_eventsOf_16 : decode cX3_eventsOf 16 = .ok (.iload_n 3, 1) := by decide +kernel
theorem dX3_eventsOf_17 : decode cX3_eventsOf 17 = .ok (.bipush 6, 2) := by decide +kernel
theorem dX3_eventsOf_19 : decode cX3_eventsOf 19 = .ok (.imul, 1) := by decide +kernel
theorem dX3_eventsOf_20 : decode cX3_eventsOf 20 = .ok (.iconst 4, 1) := by decide +kernel
theorem dX3_eventsOf_21 : decode cX3_eventsOf 21 = .ok (.iadd, 1) := by decide +kernel
theorem dX3_eventsOf_22 : decode cX3_eventsOf 22 = .ok (.iaload, 1) := by decide +kernel
theorem dX3_eventsOf_23 : decode cX3_eventsOf 23 = .ok (.iload_n 1, 1) := by decide +kernel
theorem dX3_eventsOf_24 : decode cX3_eventsOf 24 = .ok (.if_icmp .ne 6, 3) := by decide +kernel
theorem dX3_eventsOf_27 : decode cX3_eventsOf 27 = .ok (.iinc 2 1, 3) := by decide +kernel
theorem dX3_eventsOf_30 : decode cX3_eventsOf 30 = .ok (.iinc 3 1, 3) := by decide +kernel
theorem dX3_eventsOf_33 : decode cX3_eventsOf 33 = .ok (.goto (-29), 3) := by decide +kernel
theorem dX3_eventsOf_36 : decode cX3_eventsOf 36 = .ok (.iload_n 2, 1) := by decide +kernel
theorem dX3_eventsOf_37 : decode cX3_eventsOf 37 = .ok (.ireturn, 1) := by decide +kernel
theorem dX3_lastMoved_0 : decode cX3_lastMoved 0 = .ok (.aload_n 0, 1) := by decide +kernel
theorem dX3_lastMoved_1 : decode cX3_lastMoved 1 = .ok (.aload_n 0, 1) := by decide +kernel
theorem dX3_lastMoved_2 : decode cX3_lastMoved 2 = .ok (.getfield 34, 3) := by decide +kernel
theorem dX3_lastMoved_5 : decode cX3_lastMoved 5 = .ok (.iconst 1, 1) := by decide +kernel
theorem dX3_lastMoved_6 : decode cX3_lastMoved 6 = .ok (.isub, 1) := by decide +kernel
theorem dX3_lastMoved_7 : decode cX3_lastMoved 7 = .ok (.iconst 1, 1) := by decide +kernel
theorem dX3_lastMoved_8 : decode cX3_lastMoved 8 = .ok (.invokevirtual 59, 3) := by decide +kernel
theorem dX3_lastMoved_11 : decode cX3_lastMoved 11 = .ok (.ireturn, 1) := by decide +kernel
theorem dX3_allOf_0 : decode cX3_allOf 0 = .ok (.iconst 0, 1) := by decide +kernel
theorem dX3_allOf_1 : decode cX3_allOf 1 = .ok (.istore_n 2, 1) := by decide +kernel
theorem dX3_allOf_2 : decode cX3_allOf 2 = .ok (.iconst 0, 1) := by decide +kernel
theorem dX3_allOf_3 : decode cX3_allOf 3 = .ok (.istore_n 3, 1) := by decide +kernel
theorem dX3_allOf_4 : decode cX3_allOf 4 = .ok (.iload_n 3, 1) := by decide +kernel
theorem dX3_allOf_5 : decode cX3_allOf 5 = .ok (.aload_n 0, 1) := by decide +kernel
theorem dX3_allOf_6 : decode cX3_allOf 6 = .ok (.getfield 31, 3) := by decide +kernel
theorem dX3_allOf_9 : decode cX3_allOf 9 = .ok (.if_icmp .ge 31, 3) := by decide +kernel
theorem dX3_allOf_12 : decode cX3_allOf 12 = .ok (.iload_n 1, 1) := by decide +kernel
theorem dX3_allOf_13 : decode cX3_allOf 13 = .ok (.ifCond .eq 15, 3) := by decide +kernel
theorem dX3_allOf_16 : decode cX3_allOf 16 = .ok (.aload_n 0, 1) := by decide +kernel
theorem dX3_allOf_17 : decode cX3_allOf 17 = .ok (.getfield 9, 3) := by decide +kernel
theorem dX3_allOf_20 : decode cX3_allOf 20 = .ok (.iload_n 3, 1) := by decide +kernel
theorem dX3_allOf_21 : decode cX3_allOf 21 = .ok (.iaload, 1) := by decide +kernel
theorem dX3_allOf_22 : decode cX3_allOf 22 = .ok (.iload_n 1, 1) := by decide +kernel
theorem dX3_allOf_23 : decode cX3_allOf 23 = .ok (.iconst 1, 1) := by decide +kernel
theorem dX3_allOf_24 : decode cX3_allOf 24 = .ok (.isub, 1) := by decide +kernel
theorem dX3_allOf_25 : decode cX3_allOf 25 = .ok (.if_icmp .ne 9, 3) := by decide +kernel
theorem dX3_allOf_28 : decode cX3_allOf 28 = .ok (.iload_n 2, 1) := by decide +kernel
theorem dX3_allOf_29 : decode cX3_allOf 29 = .ok (.iconst 1, 1) := by decide +kernel
theorem dX3_allOf_30 : decode cX3_allOf 30 = .ok (.iload_n 3, 1) := by decide +kernel
theorem dX3_allOf_31 : decode cX3_allOf 31 = .ok (.ishl, 1) := by decide +kernel
theorem dX3_allOf_32 : decode cX3_allOf 32 = .ok (.ior, 1) := by decide +kernel
theorem dX3_allOf_33 : decode cX3_allOf 33 = .ok (.istore_n 2, 1) := by decide +kernel
theorem dX3_allOf_34 : decode cX3_allOf 34 = .ok (.iinc 3 1, 3) := by decide +kernel
theorem dX3_allOf_37 : decode cX3_allOf 37 = .ok (.goto (-33), 3) := by decide +kernel
theorem dX3_allOf_40 : decode cX3_allOf 40 = .ok (.iload_n 2, 1) := by decide +kernel
theorem dX3_allOf_41 : decode cX3_allOf 41 = .ok (.ireturn, 1) := by decide +kernel
theorem dX3_looks_0 : decode cX3_looks 0 = .ok (.iload_n 1, 1) := by decide +kernel
theorem dX3_looks_1 : decode cX3_looks 1 = .ok (.ifCond .lt 11, 3) := by decide +kernel
theorem dX3_looks_4 : decode cX3_looks 4 = .ok (.iload_n 1, 1) := by decide +kernel
theorem dX3_looks_5 : decode cX3_looks 5 = .ok (.aload_n 0, 1) := by decide +kernel
theorem dX3_looks_6 : decode cX3_looks 6 = .ok (.getfield 31, 3) := by decide +kernel
theorem dX3_looks_9 : decode cX3_looks 9 = .ok (.if_icmp .lt 5, 3) := by decide +kernel
theorem dX3_looks_12 : decode cX3_looks 12 = .ok (.iconst 0, 1) := by decide +kernel
theorem dX3_looks_13 : decode cX3_looks 13 = .ok (.ireturn, 1) := by decide +kernel
theorem dX3_looks_14 : decode cX3_looks 14 = .ok (.iload_n 2, 1) := by decide +kernel
theorem dX3_looks_15 : decode cX3_looks 15 = .ok (.bipush 9, 2) := by decide +kernel
theorem dX3_looks_17 : decode cX3_looks 17 = .ok (.if_icmp .eq 9, 3) := by decide +kernel
theorem dX3_looks_20 : decode cX3_looks 20 = .ok (.iload_n 2, 1) := by decide +kernel
theorem dX3_looks_21 : decode cX3_looks 21 = .ok (.bipush 10, 2) := by decide +kernel
theorem dX3_looks_23 : decode cX3_looks 23 = .ok (.if_icmp .ne 38, 3) := by decide +kernel
theorem dX3_looks_26 : decode cX3_looks 26 = .ok (.aload_n 0, 1) := by decide +kernel
theorem dX3_looks_27 : decode cX3_looks 27 = .ok (.getfield 18, 3) := by decide +kernel
theorem dX3_looks_30 : decode cX3_looks 30 = .ok (.iload_n 1, 1) := by decide +kernel
theorem dX3_looks_31 : decode cX3_looks 31 = .ok (.iaload, 1) := by decide +kernel
theorem dX3_looks_32 : decode cX3_looks 32 = .ok (.iconst 5, 1) := by decide +kernel
theorem dX3_looks_33 : decode cX3_looks 33 = .ok (.if_icmp .lt 7, 3) := by decide +kernel
theorem dX3_looks_36 : decode cX3_looks 36 = .ok (.iconst 1, 1) := by decide +kernel
theorem dX3_looks_37 : decode cX3_looks 37 = .ok (.goto 4, 3) := by decide +kernel
theorem dX3_looks_40 : decode cX3_looks 40 = .ok (.iconst 0, 1) := by decide +kernel
theorem dX3_looks_41 : decode cX3_looks 41 = .ok (.iload_n 2, 1) := by decide +kernel
theorem dX3_looks_42 : decode cX3_looks 42 = .ok (.bipush 9, 2) := by decide +kernel
theorem dX3_looks_44 : decode cX3_looks 44 = .ok (.if_icmp .ne 7, 3) := by decide +kernel
theorem dX3_looks_47 : decode cX3_looks 47 = .ok (.iconst 1, 1) := by decide +kernel
theorem dX3_looks_48 : decode cX3_looks 48 = .ok (.goto 4, 3) := by decide +kernel
theorem dX3_looks_51 : decode cX3_looks 51 = .ok (.iconst 0, 1) := by decide +kernel
theorem dX3_looks_52 : decode cX3_looks 52 = .ok (.if_icmp .ne 7, 3) := by decide +kernel
theorem dX3_looks_55 : decode cX3_looks 55 = .ok (.iconst 1, 1) := by decide +kernel
theorem dX3_looks_56 : decode cX3_looks 56 = .ok (.goto 4, 3) := by decide +kernel
theorem dX3_looks_59 : decode cX3_looks 59 = .ok (.iconst 0, 1) := by decide +kernel
theorem dX3_looks_60 : decode cX3_looks 60 = .ok (.ireturn, 1) := by decide +kernel
theorem dX3_looks_61 : decode cX3_looks 61 = .ok (.aload_n 0, 1) := by decide +kernel
theorem dX3_looks_62 : decode cX3_looks 62 = .ok (.getfield 15, 3) := by decide +kernel
theorem dX3_looks_65 : decode cX3_looks 65 = .ok (.iload_n 1, 1) := by decide +kernel
theorem dX3_looks_66 : decode cX3_looks 66 = .ok (.iaload, 1) := by decide +kernel
theorem dX3_looks_67 : decode cX3_looks 67 = .ok (.iload_n 2, 1) := by decide +kernel
theorem dX3_looks_68 : decode cX3_looks 68 = .ok (.iconst 5, 1) := by decide +kernel
theorem dX3_looks_69 : decode cX3_looks 69 = .ok (.isub, 1) := by decide +kernel
theorem dX3_looks_70 : decode cX3_looks 70 = .ok (.if_icmp .ne 7, 3) := by decide +kernel
theorem dX3_looks_73 : decode cX3_looks 73 = .ok (.iconst 1, 1) := by decide +kernel
theorem dX3_looks_74 : decode cX3_looks 74 = .ok (.goto 4, 3) := by decide +kernel
theorem dX3_looks_77 : decode cX3_looks 77 = .ok (.iconst 0, 1) := by decide +kernel
theorem dX3_looks_78 : decode cX3_looks 78 = .ok (.ireturn, 1) := by decide +kernel
theorem dX3_related_0 : decode cX3_related 0 = .ok (.iload_n 2, 1) := by decide +kernel
theorem dX3_related_1 : decode cX3_related 1 = .ok (.bipush 26, 2) := by decide +kernel
theorem dX3_related_3 : decode cX3_related 3 = .ok (.if_icmp .ne 7, 3) := by decide +kernel
theorem dX3_related_6 : decode cX3_related 6 = .ok (.iconst 2, 1) := by decide +kernel
theorem dX3_related_7 : decode cX3_related 7 = .ok (.goto 4, 3) := by decide +kernel
theorem dX3_related_10 : decode cX3_related 10 = .ok (.iconst 0, 1) := by decide +kernel
theorem dX3_related_11 : decode cX3_related 11 = .ok (.istore 4, 2) := by decide +kernel
theorem dX3_related_13 : decode cX3_related 13 = .ok (.iconst 0, 1) := by decide +kernel
theorem dX3_related_14 : decode cX3_related 14 = .ok (.istore 5, 2) := by decide +kernel
theorem dX3_related_16 : decode cX3_related 16 = .ok (.iconst 0, 1) := by decide +kernel
theorem dX3_related_17 : decode cX3_related 17 = .ok (.istore 6, 2) := by decide +kernel
theorem dX3_related_19 : decode cX3_related 19 = .ok (.iload 6, 2) := by decide +kernel
theorem dX3_related_21 : decode cX3_related 21 = .ok (.aload_n 0, 1) := by decide +kernel
theorem dX3_related_22 : decode cX3_related 22 = .ok (.getfield 31, 3) := by decide +kernel
theorem dX3_related_25 : decode cX3_related 25 = .ok (.if_icmp .ge 73, 3) := by decide +kernel
theorem dX3_related_28 : decode cX3_related 28 = .ok (.aload_n 0, 1) := by decide +kernel
theorem dX3_related_29 : decode cX3_related 29 = .ok (.getfield 21, 3) := by decide +kernel
theorem dX3_related_32 : decode cX3_related 32 = .ok (.iload 6, 2) := by decide +kernel
theorem dX3_related_34 : decode cX3_related 34 = .ok (.iaload, 1) := by decide +kernel
theorem dX3_related_35 : decode cX3_related 35 = .ok (.istore 7, 2) := by decide +kernel
theorem dX3_related_37 : decode cX3_related 37 = .ok (.aload_n 0, 1) := by decide +kernel
theorem dX3_related_38 : decode cX3_related 38 = .ok (.iload 7, 2) := by decide +kernel
theorem dX3_related_40 : decode cX3_related 40 = .ok (.iload 4, 2) := by decide +kernel
theorem dX3_related_42 : decode cX3_related 42 = .ok (.invokevirtual 48, 3) := by decide +kernel
theorem dX3_related_45 : decode cX3_related 45 = .ok (.ifCond .eq 47, 3) := by decide +kernel
theorem dX3_related_48 : decode cX3_related 48 = .ok (.iload_n 2, 1) := by decide +kernel
theorem dX3_related_49 : decode cX3_related 49 = .ok (.bipush 27, 2) := by decide +kernel
theorem dX3_related_51 : decode cX3_related 51 = .ok (.if_icmp .ne 8, 3) := by decide +kernel
theorem dX3_related_54 : decode cX3_related 54 = .ok (.iload 6, 2) := by decide +kernel
theorem dX3_related_56 : decode cX3_related 56 = .ok (.goto 5, 3) := by decide +kernel
theorem dX3_related_59 : decode cX3_related 59 = .ok (.iload 7, 2) := by decide +kernel
theorem dX3_related_61 : decode cX3_related 61 = .ok (.istore 8, 2) := by decide +kernel
theorem dX3_related_63 : decode cX3_related 63 = .ok (.iload_n 2, 1) := by decide +kernel
theorem dX3_related_64 : decode cX3_related 64 = .ok (.bipush 27, 2) := by decide +kernel
theorem dX3_related_66 : decode cX3_related 66 = .ok (.if_icmp .ne 8, 3) := by decide +kernel
theorem dX3_related_69 : decode cX3_related 69 = .ok (.iload 7, 2) := by decide +kernel
theorem dX3_related_71 : decode cX3_related 71 = .ok (.goto 5, 3) := by decide +kernel
theorem dX3_related_74 : decode cX3_related 74 = .ok (.iload 6, 2) := by decide +kernel
theorem dX3_related_76 : decode cX3_related 76 = .ok (.istore 9, 2) := by decide +kernel
theorem dX3_related_78 : decode cX3_related 78 = .ok (.iload 5, 2) := by decide +kernel
theorem dX3_related_80 : decode cX3_related 80 = .ok (.iload_n 3, 1) := by decide +kernel
theorem dX3_related_81 : decode cX3_related 81 = .ok (.iload 8, 2) := by decide +kernel
theorem dX3_related_83 : decode cX3_related 83 = .ok (.ishr, 1) := by decide +kernel
theorem dX3_related_84 : decode cX3_related 84 = .ok (.iconst 1, 1) := by decide +kernel
theorem dX3_related_85 : decode cX3_related 85 = .ok (.iand, 1) := by decide +kernel
theorem dX3_related_86 : decode cX3_related 86 = .ok (.iload 9, 2) := by decide +kernel
theorem dX3_related_88 : decode cX3_related 88 = .ok (.ishl, 1) := by decide +kernel
theorem dX3_related_89 : decode cX3_related 89 = .ok (.ior, 1) := by decide +kernel
theorem dX3_related_90 : decode cX3_related 90 = .ok (.istore 5, 2) := by decide +kernel
theorem dX3_related_92 : decode cX3_related 92 = .ok (.iinc 6 1, 3) := by decide +kernel
theorem dX3_related_95 : decode cX3_related 95 = .ok (.goto (-76), 3) := by decide +kernel
theorem dX3_related_98 : decode cX3_related 98 = .ok (.iload_n 1, 1) := by decide +kernel
theorem dX3_related_99 : decode cX3_related 99 = .ok (.iload 5, 2) := by decide +kernel
theorem dX3_related_101 : decode cX3_related 101 = .ok (.iand, 1) := by decide +kernel
theorem dX3_related_102 : decode cX3_related 102 = .ok (.ireturn, 1) := by decide +kernel
theorem dX4_init_0 : decode cX4_init 0 = .ok (.aload_n 0, 1) := by decide +kernel
theorem dX4_init_1 : decode cX4_init 1 = .ok (.invokespecial 3, 3) := by decide +kernel
theorem dX4_init_4 : decode cX4_init 4 = .ok (.aload_n 0, 1) := by decide +kernel
theorem dX4_init_5 : decode cX4_init 5 = .ok (.new 9, 3) := by decide +kernel
theorem dX4_init_8 : decode cX4_init 8 = .ok (.dup, 1) := by decide +kernel
theorem dX4_init_9 : decode cX4_init 9 = .ok (.invokespecial 11, 3) := by decide +kernel
theorem dX4_init_12 : decode cX4_init 12 = .ok (.putfield 12, 3) := by decide +kernel
theorem dX4_init_15 : decode cX4_init 15 = .ok (.aload_n 0, 1) := by decide +kernel
theorem dX4_init_16 : decode cX4_init 16 = .ok (.new 18, 3) := by decide +kernel
theorem dX4_init_19 : decode cX4_init 19 = .ok (.dup, 1) := by decide +kernel
theorem dX4_init_20 : decode cX4_init 20 = .ok (.invokespecial 20, 3) := by decide +kernel
theorem dX4_init_23 : decode cX4_init 23 = .ok (.putfield 21, 3) := by decide +kernel
theorem dX4_init_26 : decode cX4_init 26 = .ok (.aload_n 0, 1) := by decide +kernel
theorem dX4_init_27 : decode cX4_init 27 = .ok (.bipush 10, 2) := by decide +kernel
theorem dX4_init_29 : decode cX4_init 29 = .ok (.newarray .int, 2) := by decide +kernel
theorem dX4_init_31 : decode cX4_init 31 = .ok (.putfield 25, 3) := by decide +kernel
theorem dX4_init_34 : decode cX4_init 34 = .ok (.return_, 1) := by decide +kernel
