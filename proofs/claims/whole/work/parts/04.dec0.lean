theorem dX0_init_0 : decode cX0_init 0 = .ok (.aload_n 0, 1) := by decide +kernel
theorem dX0_init_1 : decode cX0_init 1 = .ok (.invokespecial 3, 3) := by decide +kernel
theorem dX0_init_4 : decode cX0_init 4 = .ok (.aload_n 0, 1) := by decide +kernel
theorem dX0_init_5 : decode cX0_init 5 = .ok (.new 9, 3) := by decide +kernel
theorem dX0_init_8 : decode cX0_init 8 = .ok (.dup, 1) := by decide +kernel
theorem dX0_init_9 : decode cX0_init 9 = .ok (.invokespecial 11, 3) := by decide +kernel
theorem dX0_init_12 : decode cX0_init 12 = .ok (.putfield 12, 3) := by decide +kernel
theorem dX0_init_15 : decode cX0_init 15 = .ok (.aload_n 0, 1) := by decide +kernel
theorem dX0_init_16 : decode cX0_init 16 = .ok (.iconst 0, 1) := by decide +kernel
theorem dX0_init_17 : decode cX0_init 17 = .ok (.putfield 18, 3) := by decide +kernel
theorem dX0_init_20 : decode cX0_init 20 = .ok (.aload_n 0, 1) := by decide +kernel
theorem dX0_init_21 : decode cX0_init 21 = .ok (.iconst 0, 1) := by decide +kernel
theorem dX0_init_22 : decode cX0_init 22 = .ok (.putfield 22, 3) := by decide +kernel
theorem dX0_init_25 : decode cX0_init 25 = .ok (.aload_n 0, 1) := by decide +kernel
theorem dX0_init_26 : decode cX0_init 26 = .ok (.iload_n 1, 1) := by decide +kernel
theorem dX0_init_27 : decode cX0_init 27 = .ok (.putfield 25, 3) := by decide +kernel
theorem dX0_init_30 : decode cX0_init 30 = .ok (.aload_n 0, 1) := by decide +kernel
theorem dX0_init_31 : decode cX0_init 31 = .ok (.aload_n 2, 1) := by decide +kernel
theorem dX0_init_32 : decode cX0_init 32 = .ok (.putfield 28, 3) := by decide +kernel
theorem dX0_init_35 : decode cX0_init 35 = .ok (.return_, 1) := by decide +kernel
theorem dX0_versionNumber_0 : decode cX0_versionNumber 0 = .ok (.aload_n 0, 1) := by decide +kernel
theorem dX0_versionNumber_1 : decode cX0_versionNumber 1 = .ok (.getfield 25, 3) := by decide +kernel
theorem dX0_versionNumber_4 : decode cX0_versionNumber 4 = .ok (.ireturn, 1) := by decide +kernel
theorem dX0_stateNow_0 : decode cX0_stateNow 0 = .ok (.aload_n 0, 1) := by decide +kernel
theorem dX0_stateNow_1 : decode cX0_stateNow 1 = .ok (.getfield 18, 3) := by decide +kernel
theorem dX0_stateNow_4 : decode cX0_stateNow 4 = .ok (.ireturn, 1) := by decide +kernel
theorem dX0_doubtedFields_0 : decode cX0_doubtedFields 0 = .ok (.aload_n 0, 1) := by decide +kernel
theorem dX0_doubtedFields_1 : decode cX0_doubtedFields 1 = .ok (.getfield 22, 3) := by decide +kernel
theorem dX0_doubtedFields_4 : decode cX0_doubtedFields 4 = .ok (.ireturn, 1) := by decide +kernel
theorem dX0_isDoubted_0 : decode cX0_isDoubted 0 = .ok (.aload_n 0, 1) := by decide +kernel
theorem dX0_isDoubted_1 : decode cX0_isDoubted 1 = .ok (.getfield 22, 3) := by decide +kernel
theorem dX0_isDoubted_4 : decode cX0_isDoubted 4 = .ok (.iload_n 1, 1) := by decide +kernel
theorem dX0_isDoubted_5 : decode cX0_isDoubted 5 = .ok (.invokestatic 32, 3) := by decide +kernel
theorem dX0_isDoubted_8 : decode cX0_isDoubted 8 = .ok (.ireturn, 1) := by decide +kernel
theorem dX0_isReviewable_0 : decode cX0_isReviewable 0 = .ok (.aload_n 0, 1) := by decide +kernel
theorem dX0_isReviewable_1 : decode cX0_isReviewable 1 = .ok (.getfield 18, 3) := by decide +kernel
theorem dX0_isReviewable_4 : decode cX0_isReviewable 4 = .ok (.iconst 1, 1) := by decide +kernel
theorem dX0_isReviewable_5 : decode cX0_isReviewable 5 = .ok (.if_icmp .eq 11, 3) := by decide +kernel
theorem dX0_isReviewable_8 : decode cX0_isReviewable 8 = .ok (.aload_n 0, 1) := by decide +kernel
theorem dX0_isReviewable_9 : decode cX0_isReviewable 9 = .ok (.getfield 18, 3) := by decide +kernel
theorem dX0_isReviewable_12 : decode cX0_isReviewable 12 = .ok (.iconst 3, 1) := by decide +kernel
theorem dX0_isReviewable_13 : decode cX0_isReviewable 13 = .ok (.if_icmp .ne 7, 3) := by decide +kernel
theorem dX0_isReviewable_16 : decode cX0_isReviewable 16 = .ok (.iconst 1, 1) := by decide +kernel
theorem dX0_isReviewable_17 : decode cX0_isReviewable 17 = .ok (.goto 4, 3) := by decide +kernel
theorem dX0_isReviewable_20 : decode cX0_isReviewable 20 = .ok (.iconst 0, 1) := by decide +kernel
theorem dX0_isReviewable_21 : decode cX0_isReviewable 21 = .ok (.ireturn, 1) := by decide +kernel
theorem dX0_hasField_0 : decode cX0_hasField 0 = .ok (.aload_n 0, 1) := by decide +kernel
theorem dX0_hasField_1 : decode cX0_hasField 1 = .ok (.getfield 28, 3) := by decide +kernel
theorem dX0_hasField_4 : decode cX0_hasField 4 = .ok (.iload_n 1, 1) := by decide +kernel
theorem dX0_hasField_5 : decode cX0_hasField 5 = .ok (.invokevirtual 36, 3) := by decide +kernel
theorem dX0_hasField_8 : decode cX0_hasField 8 = .ok (.ifCond .eq 7, 3) := by decide +kernel
theorem dX0_hasField_11 : decode cX0_hasField 11 = .ok (.iconst 1, 1) := by decide +kernel
theorem dX0_hasField_12 : decode cX0_hasField 12 = .ok (.goto 4, 3) := by decide +kernel
theorem dX0_hasField_15 : decode cX0_hasField 15 = .ok (.iconst 0, 1) := by decide +kernel
theorem dX0_hasField_16 : decode cX0_hasField 16 = .ok (.ireturn, 1) := by decide +kernel
theorem dX0_isPutField_0 : decode cX0_isPutField 0 = .ok (.aload_n 0, 1) := by decide +kernel
theorem dX0_isPutField_1 : decode cX0_isPutField 1 = .ok (.iload_n 1, 1) := by decide +kernel
theorem dX0_isPutField_2 : decode cX0_isPutField 2 = .ok (.invokevirtual 42, 3) := by decide +kernel
theorem dX0_isPutField_5 : decode cX0_isPutField 5 = .ok (.ifCond .eq 18, 3) := by decide +kernel
theorem dX0_isPutField_8 : decode cX0_isPutField 8 = .ok (.aload_n 0, 1) := by decide +kernel
theorem dX0_isPutField_9 : decode cX0_isPutField 9 = .ok (.getfield 28, 3) := by decide +kernel
theorem dX0_isPutField_12 : decode cX0_isPutField 12 = .ok (.iload_n 1, 1) := by decide +kernel
theorem dX0_isPutField_13 : decode cX0_isPutField 13 = .ok (.invokevirtual 46, 3) := by decide +kernel
theorem dX0_isPutField_16 : decode cX0_isPutField 16 = .ok (.ifCond .ne 7, 3) := by decide +kernel
theorem dX0_isPutField_19 : decode cX0_isPutField 19 = .ok (.iconst 1, 1) := by decide +kernel
theorem dX0_isPutField_20 : decode cX0_isPutField 20 = .ok (.goto 4, 3) := by decide +kernel
theorem dX0_isPutField_23 : decode cX0_isPutField 23 = .ok (.iconst 0, 1) := by decide +kernel
theorem dX0_isPutField_24 : decode cX0_isPutField 24 = .ok (.ireturn, 1) := by decide +kernel
theorem dX0_accepts_0 : decode cX0_accepts 0 = .ok (.aload_n 0, 1) := by decide +kernel
theorem dX0_accepts_1 : decode cX0_accepts 1 = .ok (.getfield 28, 3) := by decide +kernel
theorem dX0_accepts_4 : decode cX0_accepts 4 = .ok (.iload_n 1, 1) := by decide +kernel
theorem dX0_accepts_5 : decode cX0_accepts 5 = .ok (.invokevirtual 36, 3) := by decide +kernel
theorem dX0_accepts_8 : decode cX0_accepts 8 = .ok (.tableswitch 79 1 3 #[28, 48, 63], 28) := by decide +kernel
theorem dX0_accepts_36 : decode cX0_accepts 36 = .ok (.iload_n 2, 1) := by decide +kernel
theorem dX0_accepts_37 : decode cX0_accepts 37 = .ok (.sipush (-999), 3) := by decide +kernel
theorem dX0_accepts_40 : decode cX0_accepts 40 = .ok (.if_icmp .lt 14, 3) := by decide +kernel
theorem dX0_accepts_43 : decode cX0_accepts 43 = .ok (.iload_n 2, 1) := by decide +kernel
theorem dX0_accepts_44 : decode cX0_accepts 44 = .ok (.sipush 999, 3) := by decide +kernel
theorem dX0_accepts_47 : decode cX0_accepts 47 = .ok (.if_icmp .gt 7, 3) := by decide +kernel
theorem dX0_accepts_50 : decode cX0_accepts 50 = .ok (.iconst 1, 1) := by decide +kernel
theorem dX0_accepts_51 : decode cX0_accepts 51 = .ok (.goto 4, 3) := by decide +kernel
theorem dX0_accepts_54 : decode cX0_accepts 54 = .ok (.iconst 0, 1) := by decide +kernel
theorem dX0_accepts_55 : decode cX0_accepts 55 = .ok (.ireturn, 1) := by decide +kernel
theorem dX0_accepts_56 : decode cX0_accepts 56 = .ok (.iload_n 2, 1) := by decide +kernel
theorem dX0_accepts_57 : decode cX0_accepts 57 = .ok (.ifCond .eq 8, 3) := by decide +kernel
theorem dX0_accepts_60 : decode cX0_accepts 60 = .ok (.iload_n 2, 1) := by decide +kernel
theorem dX0_accepts_61 : decode cX0_accepts 61 = .ok (.iconst 1, 1) := by decide +kernel
theorem dX0_accepts_62 : decode cX0_accepts 62 = .ok (.if_icmp .ne 7, 3) := by decide +kernel
theorem dX0_accepts_65 : decode cX0_accepts 65 = .ok (.iconst 1, 1) := by decide +kernel
theorem dX0_accepts_66 : decode cX0_accepts 66 = .ok (.goto 4, 3) := by decide +kernel
theorem dX0_accepts_69 : decode cX0_accepts 69 = .ok (.iconst 0, 1) := by decide +kernel
theorem dX0_accepts_70 : decode cX0_accepts 70 = .ok (.ireturn, 1) := by decide +kernel
theorem dX0_accepts_71 : decode cX0_accepts 71 = .ok (.iload_n 2, 1) := by decide +kernel
theorem dX0_accepts_72 : decode cX0_accepts 72 = .ok (.ifCond .lt 13, 3) := by decide +kernel
theorem dX0_accepts_75 : decode cX0_accepts 75 = .ok (.iload_n 2, 1) := by decide +kernel
theorem dX0_accepts_76 : decode cX0_accepts 76 = .ok (.bipush 9, 2) := by decide +kernel
theorem dX0_accepts_78 : decode cX0_accepts 78 = .ok (.if_icmp .gt 7, 3) := by decide +kernel
theorem dX0_accepts_81 : decode cX0_accepts 81 = .ok (.iconst 1, 1) := by decide +kernel
theorem dX0_accepts_82 : decode cX0_accepts 82 = .ok (.goto 4, 3) := by decide +kernel
theorem dX0_accepts_85 : decode cX0_accepts 85 = .ok (.iconst 0, 1) := by decide +kernel
theorem dX0_accepts_86 : decode cX0_accepts 86 = .ok (.ireturn, 1) := by decide +kernel
theorem dX0_accepts_87 : decode cX0_accepts 87 = .ok (.iconst 0, 1) := by decide +kernel
theorem dX0_accepts_88 : decode cX0_accepts 88 = .ok (.ireturn, 1) := by decide +kernel
theorem dX0_hasValue_0 : decode cX0_hasValue 0 = .ok (.aload_n 0, 1) := by decide +kernel
theorem dX0_hasValue_1 : decode cX0_hasValue 1 = .ok (.getfield 12, 3) := by decide +kernel
theorem dX0_hasValue_4 : decode cX0_hasValue 4 = .ok (.iload_n 1, 1) := by decide +kernel
theorem dX0_hasValue_5 : decode cX0_hasValue 5 = .ok (.invokevirtual 49, 3) := by decide +kernel
theorem dX0_hasValue_8 : decode cX0_hasValue 8 = .ok (.ireturn, 1) := by decide +kernel
theorem dX0_valueAt_0 : decode cX0_valueAt 0 = .ok (.aload_n 0, 1) := by decide +kernel
theorem dX0_valueAt_1 : decode cX0_valueAt 1 = .ok (.getfield 12, 3) := by decide +kernel
theorem dX0_valueAt_4 : decode cX0_valueAt 4 = .ok (.iload_n 1, 1) := by decide +kernel
theorem dX0_valueAt_5 : decode cX0_valueAt 5 = .ok (.invokevirtual 52, 3) := by decide +kernel
theorem dX0_valueAt_8 : decode cX0_valueAt 8 = .ok (.ireturn, 1) := by decide +kernel
theorem dX0_write_0 : decode cX0_write 0 = .ok (.aload_n 0, 1) := by decide +kernel
theorem dX0_write_1 : decode cX0_write 1 = .ok (.getfield 12, 3) := by decide +kernel
theorem dX0_write_4 : decode cX0_write 4 = .ok (.iload_n 1, 1) := by decide +kernel
theorem dX0_write_5 : decode cX0_write 5 = .ok (.iload_n 2, 1) := by decide +kernel
theorem dX0_write_6 : decode cX0_write 6 = .ok (.invokevirtual 55, 3) := by decide +kernel
theorem dX0_write_9 : decode cX0_write 9 = .ok (.return_, 1) := by decide +kernel
theorem dX0_countMissing_0 : decode cX0_countMissing 0 = .ok (.iconst 0, 1) := by decide +kernel
theorem dX0_countMissing_1 : decode cX0_countMissing 1 = .ok (.istore_n 1, 1) := by decide +kernel
theorem dX0_countMissing_2 : decode cX0_countMissing 2 = .ok (.iconst 0, 1) := by decide +kernel
theorem dX0_countMissing_3 : decode cX0_countMissing 3 = .ok (.istore_n 2, 1) := by decide +kernel
theorem dX0_countMissing_4 : decode cX0_countMissing 4 = .ok (.iload_n 2, 1) := by decide +kernel
theorem dX0_countMissing_5 : decode cX0_countMissing 5 = .ok (.bipush 6, 2) := by decide +kernel
theorem dX0_countMissing_7 : decode cX0_countMissing 7 = .ok (.if_icmp .ge 28, 3) := by decide +kernel
theorem dX0_countMissing_10 : decode cX0_countMissing 10 = .ok (.aload_n 0, 1) := by decide +kernel
theorem dX0_countMissing_11 : decode cX0_countMissing 11 = .ok (.iload_n 2, 1) := by decide +kernel
theorem dX0_countMissing_12 : decode cX0_countMissing 12 = .ok (.invokevirtual 59, 3) := by decide +kernel
theorem dX0_countMissing_15 : decode cX0_countMissing 15 = .ok (.ifCond .eq 14, 3) := by decide +kernel
theorem dX0_countMissing_18 : decode cX0_countMissing 18 = .ok (.aload_n 0, 1) := by decide +kernel
theorem dX0_countMissing_19 : decode cX0_countMissing 19 = .ok (.iload_n 2, 1) := by decide +kernel
theorem dX0_countMissing_20 : decode cX0_countMissing 20 = .ok (.invokevirtual 62, 3) := by decide +kernel
theorem dX0_countMissing_23 : decode cX0_countMissing 23 = .ok (.ifCond .ne 6, 3) := by decide +kernel
theorem dX0_countMissing_26 : decode cX0_countMissing 26 = .ok (.iinc 1 1, 3) := by decide +kernel
theorem dX0_countMissing_29 : decode cX0_countMissing 29 = .ok (.iinc 2 1, 3) := by decide +kernel
theorem dX0_countMissing_32 : decode cX0_countMissing 32 = .ok (.goto (-28), 3) := by decide +kernel
theorem dX0_countMissing_35 : decode cX0_countMissing 35 = .ok (.iload_n 1, 1) := by decide +kernel
theorem dX0_countMissing_36 : decode cX0_countMissing 36 = .ok (.ireturn, 1) := by decide +kernel
theorem dX0_judge_0 : decode cX0_judge 0 = .ok (.iconst 0, 1) := by decide +kernel
theorem dX0_judge_1 : decode cX0_judge 1 = .ok (.istore_n 1, 1) := by decide +kernel
theorem dX0_judge_2 : decode cX0_judge 2 = .ok (.iload_n 1, 1) := by decide +kernel
theorem dX0_judge_3 : decode cX0_judge 3 = .ok (.bipush 6, 2) := by decide +kernel
theorem dX0_judge_5 : decode cX0_judge 5 = .ok (.if_icmp .ge 47, 3) := by decide +kernel
theorem dX0_judge_8 : decode cX0_judge 8 = .ok (.aload_n 0, 1) := by decide +kernel
theorem dX0_judge_9 : decode cX0_judge 9 = .ok (.getfield 28, 3) := by decide +kernel
theorem dX0_judge_12 : decode cX0_judge 12 = .ok (.iload_n 1, 1) := by decide +kernel
theorem dX0_judge_13 : decode cX0_judge 13 = .ok (.invokevirtual 65, 3) := by decide +kernel
theorem dX0_judge_16 : decode cX0_judge 16 = .ok (.istore_n 2, 1) := by decide +kernel
theorem dX0_judge_17 : decode cX0_judge 17 = .ok (.aload_n 0, 1) := by decide +kernel
theorem dX0_judge_18 : decode cX0_judge 18 = .ok (.getfield 28, 3) := by decide +kernel
theorem dX0_judge_21 : decode cX0_judge 21 = .ok (.iload_n 2, 1) := by decide +kernel
theorem dX0_judge_22 : decode cX0_judge 22 = .ok (.invokevirtual 68, 3) := by decide +kernel
theorem dX0_judge_25 : decode cX0_judge 25 = .ok (.astore_n 3, 1) := by decide +kernel
theorem dX0_judge_26 : decode cX0_judge 26 = .ok (.aload_n 3, 1) := by decide +kernel
theorem dX0_judge_27 : decode cX0_judge 27 = .ok (.ifnull 19, 3) := by decide +kernel
theorem dX0_judge_30 : decode cX0_judge 30 = .ok (.aload_n 0, 1) := by decide +kernel
theorem dX0_judge_31 : decode cX0_judge 31 = .ok (.getfield 12, 3) := by decide +kernel
theorem dX0_judge_34 : decode cX0_judge 34 = .ok (.iload_n 2, 1) := by decide +kernel
theorem dX0_judge_35 : decode cX0_judge 35 = .ok (.aload_n 3, 1) := by decide +kernel
theorem dX0_judge_36 : decode cX0_judge 36 = .ok (.aload_n 0, 1) := by decide +kernel
theorem dX0_judge_37 : decode cX0_judge 37 = .ok (.getfield 12, 3) := by decide +kernel
theorem dX0_judge_40 : decode cX0_judge 40 = .ok (.invokevirtual 72, 3) := by decide +kernel
theorem dX0_judge_43 : decode cX0_judge 43 = .ok (.invokevirtual 55, 3) := by decide +kernel
theorem dX0_judge_46 : decode cX0_judge 46 = .ok (.iinc 1 1, 3) := by decide +kernel
theorem dX0_judge_49 : decode cX0_judge 49 = .ok (.goto (-47), 3) := by decide +kernel
theorem dX0_judge_52 : decode cX0_judge 52 = .ok (.aload_n 0, 1) := by decide +kernel
theorem dX0_judge_53 : decode cX0_judge 53 = .ok (.aload_n 0, 1) := by decide +kernel
theorem dX0_judge_54 : decode cX0_judge 54 = .ok (.invokevirtual 78, 3) := by decide +kernel
theorem dX0_judge_57 : decode cX0_judge 57 = .ok (.iconst (-1), 1) := by decide +kernel
theorem dX0_judge_58 : decode cX0_judge 58 = .ok (.if_icmp .ne 10, 3) := by decide +kernel
theorem dX0_judge_61 : decode cX0_judge 61 = .ok (.aload_n 0, 1) := by decide +kernel
theorem dX0_judge_62 : decode cX0_judge 62 = .ok (.invokevirtual 82, 3) := by decide +kernel
theorem dX0_judge_65 : decode cX0_judge 65 = .ok (.goto 4, 3) := by decide +kernel
theorem dX0_judge_68 : decode cX0_judge 68 = .ok (.iconst 2, 1) := by decide +kernel
theorem dX0_judge_69 : decode cX0_judge 69 = .ok (.putfield 18, 3) := by decide +kernel
theorem dX0_judge_72 : decode cX0_judge 72 = .ok (.return_, 1) := by decide +kernel
theorem dX0_refusingCheck_0 : decode cX0_refusingCheck 0 = .ok (.bipush 6, 2) := by decide +kernel
theorem dX0_refusingCheck_2 : decode cX0_refusingCheck 2 = .ok (.istore_n 1, 1) := by decide +kernel
theorem dX0_refusingCheck_3 : decode cX0_refusingCheck 3 = .ok (.iload_n 1, 1) := by decide +kernel
theorem dX0_refusingCheck_4 : decode cX0_refusingCheck 4 = .ok (.bipush 10, 2) := by decide +kernel
theorem dX0_refusingCheck_6 : decode cX0_refusingCheck 6 = .ok (.if_icmp .ge 35, 3) := by decide +kernel
theorem dX0_refusingCheck_9 : decode cX0_refusingCheck 9 = .ok (.aload_n 0, 1) := by decide +kernel
theorem dX0_refusingCheck_10 : decode cX0_refusingCheck 10 = .ok (.getfield 28, 3) := by decide +kernel
theorem dX0_refusingCheck_13 : decode cX0_refusingCheck 13 = .ok (.iload_n 1, 1) := by decide +kernel
theorem dX0_refusingCheck_14 : decode cX0_refusingCheck 14 = .ok (.invokevirtual 68, 3) := by decide +kernel
theorem dX0_refusingCheck_17 : decode cX0_refusingCheck 17 = .ok (.astore_n 2, 1) := by decide +kernel
theorem dX0_refusingCheck_18 : decode cX0_refusingCheck 18 = .ok (.aload_n 2, 1) := by decide +kernel
theorem dX0_refusingCheck_19 : decode cX0_refusingCheck 19 = .ok (.ifnull 16, 3) := by decide +kernel
theorem dX0_refusingCheck_22 : decode cX0_refusingCheck 22 = .ok (.aload_n 2, 1) := by decide +kernel
theorem dX0_refusingCheck_23 : decode cX0_refusingCheck 23 = .ok (.aload_n 0, 1) := by decide +kernel
theorem dX0_refusingCheck_24 : decode cX0_refusingCheck 24 = .ok (.getfield 12, 3) := by decide +kernel
theorem dX0_refusingCheck_27 : decode cX0_refusingCheck 27 = .ok (.invokevirtual 72, 3) := by decide +kernel
theorem dX0_refusingCheck_30 : decode cX0_refusingCheck 30 = .ok (.ifCond .ne 5, 3) := by decide +kernel
theorem dX0_refusingCheck_33 : decode cX0_refusingCheck 33 = .ok (.iload_n 1, 1) := by decide +kernel
theorem dX0_refusingCheck_34 : decode cX0_refusingCheck 34 = .ok (.ireturn, 1) := by decide +kernel
theorem dX0_refusingCheck_35 : decode cX0_refusingCheck 35 = .ok (.iinc 1 1, 3) := by decide +kernel
theorem dX0_refusingCheck_38 : decode cX0_refusingCheck 38 = .ok (.goto (-35), 3) := by decide +kernel
theorem dX0_refusingCheck_41 : decode cX0_refusingCheck 41 = .ok (.iconst (-1), 1) := by decide +kernel
theorem dX0_refusingCheck_42 : decode cX0_refusingCheck 42 = .ok (.ireturn, 1) := by decide +kernel
theorem dX0_stateByDoubts_0 : decode cX0_stateByDoubts 0 = .ok (.aload_n 0, 1) := by decide +kernel
theorem dX0_stateByDoubts_1 : decode cX0_stateByDoubts 1 = .ok (.getfield 22, 3) := by decide +kernel
theorem dX0_stateByDoubts_4 : decode cX0_stateByDoubts 4 = .ok (.ifCond .ne 7, 3) := by decide +kernel
theorem dX0_stateByDoubts_7 : decode cX0_stateByDoubts 7 = .ok (.iconst 1, 1) := by decide +kernel
theorem dX0_stateByDoubts_8 : decode cX0_stateByDoubts 8 = .ok (.goto 4, 3) := by decide +kernel
theorem dX0_stateByDoubts_11 : decode cX0_stateByDoubts 11 = .ok (.iconst 3, 1) := by decide +kernel
theorem dX0_stateByDoubts_12 : decode cX0_stateByDoubts 12 = .ok (.ireturn, 1) := by decide +kernel
theorem dX0_addDoubts_0 : decode cX0_addDoubts 0 = .ok (.aload_n 0, 1) := by decide +kernel
theorem dX0_addDoubts_1 : decode cX0_addDoubts 1 = .ok (.dup, 1) := by decide +kernel
theorem dX0_addDoubts_2 : decode cX0_addDoubts 2 = .ok (.getfield 22, 3) := by decide +kernel
theorem dX0_addDoubts_5 : decode cX0_addDoubts 5 = .ok (.iload_n 1, 1) := by decide +kernel
theorem dX0_addDoubts_6 : decode cX0_addDoubts 6 = .ok (.ior, 1) := by decide +kernel
theorem dX0_addDoubts_7 : decode cX0_addDoubts 7 = .ok (.putfield 22, 3) := by decide +kernel
theorem dX0_addDoubts_10 : decode cX0_addDoubts 10 = .ok (.aload_n 0, 1) := by decide +kernel
theorem dX0_addDoubts_11 : decode cX0_addDoubts 11 = .ok (.aload_n 0, 1) := by decide +kernel
theorem dX0_addDoubts_12 : decode cX0_addDoubts 12 = .ok (.invokevirtual 82, 3) := by decide +kernel
theorem dX0_addDoubts_15 : decode cX0_addDoubts 15 = .ok (.putfield 18, 3) := by decide +kernel
theorem dX0_addDoubts_18 : decode cX0_addDoubts 18 = .ok (.return_, 1) := by decide +kernel
theorem dX0_release_0 : decode cX0_release 0 = .ok (.aload_n 0, 1) := by decide +kernel
theorem dX0_release_1 : decode cX0_release 1 = .ok (.dup, 1) := by decide +kernel
theorem dX0_release_2 : decode cX0_release 2 = .ok (.getfield 22, 3) := by decide +kernel
theorem dX0_release_5 : decode cX0_release 5 = .ok (.iconst 1, 1) := by decide +kernel
theorem dX0_release_6 : decode cX0_release 6 = .ok (.iload_n 1, 1) := by decide +kernel
theorem dX0_release_7 : decode cX0_release 7 = .ok (.ishl, 1) := by decide +kernel
theorem dX0_release_8 : decode cX0_release 8 = .ok (.iconst (-1), 1) := by decide +kernel
theorem dX0_release_9 : decode cX0_release 9 = .ok (.ixor, 1) := by decide +kernel
theorem dX0_release_10 : decode cX0_release 10 = .ok (.iand, 1) := by decide +kernel
theorem dX0_release_11 : decode cX0_release 11 = .ok (.putfield 22, 3) := by decide +kernel
theorem dX0_release_14 : decode cX0_release 14 = .ok (.aload_n 0, 1) := by decide +kernel
theorem dX0_release_15 : decode cX0_release 15 = .ok (.aload_n 0, 1) := by decide +kernel
theorem dX0_release_16 : decode cX0_release 16 = .ok (.invokevirtual 82, 3) := by decide +kernel
theorem dX0_release_19 : decode cX0_release 19 = .ok (.putfield 18, 3) := by decide +kernel
theorem dX0_release_22 : decode cX0_release 22 = .ok (.return_, 1) := by decide +kernel
theorem dX0_strike_0 : decode cX0_strike 0 = .ok (.aload_n 0, 1) := by decide +kernel
theorem dX0_strike_1 : decode cX0_strike 1 = .ok (.iconst 4, 1) := by decide +kernel
theorem dX0_strike_2 : decode cX0_strike 2 = .ok (.putfield 18, 3) := by decide +kernel
theorem dX0_strike_5 : decode cX0_strike 5 = .ok (.return_, 1) := by decide +kernel
theorem dX0_meetVersion_0 : decode cX0_meetVersion 0 = .ok (.aload_n 0, 1) := by decide +kernel
theorem dX0_meetVersion_1 : decode cX0_meetVersion 1 = .ok (.invokevirtual 85, 3) := by decide +kernel
theorem dX0_meetVersion_4 : decode cX0_meetVersion 4 = .ok (.ifCond .eq 16, 3) := by decide +kernel
theorem dX0_meetVersion_7 : decode cX0_meetVersion 7 = .ok (.aload_n 0, 1) := by decide +kernel
theorem dX0_meetVersion_8 : decode cX0_meetVersion 8 = .ok (.aload_n 0, 1) := by decide +kernel
theorem dX0_meetVersion_9 : decode cX0_meetVersion 9 = .ok (.getfield 28, 3) := by decide +kernel
theorem dX0_meetVersion_12 : decode cX0_meetVersion 12 = .ok (.aload_n 1, 1) := by decide +kernel
theorem dX0_meetVersion_13 : decode cX0_meetVersion 13 = .ok (.aload_n 2, 1) := by decide +kernel
theorem dX0_meetVersion_14 : decode cX0_meetVersion 14 = .ok (.invokevirtual 89, 3) := by decide +kernel
theorem dX0_meetVersion_17 : decode cX0_meetVersion 17 = .ok (.invokevirtual 93, 3) := by decide +kernel
theorem dX0_meetVersion_20 : decode cX0_meetVersion 20 = .ok (.return_, 1) := by decide +kernel
theorem dX1_init_0 : decode cX1_init 0 = .ok (.aload_n 0, 1) := by decide +kernel
theorem dX1_init_1 : decode cX1_init 1 = .ok (.invokespecial 3, 3) := by decide +kernel
theorem dX1_init_4 : decode cX1_init 4 = .ok (.aload_n 0, 1) := by decide +kernel
theorem dX1_init_5 : decode cX1_init 5 = .ok (.bipush 10, 2) := by decide +kernel
theorem dX1_init_7 : decode cX1_init 7 = .ok (.anewarray 9, 3) := by decide +kernel
theorem dX1_init_10 : decode cX1_init 10 = .ok (.putfield 11, 3) := by decide +kernel
theorem dX1_init_13 : decode cX1_init 13 = .ok (.aload_n 0, 1) := by decide +kernel
theorem dX1_init_14 : decode cX1_init 14 = .ok (.bipush 6, 2) := by decide +kernel
theorem dX1_init_16 : decode cX1_init 16 = .ok (.newarray .int, 2) := by decide +kernel
theorem dX1_init_18 : decode cX1_init 18 = .ok (.putfield 17, 3) := by decide +kernel
theorem dX1_init_21 : decode cX1_init 21 = .ok (.aload_n 0, 1) := by decide +kernel
theorem dX1_init_22 : decode cX1_init 22 = .ok (.new 21, 3) := by decide +kernel
theorem dX1_init_25 : decode cX1_init 25 = .ok (.dup, 1) := by decide +kernel
theorem dX1_init_26 : decode cX1_init 26 = .ok (.bipush 6, 2) := by decide +kernel
theorem dX1_init_28 : decode cX1_init 28 = .ok (.newarray .int, 2) := by decide +kernel
theorem dX1_init_30 : decode cX1_init 30 = .ok (.invokespecial 23, 3) := by decide +kernel
theorem dX1_init_33 : decode cX1_init 33 = .ok (.putfield 26, 3) := by decide +kernel
theorem dX1_init_36 : decode cX1_init 36 = .ok (.return_, 1) := by decide +kernel
theorem dX1_init__0 : decode cX1_init_ 0 = .ok (.aload_n 0, 1) := by decide +kernel
theorem dX1_init__1 : decode cX1_init_ 1 = .ok (.invokespecial 3, 3) := by decide +kernel
theorem dX1_init__4 : decode cX1_init_ 4 = .ok (.aload_n 0, 1) := by decide +kernel
theorem dX1_init__5 : decode cX1_init_ 5 = .ok (.bipush 10, 2) := by decide +kernel
theorem dX1_init__7 : decode cX1_init_ 7 = .ok (.anewarray 9, 3) := by decide +kernel
theorem dX1_init__10 : decode cX1_init_ 10 = .ok (.putfield 11, 3) := by decide +kernel
theorem dX1_init__13 : decode cX1_init_ 13 = .ok (.aload_n 0, 1) := by decide +kernel
theorem dX1_init__14 : decode cX1_init_ 14 = .ok (.bipush 6, 2) := by decide +kernel
theorem dX1_init__16 : decode cX1_init_ 16 = .ok (.newarray .int, 2) := by decide +kernel
theorem dX1_init__18 : decode cX1_init_ 18 = .ok (.putfield 17, 3) := by decide +kernel
theorem dX1_init__21 : decode cX1_init_ 21 = .ok (.aload_n 0, 1) := by decide +kernel
theorem dX1_init__22 : decode cX1_init_ 22 = .ok (.aload_n 1, 1) := by decide +kernel
theorem dX1_init__23 : decode cX1_init_ 23 = .ok (.putfield 26, 3) := by decide +kernel
theorem dX1_init__26 : decode cX1_init_ 26 = .ok (.return_, 1) := by decide +kernel
theorem dX1_typeOfField_0 : decode cX1_typeOfField 0 = .ok (.aload_n 0, 1) := by decide +kernel
theorem dX1_typeOfField_1 : decode cX1_typeOfField 1 = .ok (.getfield 26, 3) := by decide +kernel
theorem dX1_typeOfField_4 : decode cX1_typeOfField 4 = .ok (.iload_n 1, 1) := by decide +kernel
theorem dX1_typeOfField_5 : decode cX1_typeOfField 5 = .ok (.invokevirtual 30, 3) := by decide +kernel
theorem dX1_typeOfField_8 : decode cX1_typeOfField 8 = .ok (.ireturn, 1) := by decide +kernel
theorem dX1_giveType_0 : decode cX1_giveType 0 = .ok (.aload_n 0, 1) := by decide +kernel
theorem dX1_giveType_1 : decode cX1_giveType 1 = .ok (.getfield 26, 3) := by decide +kernel
theorem dX1_giveType_4 : decode cX1_giveType 4 = .ok (.iload_n 1, 1) := by decide +kernel
theorem dX1_giveType_5 : decode cX1_giveType 5 = .ok (.iload_n 2, 1) := by decide +kernel
theorem dX1_giveType_6 : decode cX1_giveType 6 = .ok (.invokevirtual 34, 3) := by decide +kernel
theorem dX1_giveType_9 : decode cX1_giveType 9 = .ok (.return_, 1) := by decide +kernel
theorem dX1_formulaAt_0 : decode cX1_formulaAt 0 = .ok (.iload_n 1, 1) := by decide +kernel
theorem dX1_formulaAt_1 : decode cX1_formulaAt 1 = .ok (.ifCond .lt 21, 3) := by decide +kernel
theorem dX1_formulaAt_4 : decode cX1_formulaAt 4 = .ok (.iload_n 1, 1) := by decide +kernel
theorem dX1_formulaAt_5 : decode cX1_formulaAt 5 = .ok (.aload_n 0, 1) := by decide +kernel
theorem dX1_formulaAt_6 : decode cX1_formulaAt 6 = .ok (.getfield 11, 3) := by decide +kernel
theorem dX1_formulaAt_9 : decode cX1_formulaAt 9 = .ok (.arraylength, 1) := by decide +kernel
theorem dX1_formulaAt_10 : decode cX1_formulaAt 10 = .ok (.if_icmp .ge 12, 3) := by decide +kernel
theorem dX1_formulaAt_13 : decode cX1_formulaAt 13 = .ok (.aload_n 0, 1) := by decide +kernel
theorem dX1_formulaAt_14 : decode cX1_formulaAt 14 = .ok (.getfield 11, 3) := by decide +kernel
theorem dX1_formulaAt_17 : decode cX1_formulaAt 17 = .ok (.iload_n 1, 1) := by decide +kernel
theorem dX1_formulaAt_18 : decode cX1_formulaAt 18 = .ok (.aaload, 1) := by decide +kernel
theorem dX1_formulaAt_19 : decode cX1_formulaAt 19 = .ok (.goto 4, 3) := by decide +kernel
theorem dX1_formulaAt_22 : decode cX1_formulaAt 22 = .ok (.aconst_null, 1) := by decide +kernel
theorem dX1_formulaAt_23 : decode cX1_formulaAt 23 = .ok (.areturn, 1) := by decide +kernel
theorem dX1_giveFormula_0 : decode cX1_giveFormula 0 = .ok (.iload_n 1, 1) := by decide +kernel
theorem dX1_giveFormula_1 : decode cX1_giveFormula 1 = .ok (.ifCond .lt 19, 3) := by decide +kernel
theorem dX1_giveFormula_4 : decode cX1_giveFormula 4 = .ok (.iload_n 1, 1) := by decide +kernel
theorem dX1_giveFormula_5 : decode cX1_giveFormula 5 = .ok (.aload_n 0, 1) := by decide +kernel
theorem dX1_giveFormula_6 : decode cX1_giveFormula 6 = .ok (.getfield 11, 3) := by decide +kernel
theorem dX1_giveFormula_9 : decode cX1_giveFormula 9 = .ok (.arraylength, 1) := by decide +kernel
theorem dX1_giveFormula_10 : decode cX1_giveFormula 10 = .ok (.if_icmp .ge 10, 3) := by decide +kernel
theorem dX1_giveFormula_13 : decode cX1_giveFormula 13 = .ok (.aload_n 0, 1) := by decide +kernel
theorem dX1_giveFormula_14 : decode cX1_giveFormula 14 = .ok (.getfield 11, 3) := by decide +kernel
theorem dX1_giveFormula_17 : decode cX1_giveFormula 17 = .ok (.iload_n 1, 1) := by decide +kernel
theorem dX1_giveFormula_18 : decode cX1_giveFormula 18 = .ok (.aload_n 2, 1) := by decide +kernel
theorem dX1_giveFormula_19 : decode cX1_giveFormula 19 = .ok (.aastore, 1) := by decide +kernel
theorem dX1_giveFormula_20 : decode cX1_giveFormula 20 = .ok (.return_, 1) := by decide +kernel
theorem dX1_isComputed_0 : decode cX1_isComputed 0 = .ok (.iload_n 1, 1) := by decide +kernel
theorem dX1_isComputed_1 : decode cX1_isComputed 1 = .ok (.bipush 6, 2) := by decide +kernel
theorem dX1_isComputed_3 : decode cX1_isComputed 3 = .ok (.if_icmp .ge 15, 3) := by decide +kernel
theorem dX1_isComputed_6 : decode cX1_isComputed 6 = .ok (.aload_n 0, 1) := by decide +kernel
theorem dX1_isComputed_7 : decode cX1_isComputed 7 = .ok (.iload_n 1, 1) := by decide +kernel
theorem dX1_isComputed_8 : decode cX1_isComputed 8 = .ok (.invokevirtual 38, 3) := by decide +kernel
theorem dX1_isComputed_11 : decode cX1_isComputed 11 = .ok (.ifnull 7, 3) := by decide +kernel
theorem dX1_isComputed_14 : decode cX1_isComputed 14 = .ok (.iconst 1, 1) := by decide +kernel
theorem dX1_isComputed_15 : decode cX1_isComputed 15 = .ok (.goto 4, 3) := by decide +kernel
theorem dX1_isComputed_18 : decode cX1_isComputed 18 = .ok (.iconst 0, 1) := by decide +kernel
theorem dX1_isComputed_19 : decode cX1_isComputed 19 = .ok (.ireturn, 1) := by decide +kernel
theorem dX1_typeOfFormula_0 : decode cX1_typeOfFormula 0 = .ok (.aload_n 1, 1) := by decide +kernel
theorem dX1_typeOfFormula_1 : decode cX1_typeOfFormula 1 = .ok (.aload_n 0, 1) := by decide +kernel
theorem dX1_typeOfFormula_2 : decode cX1_typeOfFormula 2 = .ok (.getfield 26, 3) := by decide +kernel
theorem dX1_typeOfFormula_5 : decode cX1_typeOfFormula 5 = .ok (.invokevirtual 42, 3) := by decide +kernel
theorem dX1_typeOfFormula_8 : decode cX1_typeOfFormula 8 = .ok (.ireturn, 1) := by decide +kernel
theorem dX1_countFormulas_0 : decode cX1_countFormulas 0 = .ok (.iconst 0, 1) := by decide +kernel
theorem dX1_countFormulas_1 : decode cX1_countFormulas 1 = .ok (.istore_n 1, 1) := by decide +kernel
theorem dX1_countFormulas_2 : decode cX1_countFormulas 2 = .ok (.aload_n 0, 1) := by decide +kernel
theorem dX1_countFormulas_3 : decode cX1_countFormulas 3 = .ok (.getfield 11, 3) := by decide +kernel
theorem dX1_countFormulas_6 : decode cX1_countFormulas 6 = .ok (.astore_n 2, 1) := by decide +kernel
theorem dX1_countFormulas_7 : decode cX1_countFormulas 7 = .ok (.aload_n 2, 1) := by decide +kernel
theorem dX1_countFormulas_8 : decode cX1_countFormulas 8 = .ok (.arraylength, 1) := by decide +kernel
theorem dX1_countFormulas_9 : decode cX1_countFormulas 9 = .ok (.istore_n 3, 1) := by decide +kernel
theorem dX1_countFormulas_10 : decode cX1_countFormulas 10 = .ok (.iconst 0, 1) := by decide +kernel
theorem dX1_countFormulas_11 : decode cX1_countFormulas 11 = .ok (.istore 4, 2) := by decide +kernel
theorem dX1_countFormulas_13 : decode cX1_countFormulas 13 = .ok (.iload 4, 2) := by decide +kernel
theorem dX1_countFormulas_15 : decode cX1_countFormulas 15 = .ok (.iload_n 3, 1) := by decide +kernel
theorem dX1_countFormulas_16 : decode cX1_countFormulas 16 = .ok (.if_icmp .ge 23, 3) := by decide +kernel
theorem dX1_countFormulas_19 : decode cX1_countFormulas 19 = .ok (.aload_n 2, 1) := by decide +kernel
theorem dX1_countFormulas_20 : decode cX1_countFormulas 20 = .ok (.iload 4, 2) := by decide +kernel
theorem dX1_countFormulas_22 : decode cX1_countFormulas 22 = .ok (.aaload, 1) := by decide +kernel
theorem dX1_countFormulas_23 : decode cX1_countFormulas 23 = .ok (.astore 5, 2) := by decide +kernel
theorem dX1_countFormulas_25 : decode cX1_countFormulas 25 = .ok (.aload 5, 2) := by decide +kernel
theorem dX1_countFormulas_27 : decode cX1_countFormulas 27 = .ok (.ifnull 6, 3) := by decide +kernel
theorem dX1_countFormulas_30 : decode cX1_countFormulas 30 = .ok (.iinc 1 1, 3) := by decide +kernel
theorem dX1_countFormulas_33 : decode cX1_countFormulas 33 = .ok (.iinc 4 1, 3) := by decide +kernel
theorem dX1_countFormulas_36 : decode cX1_countFormulas 36 = .ok (.goto (-23), 3) := by decide +kernel
theorem dX1_countFormulas_39 : decode cX1_countFormulas 39 = .ok (.iload_n 1, 1) := by decide +kernel
theorem dX1_countFormulas_40 : decode cX1_countFormulas 40 = .ok (.ireturn, 1) := by decide +kernel
theorem dX1_wouldBreak_0 : decode cX1_wouldBreak 0 = .ok (.iload_n 1, 1) := by decide +kernel
theorem dX1_wouldBreak_1 : decode cX1_wouldBreak 1 = .ok (.bipush 6, 2) := by decide +kernel
theorem dX1_wouldBreak_3 : decode cX1_wouldBreak 3 = .ok (.if_icmp .ge 14, 3) := by decide +kernel
theorem dX1_wouldBreak_6 : decode cX1_wouldBreak 6 = .ok (.aload_n 0, 1) := by decide +kernel
theorem dX1_wouldBreak_7 : decode cX1_wouldBreak 7 = .ok (.getfield 26, 3) := by decide +kernel
theorem dX1_wouldBreak_10 : decode cX1_wouldBreak 10 = .ok (.iload_n 1, 1) := by decide +kernel
theorem dX1_wouldBreak_11 : decode cX1_wouldBreak 11 = .ok (.invokevirtual 30, 3) := by decide +kernel
theorem dX1_wouldBreak_14 : decode cX1_wouldBreak 14 = .ok (.goto 4, 3) := by decide +kernel
theorem dX1_wouldBreak_17 : decode cX1_wouldBreak 17 = .ok (.iconst 2, 1) := by decide +kernel
theorem dX1_wouldBreak_18 : decode cX1_wouldBreak 18 = .ok (.istore_n 3, 1) := by decide +kernel
theorem dX1_wouldBreak_19 : decode cX1_wouldBreak 19 = .ok (.aload_n 0, 1) := by decide +kernel
theorem dX1_wouldBreak_20 : decode cX1_wouldBreak 20 = .ok (.aload_n 2, 1) := by decide +kernel
theorem dX1_wouldBreak_21 : decode cX1_wouldBreak 21 = .ok (.invokevirtual 46, 3) := by decide +kernel
theorem dX1_wouldBreak_24 : decode cX1_wouldBreak 24 = .ok (.iload_n 3, 1) := by decide +kernel
theorem dX1_wouldBreak_25 : decode cX1_wouldBreak 25 = .ok (.if_icmp .eq 7, 3) := by decide +kernel
theorem dX1_wouldBreak_28 : decode cX1_wouldBreak 28 = .ok (.iconst 1, 1) := by decide +kernel
theorem dX1_wouldBreak_29 : decode cX1_wouldBreak 29 = .ok (.goto 4, 3) := by decide +kernel
theorem dX1_wouldBreak_32 : decode cX1_wouldBreak 32 = .ok (.iconst 0, 1) := by decide +kernel
theorem dX1_wouldBreak_33 : decode cX1_wouldBreak 33 = .ok (.ireturn, 1) := by decide +kernel
theorem dX1_hasBroken_0 : decode cX1_hasBroken 0 = .ok (.aload_n 0, 1) := by decide +kernel
theorem dX1_hasBroken_1 : decode cX1_hasBroken 1 = .ok (.iload_n 1, 1) := by decide +kernel
theorem dX1_hasBroken_2 : decode cX1_hasBroken 2 = .ok (.invokevirtual 38, 3) := by decide +kernel
theorem dX1_hasBroken_5 : decode cX1_hasBroken 5 = .ok (.astore_n 2, 1) := by decide +kernel
theorem dX1_hasBroken_6 : decode cX1_hasBroken 6 = .ok (.aload_n 2, 1) := by decide +kernel
theorem dX1_hasBroken_7 : decode cX1_hasBroken 7 = .ok (.ifnull 16, 3) := by decide +kernel
theorem dX1_hasBroken_10 : decode cX1_hasBroken 10 = .ok (.aload_n 0, 1) := by decide +kernel
theorem dX1_hasBroken_11 : decode cX1_hasBroken 11 = .ok (.iload_n 1, 1) := by decide +kernel
theorem dX1_hasBroken_12 : decode cX1_hasBroken 12 = .ok (.aload_n 2, 1) := by decide +kernel
theorem dX1_hasBroken_13 : decode cX1_hasBroken 13 = .ok (.invokevirtual 50, 3) := by decide +kernel
theorem dX1_hasBroken_16 : decode cX1_hasBroken 16 = .ok (.ifCond .eq 7, 3) := by decide +kernel
theorem dX1_hasBroken_19 : decode cX1_hasBroken 19 = .ok (.iconst 1, 1) := by decide +kernel
theorem dX1_hasBroken_20 : decode cX1_hasBroken 20 = .ok (.goto 4, 3) := by decide +kernel
theorem dX1_hasBroken_23 : decode cX1_hasBroken 23 = .ok (.iconst 0, 1) := by decide +kernel
theorem dX1_hasBroken_24 : decode cX1_hasBroken 24 = .ok (.ireturn, 1) := by decide +kernel
theorem dX1_countBroken_0 : decode cX1_countBroken 0 = .ok (.iconst 0, 1) := by decide +kernel
theorem dX1_countBroken_1 : decode cX1_countBroken 1 = .ok (.istore_n 1, 1) := by decide +kernel
theorem dX1_countBroken_2 : decode cX1_countBroken 2 = .ok (.iconst 0, 1) := by decide +kernel
theorem dX1_countBroken_3 : decode cX1_countBroken 3 = .ok (.istore_n 2, 1) := by decide +kernel
theorem dX1_countBroken_4 : decode cX1_countBroken 4 = .ok (.iload_n 2, 1) := by decide +kernel
theorem dX1_countBroken_5 : decode cX1_countBroken 5 = .ok (.bipush 10, 2) := by decide +kernel
theorem dX1_countBroken_7 : decode cX1_countBroken 7 = .ok (.if_icmp .ge 20, 3) := by decide +kernel
theorem dX1_countBroken_10 : decode cX1_countBroken 10 = .ok (.aload_n 0, 1) := by decide +kernel
theorem dX1_countBroken_11 : decode cX1_countBroken 11 = .ok (.iload_n 2, 1) := by decide +kernel
theorem dX1_countBroken_12 : decode cX1_countBroken 12 = .ok (.invokevirtual 54, 3) := by decide +kernel
theorem dX1_countBroken_15 : decode cX1_countBroken 15 = .ok (.ifCond .eq 6, 3) := by decide +kernel
theorem dX1_countBroken_18 : decode cX1_countBroken 18 = .ok (.iinc 1 1, 3) := by decide +kernel
theorem dX1_countBroken_21 : decode cX1_countBroken 21 = .ok (.iinc 2 1, 3) := by decide +kernel
theorem dX1_countBroken_24 : decode cX1_countBroken 24 = .ok (.goto (-20), 3) := by decide +kernel
theorem dX1_countBroken_27 : decode cX1_countBroken 27 = .ok (.iload_n 1, 1) := by decide +kernel
theorem dX1_countBroken_28 : decode cX1_countBroken 28 = .ok (.ireturn, 1) := by decide +kernel
theorem dX1_wouldCircle_0 : decode cX1_wouldCircle 0 = .ok (.iload_n 1, 1) := by decide +kernel
theorem dX1_wouldCircle_1 : decode cX1_wouldCircle 1 = .ok (.bipush 6, 2) := by decide +kernel
theorem dX1_wouldCircle_3 : decode cX1_wouldCircle 3 = .ok (.if_icmp .lt 5, 3) := by decide +kernel
theorem dX1_wouldCircle_6 : decode cX1_wouldCircle 6 = .ok (.iconst 0, 1) := by decide +kernel
theorem dX1_wouldCircle_7 : decode cX1_wouldCircle 7 = .ok (.ireturn, 1) := by decide +kernel
theorem dX1_wouldCircle_8 : decode cX1_wouldCircle 8 = .ok (.aload_n 2, 1) := by decide +kernel
theorem dX1_wouldCircle_9 : decode cX1_wouldCircle 9 = .ok (.invokevirtual 58, 3) := by decide +kernel
theorem dX1_wouldCircle_12 : decode cX1_wouldCircle 12 = .ok (.istore_n 3, 1) := by decide +kernel
theorem dX1_wouldCircle_13 : decode cX1_wouldCircle 13 = .ok (.iconst 0, 1) := by decide +kernel
theorem dX1_wouldCircle_14 : decode cX1_wouldCircle 14 = .ok (.istore 4, 2) := by decide +kernel
theorem dX1_wouldCircle_16 : decode cX1_wouldCircle 16 = .ok (.iload 4, 2) := by decide +kernel
theorem dX1_wouldCircle_18 : decode cX1_wouldCircle 18 = .ok (.bipush 6, 2) := by decide +kernel
theorem dX1_wouldCircle_20 : decode cX1_wouldCircle 20 = .ok (.if_icmp .ge 49, 3) := by decide +kernel
theorem dX1_wouldCircle_23 : decode cX1_wouldCircle 23 = .ok (.iconst 0, 1) := by decide +kernel
theorem dX1_wouldCircle_24 : decode cX1_wouldCircle 24 = .ok (.istore 5, 2) := by decide +kernel
theorem dX1_wouldCircle_26 : decode cX1_wouldCircle 26 = .ok (.iload 5, 2) := by decide +kernel
theorem dX1_wouldCircle_28 : decode cX1_wouldCircle 28 = .ok (.bipush 6, 2) := by decide +kernel
theorem dX1_wouldCircle_30 : decode cX1_wouldCircle 30 = .ok (.if_icmp .ge 33, 3) := by decide +kernel
theorem dX1_wouldCircle_33 : decode cX1_wouldCircle 33 = .ok (.iload 5, 2) := by decide +kernel
theorem dX1_wouldCircle_35 : decode cX1_wouldCircle 35 = .ok (.iload_n 1, 1) := by decide +kernel
theorem dX1_wouldCircle_36 : decode cX1_wouldCircle 36 = .ok (.if_icmp .eq 21, 3) := by decide +kernel
theorem dX1_wouldCircle_39 : decode cX1_wouldCircle 39 = .ok (.iload_n 3, 1) := by decide +kernel
theorem dX1_wouldCircle_40 : decode cX1_wouldCircle 40 = .ok (.iload 5, 2) := by decide +kernel
theorem dX1_wouldCircle_42 : decode cX1_wouldCircle 42 = .ok (.invokestatic 62, 3) := by decide +kernel
theorem dX1_wouldCircle_45 : decode cX1_wouldCircle 45 = .ok (.ifCond .eq 12, 3) := by decide +kernel
theorem dX1_wouldCircle_48 : decode cX1_wouldCircle 48 = .ok (.iload_n 3, 1) := by decide +kernel
theorem dX1_wouldCircle_49 : decode cX1_wouldCircle 49 = .ok (.aload_n 0, 1) := by decide +kernel
theorem dX1_wouldCircle_50 : decode cX1_wouldCircle 50 = .ok (.iload 5, 2) := by decide +kernel
theorem dX1_wouldCircle_52 : decode cX1_wouldCircle 52 = .ok (.invokevirtual 66, 3) := by decide +kernel
theorem dX1_wouldCircle_55 : decode cX1_wouldCircle 55 = .ok (.ior, 1) := by decide +kernel
theorem dX1_wouldCircle_56 : decode cX1_wouldCircle 56 = .ok (.istore_n 3, 1) := by decide +kernel
theorem dX1_wouldCircle_57 : decode cX1_wouldCircle 57 = .ok (.iinc 5 1, 3) := by decide +kernel
theorem dX1_wouldCircle_60 : decode cX1_wouldCircle 60 = .ok (.goto (-34), 3) := by decide +kernel
theorem dX1_wouldCircle_63 : decode cX1_wouldCircle 63 = .ok (.iinc 4 1, 3) := by decide +kernel
theorem dX1_wouldCircle_66 : decode cX1_wouldCircle 66 = .ok (.goto (-50), 3) := by decide +kernel
theorem dX1_wouldCircle_69 : decode cX1_wouldCircle 69 = .ok (.iload_n 3, 1) := by decide +kernel
theorem dX1_wouldCircle_70 : decode cX1_wouldCircle 70 = .ok (.iload_n 1, 1) := by decide +kernel
theorem dX1_wouldCircle_71 : decode cX1_wouldCircle 71 = .ok (.invokestatic 62, 3) := by decide +kernel
theorem dX1_wouldCircle_74 : decode cX1_wouldCircle 74 = .ok (.ireturn, 1) := by decide +kernel
theorem dX1_lettersAt_0 : decode cX1_lettersAt 0 = .ok (.aload_n 0, 1) := by decide +kernel
theorem dX1_lettersAt_1 : decode cX1_lettersAt 1 = .ok (.iload_n 1, 1) := by decide +kernel
theorem dX1_lettersAt_2 : decode cX1_lettersAt 2 = .ok (.invokevirtual 38, 3) := by decide +kernel
theorem dX1_lettersAt_5 : decode cX1_lettersAt 5 = .ok (.astore_n 2, 1) := by decide +kernel
theorem dX1_lettersAt_6 : decode cX1_lettersAt 6 = .ok (.aload_n 2, 1) := by decide +kernel
theorem dX1_lettersAt_7 : decode cX1_lettersAt 7 = .ok (.ifnonnull 7, 3) := by decide +kernel
theorem dX1_lettersAt_10 : decode cX1_lettersAt 10 = .ok (.iconst 0, 1) := by decide +kernel
theorem dX1_lettersAt_11 : decode cX1_lettersAt 11 = .ok (.goto 7, 3) := by decide +kernel
theorem dX1_lettersAt_14 : decode cX1_lettersAt 14 = .ok (.aload_n 2, 1) := by decide +kernel
theorem dX1_lettersAt_15 : decode cX1_lettersAt 15 = .ok (.invokevirtual 58, 3) := by decide +kernel
theorem dX1_lettersAt_18 : decode cX1_lettersAt 18 = .ok (.ireturn, 1) := by decide +kernel
theorem dX1_takeBroken_0 : decode cX1_takeBroken 0 = .ok (.bipush 10, 2) := by decide +kernel
theorem dX1_takeBroken_2 : decode cX1_takeBroken 2 = .ok (.anewarray 9, 3) := by decide +kernel
theorem dX1_takeBroken_5 : decode cX1_takeBroken 5 = .ok (.astore_n 1, 1) := by decide +kernel
theorem dX1_takeBroken_6 : decode cX1_takeBroken 6 = .ok (.iconst 0, 1) := by decide +kernel
theorem dX1_takeBroken_7 : decode cX1_takeBroken 7 = .ok (.istore_n 2, 1) := by decide +kernel
theorem dX1_takeBroken_8 : decode cX1_takeBroken 8 = .ok (.iload_n 2, 1) := by decide +kernel
theorem dX1_takeBroken_9 : decode cX1_takeBroken 9 = .ok (.bipush 10, 2) := by decide +kernel
theorem dX1_takeBroken_11 : decode cX1_takeBroken 11 = .ok (.if_icmp .ge 31, 3) := by decide +kernel
theorem dX1_takeBroken_14 : decode cX1_takeBroken 14 = .ok (.aload_n 0, 1) := by decide +kernel
theorem dX1_takeBroken_15 : decode cX1_takeBroken 15 = .ok (.iload_n 2, 1) := by decide +kernel
theorem dX1_takeBroken_16 : decode cX1_takeBroken 16 = .ok (.invokevirtual 54, 3) := by decide +kernel
theorem dX1_takeBroken_19 : decode cX1_takeBroken 19 = .ok (.ifCond .eq 17, 3) := by decide +kernel
theorem dX1_takeBroken_22 : decode cX1_takeBroken 22 = .ok (.aload_n 1, 1) := by decide +kernel
theorem dX1_takeBroken_23 : decode cX1_takeBroken 23 = .ok (.iload_n 2, 1) := by decide +kernel
theorem dX1_takeBroken_24 : decode cX1_takeBroken 24 = .ok (.aload_n 0, 1) := by decide +kernel
theorem dX1_takeBroken_25 : decode cX1_takeBroken 25 = .ok (.iload_n 2, 1) := by decide +kernel
theorem dX1_takeBroken_26 : decode cX1_takeBroken 26 = .ok (.invokevirtual 38, 3) := by decide +kernel
theorem dX1_takeBroken_29 : decode cX1_takeBroken 29 = .ok (.aastore, 1) := by decide +kernel
theorem dX1_takeBroken_30 : decode cX1_takeBroken 30 = .ok (.aload_n 0, 1) := by decide +kernel
theorem dX1_takeBroken_31 : decode cX1_takeBroken 31 = .ok (.iload_n 2, 1) := by decide +kernel
theorem dX1_takeBroken_32 : decode cX1_takeBroken 32 = .ok (.aconst_null, 1) := by decide +kernel
theorem dX1_takeBroken_33 : decode cX1_takeBroken 33 = .ok (.invokevirtual 69, 3) := by decide +kernel
theorem dX1_takeBroken_36 : decode cX1_takeBroken 36 = .ok (.iinc 2 1, 3) := by decide +kernel
theorem dX1_takeBroken_39 : decode cX1_takeBroken 39 = .ok (.goto (-31), 3) := by decide +kernel
theorem dX1_takeBroken_42 : decode cX1_takeBroken 42 = .ok (.aload_n 1, 1) := by decide +kernel
theorem dX1_takeBroken_43 : decode cX1_takeBroken 43 = .ok (.areturn, 1) := by decide +kernel
theorem dX1_frozen_0 : decode cX1_frozen 0 = .ok (.new 12, 3) := by decide +kernel
theorem dX1_frozen_3 : decode cX1_frozen 3 = .ok (.dup, 1) := by decide +kernel
theorem dX1_frozen_4 : decode cX1_frozen 4 = .ok (.aload_n 0, 1) := by decide +kernel
theorem dX1_frozen_5 : decode cX1_frozen 5 = .ok (.getfield 26, 3) := by decide +kernel
theorem dX1_frozen_8 : decode cX1_frozen 8 = .ok (.invokevirtual 73, 3) := by decide +kernel
theorem dX1_frozen_11 : decode cX1_frozen 11 = .ok (.invokespecial 77, 3) := by decide +kernel
theorem dX1_frozen_14 : decode cX1_frozen 14 = .ok (.astore_n 1, 1) := by decide +kernel
theorem dX1_frozen_15 : decode cX1_frozen 15 = .ok (.iconst 0, 1) := by decide +kernel
theorem dX1_frozen_16 : decode cX1_frozen 16 = .ok (.istore_n 2, 1) := by decide +kernel
theorem dX1_frozen_17 : decode cX1_frozen 17 = .ok (.iload_n 2, 1) := by decide +kernel
theorem dX1_frozen_18 : decode cX1_frozen 18 = .ok (.bipush 10, 2) := by decide +kernel
theorem dX1_frozen_20 : decode cX1_frozen 20 = .ok (.if_icmp .ge 19, 3) := by decide +kernel
theorem dX1_frozen_23 : decode cX1_frozen 23 = .ok (.aload_n 1, 1) := by decide +kernel
theorem dX1_frozen_24 : decode cX1_frozen 24 = .ok (.iload_n 2, 1) := by decide +kernel
theorem dX1_frozen_25 : decode cX1_frozen 25 = .ok (.aload_n 0, 1) := by decide +kernel
theorem dX1_frozen_26 : decode cX1_frozen 26 = .ok (.iload_n 2, 1) := by decide +kernel
theorem dX1_frozen_27 : decode cX1_frozen 27 = .ok (.invokevirtual 38, 3) := by decide +kernel
theorem dX1_frozen_30 : decode cX1_frozen 30 = .ok (.invokevirtual 69, 3) := by decide +kernel
theorem dX1_frozen_33 : decode cX1_frozen 33 = .ok (.iinc 2 1, 3) := by decide +kernel
theorem dX1_frozen_36 : decode cX1_frozen 36 = .ok (.goto (-19), 3) := by decide +kernel
theorem dX1_frozen_39 : decode cX1_frozen 39 = .ok (.aload_n 1, 1) := by decide +kernel
theorem dX1_frozen_40 : decode cX1_frozen 40 = .ok (.invokevirtual 80, 3) := by decide +kernel
theorem dX1_frozen_43 : decode cX1_frozen 43 = .ok (.aload_n 1, 1) := by decide +kernel
theorem dX1_frozen_44 : decode cX1_frozen 44 = .ok (.areturn, 1) := by decide +kernel
theorem dX1_tellOrder_0 : decode cX1_tellOrder 0 = .ok (.iconst 0, 1) := by decide +kernel
theorem dX1_tellOrder_1 : decode cX1_tellOrder 1 = .ok (.istore_n 1, 1) := by decide +kernel
theorem dX1_tellOrder_2 : decode cX1_tellOrder 2 = .ok (.iconst 0, 1) := by decide +kernel
theorem dX1_tellOrder_3 : decode cX1_tellOrder 3 = .ok (.istore_n 2, 1) := by decide +kernel
theorem dX1_tellOrder_4 : decode cX1_tellOrder 4 = .ok (.iload_n 2, 1) := by decide +kernel
theorem dX1_tellOrder_5 : decode cX1_tellOrder 5 = .ok (.bipush 6, 2) := by decide +kernel
theorem dX1_tellOrder_7 : decode cX1_tellOrder 7 = .ok (.if_icmp .ge 27, 3) := by decide +kernel
theorem dX1_tellOrder_10 : decode cX1_tellOrder 10 = .ok (.iload_n 1, 1) := by decide +kernel
theorem dX1_tellOrder_11 : decode cX1_tellOrder 11 = .ok (.aload_n 0, 1) := by decide +kernel
theorem dX1_tellOrder_12 : decode cX1_tellOrder 12 = .ok (.iload_n 2, 1) := by decide +kernel
theorem dX1_tellOrder_13 : decode cX1_tellOrder 13 = .ok (.invokevirtual 83, 3) := by decide +kernel
theorem dX1_tellOrder_16 : decode cX1_tellOrder 16 = .ok (.ifCond .eq 9, 3) := by decide +kernel
theorem dX1_tellOrder_19 : decode cX1_tellOrder 19 = .ok (.iconst 1, 1) := by decide +kernel
theorem dX1_tellOrder_20 : decode cX1_tellOrder 20 = .ok (.iload_n 2, 1) := by decide +kernel
theorem dX1_tellOrder_21 : decode cX1_tellOrder 21 = .ok (.ishl, 1) := by decide +kernel
theorem dX1_tellOrder_22 : decode cX1_tellOrder 22 = .ok (.goto 4, 3) := by decide +kernel
theorem dX1_tellOrder_25 : decode cX1_tellOrder 25 = .ok (.iconst 0, 1) := by decide +kernel
theorem dX1_tellOrder_26 : decode cX1_tellOrder 26 = .ok (.ior, 1) := by decide +kernel
theorem dX1_tellOrder_27 : decode cX1_tellOrder 27 = .ok (.istore_n 1, 1) := by decide +kernel
theorem dX1_tellOrder_28 : decode cX1_tellOrder 28 = .ok (.iinc 2 1, 3) := by decide +kernel
theorem dX1_tellOrder_31 : decode cX1_tellOrder 31 = .ok (.goto (-27), 3) := by decide +kernel
theorem dX1_tellOrder_34 : decode cX1_tellOrder 34 = .ok (.iconst 0, 1) := by decide +kernel
theorem dX1_tellOrder_35 : decode cX1_tellOrder 35 = .ok (.istore_n 2, 1) := by decide +kernel
theorem dX1_tellOrder_36 : decode cX1_tellOrder 36 = .ok (.iload_n 2, 1) := by decide +kernel
theorem dX1_tellOrder_37 : decode cX1_tellOrder 37 = .ok (.bipush 6, 2) := by decide +kernel
theorem dX1_tellOrder_39 : decode cX1_tellOrder 39 = .ok (.if_icmp .ge 39, 3) := by decide +kernel
theorem dX1_tellOrder_42 : decode cX1_tellOrder 42 = .ok (.aload_n 0, 1) := by decide +kernel
theorem dX1_tellOrder_43 : decode cX1_tellOrder 43 = .ok (.iload_n 1, 1) := by decide +kernel
theorem dX1_tellOrder_44 : decode cX1_tellOrder 44 = .ok (.invokevirtual 86, 3) := by decide +kernel
theorem dX1_tellOrder_47 : decode cX1_tellOrder 47 = .ok (.istore_n 3, 1) := by decide +kernel
theorem dX1_tellOrder_48 : decode cX1_tellOrder 48 = .ok (.aload_n 0, 1) := by decide +kernel
theorem dX1_tellOrder_49 : decode cX1_tellOrder 49 = .ok (.getfield 17, 3) := by decide +kernel
theorem dX1_tellOrder_52 : decode cX1_tellOrder 52 = .ok (.iload_n 2, 1) := by decide +kernel
theorem dX1_tellOrder_53 : decode cX1_tellOrder 53 = .ok (.iload_n 3, 1) := by decide +kernel
theorem dX1_tellOrder_54 : decode cX1_tellOrder 54 = .ok (.iastore, 1) := by decide +kernel
theorem dX1_tellOrder_55 : decode cX1_tellOrder 55 = .ok (.iload_n 1, 1) := by decide +kernel
theorem dX1_tellOrder_56 : decode cX1_tellOrder 56 = .ok (.iload_n 3, 1) := by decide +kernel
theorem dX1_tellOrder_57 : decode cX1_tellOrder 57 = .ok (.iconst (-1), 1) := by decide +kernel
theorem dX1_tellOrder_58 : decode cX1_tellOrder 58 = .ok (.if_icmp .ne 7, 3) := by decide +kernel
theorem dX1_tellOrder_61 : decode cX1_tellOrder 61 = .ok (.iload_n 1, 1) := by decide +kernel
theorem dX1_tellOrder_62 : decode cX1_tellOrder 62 = .ok (.goto 8, 3) := by decide +kernel
theorem dX1_tellOrder_65 : decode cX1_tellOrder 65 = .ok (.iconst 1, 1) := by decide +kernel
theorem dX1_tellOrder_66 : decode cX1_tellOrder 66 = .ok (.iload_n 3, 1) := by decide +kernel
theorem dX1_tellOrder_67 : decode cX1_tellOrder 67 = .ok (.ishl, 1) := by decide +kernel
theorem dX1_tellOrder_68 : decode cX1_tellOrder 68 = .ok (.iconst (-1), 1) := by decide +kernel
theorem dX1_tellOrder_69 : decode cX1_tellOrder 69 = .ok (.ixor, 1) := by decide +kernel
theorem dX1_tellOrder_70 : decode cX1_tellOrder 70 = .ok (.iand, 1) := by decide +kernel
theorem dX1_tellOrder_71 : decode cX1_tellOrder 71 = .ok (.istore_n 1, 1) := by decide +kernel
theorem dX1_tellOrder_72 : decode cX1_tellOrder 72 = .ok (.iinc 2 1, 3) := by decide +kernel
theorem dX1_tellOrder_75 : decode cX1_tellOrder 75 = .ok (.goto (-39), 3) := by decide +kernel
theorem dX1_tellOrder_78 : decode cX1_tellOrder 78 = .ok (.return_, 1) := by decide +kernel
theorem dX1_lowestFree_0 : decode cX1_lowestFree 0 = .ok (.iconst 0, 1) := by decide +kernel
theorem dX1_lowestFree_1 : decode cX1_lowestFree 1 = .ok (.istore_n 2, 1) := by decide +kernel
theorem dX1_lowestFree_2 : decode cX1_lowestFree 2 = .ok (.iload_n 2, 1) := by decide +kernel
theorem dX1_lowestFree_3 : decode cX1_lowestFree 3 = .ok (.bipush 6, 2) := by decide +kernel
theorem dX1_lowestFree_5 : decode cX1_lowestFree 5 = .ok (.if_icmp .ge 29, 3) := by decide +kernel
theorem dX1_lowestFree_8 : decode cX1_lowestFree 8 = .ok (.iload_n 1, 1) := by decide +kernel
theorem dX1_lowestFree_9 : decode cX1_lowestFree 9 = .ok (.iload_n 2, 1) := by decide +kernel
theorem dX1_lowestFree_10 : decode cX1_lowestFree 10 = .ok (.invokestatic 62, 3) := by decide +kernel
theorem dX1_lowestFree_13 : decode cX1_lowestFree 13 = .ok (.ifCond .eq 15, 3) := by decide +kernel
theorem dX1_lowestFree_16 : decode cX1_lowestFree 16 = .ok (.aload_n 0, 1) := by decide +kernel
theorem dX1_lowestFree_17 : decode cX1_lowestFree 17 = .ok (.iload_n 2, 1) := by decide +kernel
theorem dX1_lowestFree_18 : decode cX1_lowestFree 18 = .ok (.invokevirtual 66, 3) := by decide +kernel
theorem dX1_lowestFree_21 : decode cX1_lowestFree 21 = .ok (.iload_n 1, 1) := by decide +kernel
theorem dX1_lowestFree_22 : decode cX1_lowestFree 22 = .ok (.iand, 1) := by decide +kernel
theorem dX1_lowestFree_23 : decode cX1_lowestFree 23 = .ok (.ifCond .ne 5, 3) := by decide +kernel
theorem dX1_lowestFree_26 : decode cX1_lowestFree 26 = .ok (.iload_n 2, 1) := by decide +kernel
theorem dX1_lowestFree_27 : decode cX1_lowestFree 27 = .ok (.ireturn, 1) := by decide +kernel
theorem dX1_lowestFree_28 : decode cX1_lowestFree 28 = .ok (.iinc 2 1, 3) := by decide +kernel
theorem dX1_lowestFree_31 : decode cX1_lowestFree 31 = .ok (.goto (-29), 3) := by decide +kernel
theorem dX1_lowestFree_34 : decode cX1_lowestFree 34 = .ok (.iconst (-1), 1) := by decide +kernel
theorem dX1_lowestFree_35 : decode cX1_lowestFree 35 = .ok (.ireturn, 1) := by decide +kernel
theorem dX1_toldAt_0 : decode cX1_toldAt 0 = .ok (.iload_n 1, 1) := by decide +kernel
theorem dX1_toldAt_1 : decode cX1_toldAt 1 = .ok (.ifCond .lt 21, 3) := by decide +kernel
theorem dX1_toldAt_4 : decode cX1_toldAt 4 = .ok (.iload_n 1, 1) := by decide +kernel
theorem dX1_toldAt_5 : decode cX1_toldAt 5 = .ok (.aload_n 0, 1) := by decide +kernel
theorem dX1_toldAt_6 : decode cX1_toldAt 6 = .ok (.getfield 17, 3) := by decide +kernel
theorem dX1_toldAt_9 : decode cX1_toldAt 9 = .ok (.arraylength, 1) := by decide +kernel
theorem dX1_toldAt_10 : decode cX1_toldAt 10 = .ok (.if_icmp .ge 12, 3) := by decide +kernel
theorem dX1_toldAt_13 : decode cX1_toldAt 13 = .ok (.aload_n 0, 1) := by decide +kernel
theorem dX1_toldAt_14 : decode cX1_toldAt 14 = .ok (.getfield 17, 3) := by decide +kernel
theorem dX1_toldAt_17 : decode cX1_toldAt 17 = .ok (.iload_n 1, 1) := by decide +kernel
theorem dX1_toldAt_18 : decode cX1_toldAt 18 = .ok (.iaload, 1) := by decide +kernel
theorem dX1_toldAt_19 : decode cX1_toldAt 19 = .ok (.goto 4, 3) := by decide +kernel
theorem dX1_toldAt_22 : decode cX1_toldAt 22 = .ok (.iconst (-1), 1) := by decide +kernel
theorem dX1_toldAt_23 : decode cX1_toldAt 23 = .ok (.ireturn, 1) := by decide +kernel
theorem dX1_fieldsThatFall_0 : decode cX1_fieldsThatFall 0 = .ok (.iconst 0, 1) := by decide +kernel
theorem dX1_fieldsThatFall_1 : decode cX1_fieldsThatFall 1 = .ok (.istore_n 3, 1) := by decide +kernel
theorem dX1_fieldsThatFall_2 : decode cX1_fieldsThatFall 2 = .ok (.iconst 0, 1) := by decide +kernel
theorem dX1_fieldsThatFall_3 : decode cX1_fieldsThatFall 3 = .ok (.istore 4, 2) := by decide +kernel
theorem dX1_fieldsThatFall_5 : decode cX1_fieldsThatFall 5 = .ok (.iload 4, 2) := by decide +kernel
theorem dX1_fieldsThatFall_7 : decode cX1_fieldsThatFall 7 = .ok (.bipush 6, 2) := by decide +kernel
theorem dX1_fieldsThatFall_9 : decode cX1_fieldsThatFall 9 = .ok (.if_icmp .ge 40, 3) := by decide +kernel
theorem dX1_fieldsThatFall_12 : decode cX1_fieldsThatFall 12 = .ok (.aload_n 0, 1) := by decide +kernel
theorem dX1_fieldsThatFall_13 : decode cX1_fieldsThatFall 13 = .ok (.iload 4, 2) := by decide +kernel
theorem dX1_fieldsThatFall_15 : decode cX1_fieldsThatFall 15 = .ok (.invokevirtual 89, 3) := by decide +kernel
theorem dX1_fieldsThatFall_18 : decode cX1_fieldsThatFall 18 = .ok (.istore 5, 2) := by decide +kernel
theorem dX1_fieldsThatFall_20 : decode cX1_fieldsThatFall 20 = .ok (.iload 5, 2) := by decide +kernel
theorem dX1_fieldsThatFall_22 : decode cX1_fieldsThatFall 22 = .ok (.ifCond .eq 21, 3) := by decide +kernel
theorem dX1_fieldsThatFall_25 : decode cX1_fieldsThatFall 25 = .ok (.iload 5, 2) := by decide +kernel
theorem dX1_fieldsThatFall_27 : decode cX1_fieldsThatFall 27 = .ok (.aload_n 1, 1) := by decide +kernel
theorem dX1_fieldsThatFall_28 : decode cX1_fieldsThatFall 28 = .ok (.iload 4, 2) := by decide +kernel
theorem dX1_fieldsThatFall_30 : decode cX1_fieldsThatFall 30 = .ok (.invokevirtual 89, 3) := by decide +kernel
theorem dX1_fieldsThatFall_33 : decode cX1_fieldsThatFall 33 = .ok (.if_icmp .eq 10, 3) := by decide +kernel
theorem dX1_fieldsThatFall_36 : decode cX1_fieldsThatFall 36 = .ok (.iload_n 3, 1) := by decide +kernel
theorem dX1_fieldsThatFall_37 : decode cX1_fieldsThatFall 37 = .ok (.iconst 1, 1) := by decide +kernel
theorem dX1_fieldsThatFall_38 : decode cX1_fieldsThatFall 38 = .ok (.iload 4, 2) := by decide +kernel
theorem dX1_fieldsThatFall_40 : decode cX1_fieldsThatFall 40 = .ok (.ishl, 1) := by decide +kernel
theorem dX1_fieldsThatFall_41 : decode cX1_fieldsThatFall 41 = .ok (.ior, 1) := by decide +kernel
theorem dX1_fieldsThatFall_42 : decode cX1_fieldsThatFall 42 = .ok (.istore_n 3, 1) := by decide +kernel
theorem dX1_fieldsThatFall_43 : decode cX1_fieldsThatFall 43 = .ok (.iinc 4 1, 3) := by decide +kernel
theorem dX1_fieldsThatFall_46 : decode cX1_fieldsThatFall 46 = .ok (.goto (-41), 3) := by decide +kernel
theorem dX1_fieldsThatFall_49 : decode cX1_fieldsThatFall 49 = .ok (.iconst 0, 1) := by decide +kernel
theorem dX1_fieldsThatFall_50 : decode cX1_fieldsThatFall 50 = .ok (.istore 4, 2) := by decide +kernel
theorem dX1_fieldsThatFall_52 : decode cX1_fieldsThatFall 52 = .ok (.iload 4, 2) := by decide +kernel
theorem dX1_fieldsThatFall_54 : decode cX1_fieldsThatFall 54 = .ok (.bipush 10, 2) := by decide +kernel
theorem dX1_fieldsThatFall_56 : decode cX1_fieldsThatFall 56 = .ok (.if_icmp .ge 58, 3) := by decide +kernel
theorem dX1_fieldsThatFall_59 : decode cX1_fieldsThatFall 59 = .ok (.iload 4, 2) := by decide +kernel
theorem dX1_fieldsThatFall_61 : decode cX1_fieldsThatFall 61 = .ok (.aload_n 2, 1) := by decide +kernel
theorem dX1_fieldsThatFall_62 : decode cX1_fieldsThatFall 62 = .ok (.arraylength, 1) := by decide +kernel
theorem dX1_fieldsThatFall_63 : decode cX1_fieldsThatFall 63 = .ok (.if_icmp .ge 51, 3) := by decide +kernel
theorem dX1_fieldsThatFall_66 : decode cX1_fieldsThatFall 66 = .ok (.aload_n 0, 1) := by decide +kernel
theorem dX1_fieldsThatFall_67 : decode cX1_fieldsThatFall 67 = .ok (.iload 4, 2) := by decide +kernel
theorem dX1_fieldsThatFall_69 : decode cX1_fieldsThatFall 69 = .ok (.invokevirtual 38, 3) := by decide +kernel
theorem dX1_fieldsThatFall_72 : decode cX1_fieldsThatFall 72 = .ok (.astore 5, 2) := by decide +kernel
theorem dX1_fieldsThatFall_74 : decode cX1_fieldsThatFall 74 = .ok (.aload_n 2, 1) := by decide +kernel
theorem dX1_fieldsThatFall_75 : decode cX1_fieldsThatFall 75 = .ok (.iload 4, 2) := by decide +kernel
theorem dX1_fieldsThatFall_77 : decode cX1_fieldsThatFall 77 = .ok (.aaload, 1) := by decide +kernel
theorem dX1_fieldsThatFall_78 : decode cX1_fieldsThatFall 78 = .ok (.astore 6, 2) := by decide +kernel
theorem dX1_fieldsThatFall_80 : decode cX1_fieldsThatFall 80 = .ok (.aload 5, 2) := by decide +kernel
theorem dX1_fieldsThatFall_82 : decode cX1_fieldsThatFall 82 = .ok (.ifnull 26, 3) := by decide +kernel
theorem dX1_fieldsThatFall_85 : decode cX1_fieldsThatFall 85 = .ok (.aload 6, 2) := by decide +kernel
theorem dX1_fieldsThatFall_87 : decode cX1_fieldsThatFall 87 = .ok (.ifnull 21, 3) := by decide +kernel
theorem dX1_fieldsThatFall_90 : decode cX1_fieldsThatFall 90 = .ok (.aload 5, 2) := by decide +kernel
theorem dX1_fieldsThatFall_92 : decode cX1_fieldsThatFall 92 = .ok (.aload 6, 2) := by decide +kernel
theorem dX1_fieldsThatFall_94 : decode cX1_fieldsThatFall 94 = .ok (.invokevirtual 92, 3) := by decide +kernel
theorem dX1_fieldsThatFall_97 : decode cX1_fieldsThatFall 97 = .ok (.ifCond .eq 11, 3) := by decide +kernel
theorem dX1_fieldsThatFall_100 : decode cX1_fieldsThatFall 100 = .ok (.iload_n 3, 1) := by decide +kernel
theorem dX1_fieldsThatFall_101 : decode cX1_fieldsThatFall 101 = .ok (.aload 5, 2) := by decide +kernel
theorem dX1_fieldsThatFall_103 : decode cX1_fieldsThatFall 103 = .ok (.invokevirtual 58, 3) := by decide +kernel
theorem dX1_fieldsThatFall_106 : decode cX1_fieldsThatFall 106 = .ok (.ior, 1) := by decide +kernel
theorem dX1_fieldsThatFall_107 : decode cX1_fieldsThatFall 107 = .ok (.istore_n 3, 1) := by decide +kernel
theorem dX1_fieldsThatFall_108 : decode cX1_fieldsThatFall 108 = .ok (.iinc 4 1, 3) := by decide +kernel
theorem dX1_fieldsThatFall_111 : decode cX1_fieldsThatFall 111 = .ok (.goto (-59), 3) := by decide +kernel
theorem dX1_fieldsThatFall_114 : decode cX1_fieldsThatFall 114 = .ok (.iload_n 3, 1) := by decide +kernel
theorem dX1_fieldsThatFall_115 : decode cX1_fieldsThatFall 115 = .ok (.ireturn, 1) := by decide +kernel
theorem dX2_init_0 : decode cX2_init 0 = .ok (.aload_n 0, 1) := by decide +kernel
theorem dX2_init_1 : decode cX2_init 1 = .ok (.invokespecial 3, 3) := by decide +kernel
theorem dX2_init_4 : decode cX2_init 4 = .ok (.aload_n 0, 1) := by decide +kernel
theorem dX2_init_5 : decode cX2_init 5 = .ok (.aload_n 1, 1) := by decide +kernel
theorem dX2_init_6 : decode cX2_init 6 = .ok (.putfield 9, 3) := by decide +kernel
theorem dX2_init_9 : decode cX2_init 9 = .ok (.aload_n 0, 1) := by decide +kernel
theorem dX2_init_10 : decode cX2_init 10 = .ok (.aload_n 1, 1) := by decide +kernel
theorem dX2_init_11 : decode cX2_init 11 = .ok (.arraylength, 1) := by decide +kernel
theorem dX2_init_12 : decode cX2_init 12 = .ok (.newarray .int, 2) := by decide +kernel
theorem dX2_init_14 : decode cX2_init 14 = .ok (.putfield 15, 3) := by decide +kernel
theorem dX2_init_17 : decode cX2_init 17 = .ok (.aload_n 0, 1) := by decide +kernel
theorem dX2_init_18 : decode cX2_init 18 = .ok (.aload_n 2, 1) := by decide +kernel
theorem dX2_init_19 : decode cX2_init 19 = .ok (.putfield 18, 3) := by decide +kernel
theorem dX2_init_22 : decode cX2_init 22 = .ok (.aload_n 0, 1) := by decide +kernel
theorem dX2_init_23 : decode cX2_init 23 = .ok (.iload_n 3, 1) := by decide +kernel
theorem dX2_init_24 : decode cX2_init 24 = .ok (.putfield 21, 3) := by decide +kernel
theorem dX2_init_27 : decode cX2_init 27 = .ok (.return_, 1) := by decide +kernel
theorem dX2_letterSet_0 : decode cX2_letterSet 0 = .ok (.aload_n 0, 1) := by decide +kernel
theorem dX2_letterSet_1 : decode cX2_letterSet 1 = .ok (.getfield 21, 3) := by decide +kernel
theorem dX2_letterSet_4 : decode cX2_letterSet 4 = .ok (.ireturn, 1) := by decide +kernel
theorem dX2_plainSign_0 : decode cX2_plainSign 0 = .ok (.iload_n 1, 1) := by decide +kernel
theorem dX2_plainSign_1 : decode cX2_plainSign 1 = .ok (.ifCond .lt 21, 3) := by decide +kernel
theorem dX2_plainSign_4 : decode cX2_plainSign 4 = .ok (.iload_n 1, 1) := by decide +kernel
theorem dX2_plainSign_5 : decode cX2_plainSign 5 = .ok (.aload_n 0, 1) := by decide +kernel
theorem dX2_plainSign_6 : decode cX2_plainSign 6 = .ok (.getfield 18, 3) := by decide +kernel
theorem dX2_plainSign_9 : decode cX2_plainSign 9 = .ok (.arraylength, 1) := by decide +kernel
theorem dX2_plainSign_10 : decode cX2_plainSign 10 = .ok (.if_icmp .ge 12, 3) := by decide +kernel
theorem dX2_plainSign_13 : decode cX2_plainSign 13 = .ok (.aload_n 0, 1) := by decide +kernel
theorem dX2_plainSign_14 : decode cX2_plainSign 14 = .ok (.getfield 18, 3) := by decide +kernel
theorem dX2_plainSign_17 : decode cX2_plainSign 17 = .ok (.iload_n 1, 1) := by decide +kernel
theorem dX2_plainSign_18 : decode cX2_plainSign 18 = .ok (.iaload, 1) := by decide +kernel
theorem dX2_plainSign_19 : decode cX2_plainSign 19 = .ok (.goto 4, 3) := by decide +kernel
theorem dX2_plainSign_22 : decode cX2_plainSign 22 = .ok (.iconst (-1), 1) := by decide +kernel
theorem dX2_plainSign_23 : decode cX2_plainSign 23 = .ok (.ireturn, 1) := by decide +kernel
theorem dX2_looksLike_0 : decode cX2_looksLike 0 = .ok (.aload_n 1, 1) := by decide +kernel
theorem dX2_looksLike_1 : decode cX2_looksLike 1 = .ok (.getfield 18, 3) := by decide +kernel
theorem dX2_looksLike_4 : decode cX2_looksLike 4 = .ok (.arraylength, 1) := by decide +kernel
theorem dX2_looksLike_5 : decode cX2_looksLike 5 = .ok (.aload_n 0, 1) := by decide +kernel
theorem dX2_looksLike_6 : decode cX2_looksLike 6 = .ok (.getfield 18, 3) := by decide +kernel
theorem dX2_looksLike_9 : decode cX2_looksLike 9 = .ok (.arraylength, 1) := by decide +kernel
theorem dX2_looksLike_10 : decode cX2_looksLike 10 = .ok (.if_icmp .eq 5, 3) := by decide +kernel
theorem dX2_looksLike_13 : decode cX2_looksLike 13 = .ok (.iconst 0, 1) := by decide +kernel
theorem dX2_looksLike_14 : decode cX2_looksLike 14 = .ok (.ireturn, 1) := by decide +kernel
theorem dX2_looksLike_15 : decode cX2_looksLike 15 = .ok (.iconst 0, 1) := by decide +kernel
theorem dX2_looksLike_16 : decode cX2_looksLike 16 = .ok (.istore_n 2, 1) := by decide +kernel
theorem dX2_looksLike_17 : decode cX2_looksLike 17 = .ok (.iload_n 2, 1) := by decide +kernel
theorem dX2_looksLike_18 : decode cX2_looksLike 18 = .ok (.aload_n 0, 1) := by decide +kernel
theorem dX2_looksLike_19 : decode cX2_looksLike 19 = .ok (.getfield 18, 3) := by decide +kernel
theorem dX2_looksLike_22 : decode cX2_looksLike 22 = .ok (.arraylength, 1) := by decide +kernel
theorem dX2_looksLike_23 : decode cX2_looksLike 23 = .ok (.if_icmp .ge 25, 3) := by decide +kernel
theorem dX2_looksLike_26 : decode cX2_looksLike 26 = .ok (.aload_n 1, 1) := by decide +kernel
theorem dX2_looksLike_27 : decode cX2_looksLike 27 = .ok (.iload_n 2, 1) := by decide +kernel
theorem dX2_looksLike_28 : decode cX2_looksLike 28 = .ok (.invokevirtual 25, 3) := by decide +kernel
theorem dX2_looksLike_31 : decode cX2_looksLike 31 = .ok (.aload_n 0, 1) := by decide +kernel
theorem dX2_looksLike_32 : decode cX2_looksLike 32 = .ok (.getfield 18, 3) := by decide +kernel
theorem dX2_looksLike_35 : decode cX2_looksLike 35 = .ok (.iload_n 2, 1) := by decide +kernel
theorem dX2_looksLike_36 : decode cX2_looksLike 36 = .ok (.iaload, 1) := by decide +kernel
theorem dX2_looksLike_37 : decode cX2_looksLike 37 = .ok (.if_icmp .eq 5, 3) := by decide +kernel
theorem dX2_looksLike_40 : decode cX2_looksLike 40 = .ok (.iconst 0, 1) := by decide +kernel
theorem dX2_looksLike_41 : decode cX2_looksLike 41 = .ok (.ireturn, 1) := by decide +kernel
theorem dX2_looksLike_42 : decode cX2_looksLike 42 = .ok (.iinc 2 1, 3) := by decide +kernel
theorem dX2_looksLike_45 : decode cX2_looksLike 45 = .ok (.goto (-28), 3) := by decide +kernel
theorem dX2_looksLike_48 : decode cX2_looksLike 48 = .ok (.iconst 1, 1) := by decide +kernel
theorem dX2_looksLike_49 : decode cX2_looksLike 49 = .ok (.ireturn, 1) := by decide +kernel
theorem dX2_readFor_0 : decode cX2_readFor 0 = .ok (.iconst 0, 1) := by decide +kernel
theorem dX2_readFor_1 : decode cX2_readFor 1 = .ok (.istore_n 2, 1) := by decide +kernel
theorem dX2_readFor_2 : decode cX2_readFor 2 = .ok (.aload_n 0, 1) := by decide +kernel
theorem dX2_readFor_3 : decode cX2_readFor 3 = .ok (.getfield 9, 3) := by decide +kernel
theorem dX2_readFor_6 : decode cX2_readFor 6 = .ok (.astore_n 3, 1) := by decide +kernel
theorem dX2_readFor_7 : decode cX2_readFor 7 = .ok (.aload_n 3, 1) := by decide +kernel
theorem dX2_readFor_8 : decode cX2_readFor 8 = .ok (.arraylength, 1) := by decide +kernel
theorem dX2_readFor_9 : decode cX2_readFor 9 = .ok (.istore 4, 2) := by decide +kernel
theorem dX2_readFor_11 : decode cX2_readFor 11 = .ok (.iconst 0, 1) := by decide +kernel
theorem dX2_readFor_12 : decode cX2_readFor 12 = .ok (.istore 5, 2) := by decide +kernel
theorem dX2_readFor_14 : decode cX2_readFor 14 = .ok (.iload 5, 2) := by decide +kernel
theorem dX2_readFor_16 : decode cX2_readFor 16 = .ok (.iload 4, 2) := by decide +kernel
theorem dX2_readFor_18 : decode cX2_readFor 18 = .ok (.if_icmp .ge 139, 3) := by decide +kernel
theorem dX2_readFor_21 : decode cX2_readFor 21 = .ok (.aload_n 3, 1) := by decide +kernel
theorem dX2_readFor_22 : decode cX2_readFor 22 = .ok (.iload 5, 2) := by decide +kernel
theorem dX2_readFor_24 : decode cX2_readFor 24 = .ok (.iaload, 1) := by decide +kernel
theorem dX2_readFor_25 : decode cX2_readFor 25 = .ok (.istore 6, 2) := by decide +kernel
theorem dX2_readFor_27 : decode cX2_readFor 27 = .ok (.iload 6, 2) := by decide +kernel
theorem dX2_readFor_29 : decode cX2_readFor 29 = .ok (.ifCond .lt 51, 3) := by decide +kernel
theorem dX2_readFor_32 : decode cX2_readFor 32 = .ok (.iload_n 2, 1) := by decide +kernel
theorem dX2_readFor_33 : decode cX2_readFor 33 = .ok (.aload_n 0, 1) := by decide +kernel
theorem dX2_readFor_34 : decode cX2_readFor 34 = .ok (.getfield 15, 3) := by decide +kernel
theorem dX2_readFor_37 : decode cX2_readFor 37 = .ok (.arraylength, 1) := by decide +kernel
theorem dX2_readFor_38 : decode cX2_readFor 38 = .ok (.if_icmp .ge 42, 3) := by decide +kernel
theorem dX2_readFor_41 : decode cX2_readFor 41 = .ok (.aload_n 0, 1) := by decide +kernel
theorem dX2_readFor_42 : decode cX2_readFor 42 = .ok (.getfield 15, 3) := by decide +kernel
theorem dX2_readFor_45 : decode cX2_readFor 45 = .ok (.iload_n 2, 1) := by decide +kernel
theorem dX2_readFor_46 : decode cX2_readFor 46 = .ok (.iload 6, 2) := by decide +kernel
theorem dX2_readFor_48 : decode cX2_readFor 48 = .ok (.sipush 1000, 3) := by decide +kernel
theorem dX2_readFor_51 : decode cX2_readFor 51 = .ok (.if_icmp .ge 12, 3) := by decide +kernel
theorem dX2_readFor_54 : decode cX2_readFor 54 = .ok (.aload_n 1, 1) := by decide +kernel
theorem dX2_readFor_55 : decode cX2_readFor 55 = .ok (.iload 6, 2) := by decide +kernel
theorem dX2_readFor_57 : decode cX2_readFor 57 = .ok (.invokevirtual 29, 3) := by decide +kernel
theorem dX2_readFor_60 : decode cX2_readFor 60 = .ok (.goto 13, 3) := by decide +kernel
theorem dX2_readFor_63 : decode cX2_readFor 63 = .ok (.aload_n 1, 1) := by decide +kernel
theorem dX2_readFor_64 : decode cX2_readFor 64 = .ok (.iload 6, 2) := by decide +kernel
theorem dX2_readFor_66 : decode cX2_readFor 66 = .ok (.sipush 1000, 3) := by decide +kernel
theorem dX2_readFor_69 : decode cX2_readFor 69 = .ok (.isub, 1) := by decide +kernel
theorem dX2_readFor_70 : decode cX2_readFor 70 = .ok (.invokevirtual 34, 3) := by decide +kernel
theorem dX2_readFor_73 : decode cX2_readFor 73 = .ok (.iastore, 1) := by decide +kernel
theorem dX2_readFor_74 : decode cX2_readFor 74 = .ok (.iinc 2 1, 3) := by decide +kernel
theorem dX2_readFor_77 : decode cX2_readFor 77 = .ok (.goto 74, 3) := by decide +kernel
theorem dX2_readFor_80 : decode cX2_readFor 80 = .ok (.iload 6, 2) := by decide +kernel
theorem dX2_readFor_82 : decode cX2_readFor 82 = .ok (.bipush (-33), 2) := by decide +kernel
theorem dX2_readFor_84 : decode cX2_readFor 84 = .ok (.if_icmp .ne 30, 3) := by decide +kernel
theorem dX2_readFor_87 : decode cX2_readFor 87 = .ok (.iload_n 2, 1) := by decide +kernel
theorem dX2_readFor_88 : decode cX2_readFor 88 = .ok (.ifCond .le 26, 3) := by decide +kernel
theorem dX2_readFor_91 : decode cX2_readFor 91 = .ok (.aload_n 0, 1) := by decide +kernel
theorem dX2_readFor_92 : decode cX2_readFor 92 = .ok (.getfield 15, 3) := by decide +kernel
theorem dX2_readFor_95 : decode cX2_readFor 95 = .ok (.iload_n 2, 1) := by decide +kernel
theorem dX2_readFor_96 : decode cX2_readFor 96 = .ok (.iconst 1, 1) := by decide +kernel
theorem dX2_readFor_97 : decode cX2_readFor 97 = .ok (.isub, 1) := by decide +kernel
theorem dX2_readFor_98 : decode cX2_readFor 98 = .ok (.aload_n 1, 1) := by decide +kernel
theorem dX2_readFor_99 : decode cX2_readFor 99 = .ok (.aload_n 0, 1) := by decide +kernel
theorem dX2_readFor_100 : decode cX2_readFor 100 = .ok (.getfield 15, 3) := by decide +kernel
theorem dX2_readFor_103 : decode cX2_readFor 103 = .ok (.iload_n 2, 1) := by decide +kernel
theorem dX2_readFor_104 : decode cX2_readFor 104 = .ok (.iconst 1, 1) := by decide +kernel
theorem dX2_readFor_105 : decode cX2_readFor 105 = .ok (.isub, 1) := by decide +kernel
theorem dX2_readFor_106 : decode cX2_readFor 106 = .ok (.iaload, 1) := by decide +kernel
theorem dX2_readFor_107 : decode cX2_readFor 107 = .ok (.invokevirtual 37, 3) := by decide +kernel
theorem dX2_readFor_110 : decode cX2_readFor 110 = .ok (.iastore, 1) := by decide +kernel
theorem dX2_readFor_111 : decode cX2_readFor 111 = .ok (.goto 40, 3) := by decide +kernel
theorem dX2_readFor_114 : decode cX2_readFor 114 = .ok (.iload_n 2, 1) := by decide +kernel
theorem dX2_readFor_115 : decode cX2_readFor 115 = .ok (.iconst 1, 1) := by decide +kernel
theorem dX2_readFor_116 : decode cX2_readFor 116 = .ok (.if_icmp .le 35, 3) := by decide +kernel
theorem dX2_readFor_119 : decode cX2_readFor 119 = .ok (.iinc 2 (-1), 3) := by decide +kernel
theorem dX2_readFor_122 : decode cX2_readFor 122 = .ok (.aload_n 0, 1) := by decide +kernel
theorem dX2_readFor_123 : decode cX2_readFor 123 = .ok (.getfield 15, 3) := by decide +kernel
theorem dX2_readFor_126 : decode cX2_readFor 126 = .ok (.iload_n 2, 1) := by decide +kernel
theorem dX2_readFor_127 : decode cX2_readFor 127 = .ok (.iconst 1, 1) := by decide +kernel
theorem dX2_readFor_128 : decode cX2_readFor 128 = .ok (.isub, 1) := by decide +kernel
theorem dX2_readFor_129 : decode cX2_readFor 129 = .ok (.aload_n 1, 1) := by decide +kernel
theorem dX2_readFor_130 : decode cX2_readFor 130 = .ok (.iload 6, 2) := by decide +kernel
theorem dX2_readFor_132 : decode cX2_readFor 132 = .ok (.ineg, 1) := by decide +kernel
theorem dX2_readFor_133 : decode cX2_readFor 133 = .ok (.aload_n 0, 1) := by decide +kernel
theorem dX2_readFor_134 : decode cX2_readFor 134 = .ok (.getfield 15, 3) := by decide +kernel
theorem dX2_readFor_137 : decode cX2_readFor 137 = .ok (.iload_n 2, 1) := by decide +kernel
theorem dX2_readFor_138 : decode cX2_readFor 138 = .ok (.iconst 1, 1) := by decide +kernel
theorem dX2_readFor_139 : decode cX2_readFor 139 = .ok (.isub, 1) := by decide +kernel
theorem dX2_readFor_140 : decode cX2_readFor 140 = .ok (.iaload, 1) := by decide +kernel
theorem dX2_readFor_141 : decode cX2_readFor 141 = .ok (.aload_n 0, 1) := by decide +kernel
theorem dX2_readFor_142 : decode cX2_readFor 142 = .ok (.getfield 15, 3) := by decide +kernel
theorem dX2_readFor_145 : decode cX2_readFor 145 = .ok (.iload_n 2, 1) := by decide +kernel
theorem dX2_readFor_146 : decode cX2_readFor 146 = .ok (.iaload, 1) := by decide +kernel
theorem dX2_readFor_147 : decode cX2_readFor 147 = .ok (.invokevirtual 40, 3) := by decide +kernel
theorem dX2_readFor_150 : decode cX2_readFor 150 = .ok (.iastore, 1) := by decide +kernel
theorem dX2_readFor_151 : decode cX2_readFor 151 = .ok (.iinc 5 1, 3) := by decide +kernel
theorem dX2_readFor_154 : decode cX2_readFor 154 = .ok (.goto (-140), 3) := by decide +kernel
theorem dX2_readFor_157 : decode cX2_readFor 157 = .ok (.iload_n 2, 1) := by decide +kernel
theorem dX2_readFor_158 : decode cX2_readFor 158 = .ok (.ifCond .le 12, 3) := by decide +kernel
theorem dX2_readFor_161 : decode cX2_readFor 161 = .ok (.aload_n 0, 1) := by decide +kernel
theorem dX2_readFor_162 : decode cX2_readFor 162 = .ok (.getfield 15, 3) := by decide +kernel
theorem dX2_readFor_165 : decode cX2_readFor 165 = .ok (.iconst 0, 1) := by decide +kernel
theorem dX2_readFor_166 : decode cX2_readFor 166 = .ok (.iaload, 1) := by decide +kernel
theorem dX2_readFor_167 : decode cX2_readFor 167 = .ok (.goto 4, 3) := by decide +kernel
theorem dX2_readFor_170 : decode cX2_readFor 170 = .ok (.iconst (-1), 1) := by decide +kernel
theorem dX2_readFor_171 : decode cX2_readFor 171 = .ok (.ireturn, 1) := by decide +kernel
theorem dX3_init_0 : decode cX3_init 0 = .ok (.aload_n 0, 1) := by decide +kernel
theorem dX3_init_1 : decode cX3_init 1 = .ok (.invokespecial 1, 3) := by decide +kernel
theorem dX3_init_4 : decode cX3_init 4 = .ok (.return_, 1) := by decide +kernel
theorem dX4_init_0 : decode cX4_init 0 = .ok (.aload_n 0, 1) := by decide +kernel
theorem dX4_init_1 : decode cX4_init 1 = .ok (.invokespecial 3, 3) := by decide +kernel
theorem dX4_init_4 : decode cX4_init 4 = .ok (.aload_n 0, 1) := by decide +kernel
theorem dX4_init_5 : decode cX4_init 5 = .ok (.bipush 40, 2) := by decide +kernel
theorem dX4_init_7 : decode cX4_init 7 = .ok (.newarray .char, 2) := by decide +kernel
theorem dX4_init_9 : decode cX4_init 9 = .ok (.putfield 9, 3) := by decide +kernel
theorem dX4_init_12 : decode cX4_init 12 = .ok (.aload_n 0, 1) := by decide +kernel
theorem dX4_init_13 : decode cX4_init 13 = .ok (.iconst 0, 1) := by decide +kernel
theorem dX4_init_14 : decode cX4_init 14 = .ok (.putfield 15, 3) := by decide +kernel
theorem dX4_init_17 : decode cX4_init 17 = .ok (.aload_n 0, 1) := by decide +kernel
theorem dX4_init_18 : decode cX4_init 18 = .ok (.iconst 0, 1) := by decide +kernel
theorem dX4_init_19 : decode cX4_init 19 = .ok (.putfield 19, 3) := by decide +kernel
theorem dX4_init_22 : decode cX4_init 22 = .ok (.aload_n 0, 1) := by decide +kernel
theorem dX4_init_23 : decode cX4_init 23 = .ok (.bipush 40, 2) := by decide +kernel
theorem dX4_init_25 : decode cX4_init 25 = .ok (.newarray .int, 2) := by decide +kernel
theorem dX4_init_27 : decode cX4_init 27 = .ok (.putfield 22, 3) := by decide +kernel
theorem dX4_init_30 : decode cX4_init 30 = .ok (.aload_n 0, 1) := by decide +kernel
theorem dX4_init_31 : decode cX4_init 31 = .ok (.iconst 0, 1) := by decide +kernel
theorem dX4_init_32 : decode cX4_init 32 = .ok (.putfield 26, 3) := by decide +kernel
theorem dX4_init_35 : decode cX4_init 35 = .ok (.aload_n 0, 1) := by decide +kernel
theorem dX4_init_36 : decode cX4_init 36 = .ok (.bipush 80, 2) := by decide +kernel
theorem dX4_init_38 : decode cX4_init 38 = .ok (.newarray .int, 2) := by decide +kernel
theorem dX4_init_40 : decode cX4_init 40 = .ok (.putfield 29, 3) := by decide +kernel
theorem dX4_init_43 : decode cX4_init 43 = .ok (.aload_n 0, 1) := by decide +kernel
theorem dX4_init_44 : decode cX4_init 44 = .ok (.iconst 0, 1) := by decide +kernel
theorem dX4_init_45 : decode cX4_init 45 = .ok (.putfield 32, 3) := by decide +kernel
theorem dX4_init_48 : decode cX4_init 48 = .ok (.aload_n 0, 1) := by decide +kernel
theorem dX4_init_49 : decode cX4_init 49 = .ok (.iconst 0, 1) := by decide +kernel
theorem dX4_init_50 : decode cX4_init 50 = .ok (.putfield 35, 3) := by decide +kernel
theorem dX4_init_53 : decode cX4_init 53 = .ok (.return_, 1) := by decide +kernel
theorem dX4_size_0 : decode cX4_size 0 = .ok (.aload_n 0, 1) := by decide +kernel
theorem dX4_size_1 : decode cX4_size 1 = .ok (.getfield 15, 3) := by decide +kernel
theorem dX4_size_4 : decode cX4_size 4 = .ok (.ireturn, 1) := by decide +kernel
theorem dX4_append_0 : decode cX4_append 0 = .ok (.aload_n 0, 1) := by decide +kernel
theorem dX4_append_1 : decode cX4_append 1 = .ok (.getfield 15, 3) := by decide +kernel
theorem dX4_append_4 : decode cX4_append 4 = .ok (.aload_n 0, 1) := by decide +kernel
theorem dX4_append_5 : decode cX4_append 5 = .ok (.getfield 9, 3) := by decide +kernel
theorem dX4_append_8 : decode cX4_append 8 = .ok (.arraylength, 1) := by decide +kernel
theorem dX4_append_9 : decode cX4_append 9 = .ok (.if_icmp .ge 23, 3) := by decide +kernel
theorem dX4_append_12 : decode cX4_append 12 = .ok (.aload_n 0, 1) := by decide +kernel
theorem dX4_append_13 : decode cX4_append 13 = .ok (.getfield 9, 3) := by decide +kernel
theorem dX4_append_16 : decode cX4_append 16 = .ok (.aload_n 0, 1) := by decide +kernel
theorem dX4_append_17 : decode cX4_append 17 = .ok (.getfield 15, 3) := by decide +kernel
theorem dX4_append_20 : decode cX4_append 20 = .ok (.iload_n 1, 1) := by decide +kernel
theorem dX4_append_21 : decode cX4_append 21 = .ok (.castore, 1) := by decide +kernel
theorem dX4_append_22 : decode cX4_append 22 = .ok (.aload_n 0, 1) := by decide +kernel
theorem dX4_append_23 : decode cX4_append 23 = .ok (.dup, 1) := by decide +kernel
theorem dX4_append_24 : decode cX4_append 24 = .ok (.getfield 15, 3) := by decide +kernel
theorem dX4_append_27 : decode cX4_append 27 = .ok (.iconst 1, 1) := by decide +kernel
theorem dX4_append_28 : decode cX4_append 28 = .ok (.iadd, 1) := by decide +kernel
theorem dX4_append_29 : decode cX4_append 29 = .ok (.putfield 15, 3) := by decide +kernel
theorem dX4_append_32 : decode cX4_append 32 = .ok (.return_, 1) := by decide +kernel
theorem dX4_empty_0 : decode cX4_empty 0 = .ok (.aload_n 0, 1) := by decide +kernel
theorem dX4_empty_1 : decode cX4_empty 1 = .ok (.iconst 0, 1) := by decide +kernel
theorem dX4_empty_2 : decode cX4_empty 2 = .ok (.putfield 15, 3) := by decide +kernel
theorem dX4_empty_5 : decode cX4_empty 5 = .ok (.return_, 1) := by decide +kernel
theorem dX4_firstError_0 : decode cX4_firstError 0 = .ok (.aload_n 0, 1) := by decide +kernel
theorem dX4_firstError_1 : decode cX4_firstError 1 = .ok (.iconst 0, 1) := by decide +kernel
theorem dX4_firstError_2 : decode cX4_firstError 2 = .ok (.putfield 19, 3) := by decide +kernel
theorem dX4_firstError_5 : decode cX4_firstError 5 = .ok (.aload_n 0, 1) := by decide +kernel
theorem dX4_firstError_6 : decode cX4_firstError 6 = .ok (.iconst 0, 1) := by decide +kernel
theorem dX4_firstError_7 : decode cX4_firstError 7 = .ok (.putfield 26, 3) := by decide +kernel
theorem dX4_firstError_10 : decode cX4_firstError 10 = .ok (.aload_n 0, 1) := by decide +kernel
theorem dX4_firstError_11 : decode cX4_firstError 11 = .ok (.iconst 0, 1) := by decide +kernel
theorem dX4_firstError_12 : decode cX4_firstError 12 = .ok (.putfield 32, 3) := by decide +kernel
theorem dX4_firstError_15 : decode cX4_firstError 15 = .ok (.aload_n 0, 1) := by decide +kernel
theorem dX4_firstError_16 : decode cX4_firstError 16 = .ok (.iconst 0, 1) := by decide +kernel
theorem dX4_firstError_17 : decode cX4_firstError 17 = .ok (.putfield 35, 3) := by decide +kernel
theorem dX4_firstError_20 : decode cX4_firstError 20 = .ok (.aload_n 0, 1) := by decide +kernel
theorem dX4_firstError_21 : decode cX4_firstError 21 = .ok (.iconst 0, 1) := by decide +kernel
theorem dX4_firstError_22 : decode cX4_firstError 22 = .ok (.iconst 0, 1) := by decide +kernel
theorem dX4_firstError_23 : decode cX4_firstError 23 = .ok (.invokevirtual 38, 3) := by decide +kernel
theorem dX4_firstError_26 : decode cX4_firstError 26 = .ok (.ifCond .eq 18, 3) := by decide +kernel
theorem dX4_firstError_29 : decode cX4_firstError 29 = .ok (.aload_n 0, 1) := by decide +kernel
theorem dX4_firstError_30 : decode cX4_firstError 30 = .ok (.getfield 19, 3) := by decide +kernel
theorem dX4_firstError_33 : decode cX4_firstError 33 = .ok (.aload_n 0, 1) := by decide +kernel
theorem dX4_firstError_34 : decode cX4_firstError 34 = .ok (.getfield 15, 3) := by decide +kernel
theorem dX4_firstError_37 : decode cX4_firstError 37 = .ok (.if_icmp .ne 7, 3) := by decide +kernel
theorem dX4_firstError_40 : decode cX4_firstError 40 = .ok (.iconst (-1), 1) := by decide +kernel
theorem dX4_firstError_41 : decode cX4_firstError 41 = .ok (.goto 7, 3) := by decide +kernel
theorem dX4_firstError_44 : decode cX4_firstError 44 = .ok (.aload_n 0, 1) := by decide +kernel
theorem dX4_firstError_45 : decode cX4_firstError 45 = .ok (.getfield 19, 3) := by decide +kernel
theorem dX4_firstError_48 : decode cX4_firstError 48 = .ok (.ireturn, 1) := by decide +kernel
theorem dX4_made_0 : decode cX4_made 0 = .ok (.new 42, 3) := by decide +kernel
theorem dX4_made_3 : decode cX4_made 3 = .ok (.dup, 1) := by decide +kernel
theorem dX4_made_4 : decode cX4_made 4 = .ok (.aload_n 0, 1) := by decide +kernel
theorem dX4_made_5 : decode cX4_made 5 = .ok (.getfield 22, 3) := by decide +kernel
theorem dX4_made_8 : decode cX4_made 8 = .ok (.aload_n 0, 1) := by decide +kernel
theorem dX4_made_9 : decode cX4_made 9 = .ok (.getfield 26, 3) := by decide +kernel
theorem dX4_made_12 : decode cX4_made 12 = .ok (.invokestatic 44, 3) := by decide +kernel
theorem dX4_made_15 : decode cX4_made 15 = .ok (.aload_n 0, 1) := by decide +kernel
theorem dX4_made_16 : decode cX4_made 16 = .ok (.getfield 29, 3) := by decide +kernel
theorem dX4_made_19 : decode cX4_made 19 = .ok (.aload_n 0, 1) := by decide +kernel
theorem dX4_made_20 : decode cX4_made 20 = .ok (.getfield 32, 3) := by decide +kernel
theorem dX4_made_23 : decode cX4_made 23 = .ok (.invokestatic 44, 3) := by decide +kernel
theorem dX4_made_26 : decode cX4_made 26 = .ok (.aload_n 0, 1) := by decide +kernel
theorem dX4_made_27 : decode cX4_made 27 = .ok (.getfield 35, 3) := by decide +kernel
theorem dX4_made_30 : decode cX4_made 30 = .ok (.invokespecial 50, 3) := by decide +kernel
theorem dX4_made_33 : decode cX4_made 33 = .ok (.areturn, 1) := by decide +kernel
theorem dX4_readParts_0 : decode cX4_readParts 0 = .ok (.iload_n 1, 1) := by decide +kernel
theorem dX4_readParts_1 : decode cX4_readParts 1 = .ok (.iconst 4, 1) := by decide +kernel
theorem dX4_readParts_2 : decode cX4_readParts 2 = .ok (.if_icmp .le 9, 3) := by decide +kernel
theorem dX4_readParts_5 : decode cX4_readParts 5 = .ok (.aload_n 0, 1) := by decide +kernel
theorem dX4_readParts_6 : decode cX4_readParts 6 = .ok (.iload_n 2, 1) := by decide +kernel
theorem dX4_readParts_7 : decode cX4_readParts 7 = .ok (.invokevirtual 53, 3) := by decide +kernel
theorem dX4_readParts_10 : decode cX4_readParts 10 = .ok (.ireturn, 1) := by decide +kernel
theorem dX4_readParts_11 : decode cX4_readParts 11 = .ok (.aload_n 0, 1) := by decide +kernel
theorem dX4_readParts_12 : decode cX4_readParts 12 = .ok (.getfield 32, 3) := by decide +kernel
theorem dX4_readParts_15 : decode cX4_readParts 15 = .ok (.istore_n 3, 1) := by decide +kernel
theorem dX4_readParts_16 : decode cX4_readParts 16 = .ok (.aload_n 0, 1) := by decide +kernel
theorem dX4_readParts_17 : decode cX4_readParts 17 = .ok (.iload_n 1, 1) := by decide +kernel
theorem dX4_readParts_18 : decode cX4_readParts 18 = .ok (.iconst 1, 1) := by decide +kernel
theorem dX4_readParts_19 : decode cX4_readParts 19 = .ok (.iadd, 1) := by decide +kernel
theorem dX4_readParts_20 : decode cX4_readParts 20 = .ok (.iload_n 2, 1) := by decide +kernel
theorem dX4_readParts_21 : decode cX4_readParts 21 = .ok (.invokevirtual 38, 3) := by decide +kernel
theorem dX4_readParts_24 : decode cX4_readParts 24 = .ok (.ifCond .ne 5, 3) := by decide +kernel
theorem dX4_readParts_27 : decode cX4_readParts 27 = .ok (.iconst 0, 1) := by decide +kernel
theorem dX4_readParts_28 : decode cX4_readParts 28 = .ok (.ireturn, 1) := by decide +kernel
theorem dX4_readParts_29 : decode cX4_readParts 29 = .ok (.iload_n 1, 1) := by decide +kernel
theorem dX4_readParts_30 : decode cX4_readParts 30 = .ok (.iconst 2, 1) := by decide +kernel
theorem dX4_readParts_31 : decode cX4_readParts 31 = .ok (.if_icmp .ne 7, 3) := by decide +kernel
theorem dX4_readParts_34 : decode cX4_readParts 34 = .ok (.iconst 1, 1) := by decide +kernel
theorem dX4_readParts_35 : decode cX4_readParts 35 = .ok (.goto 5, 3) := by decide +kernel
theorem dX4_readParts_38 : decode cX4_readParts 38 = .ok (.bipush 40, 2) := by decide +kernel
theorem dX4_readParts_40 : decode cX4_readParts 40 = .ok (.istore 4, 2) := by decide +kernel
theorem dX4_readParts_42 : decode cX4_readParts 42 = .ok (.iconst 0, 1) := by decide +kernel
theorem dX4_readParts_43 : decode cX4_readParts 43 = .ok (.istore 5, 2) := by decide +kernel
theorem dX4_readParts_45 : decode cX4_readParts 45 = .ok (.iload 5, 2) := by decide +kernel
theorem dX4_readParts_47 : decode cX4_readParts 47 = .ok (.iload 4, 2) := by decide +kernel
theorem dX4_readParts_49 : decode cX4_readParts 49 = .ok (.if_icmp .ge 73, 3) := by decide +kernel
theorem dX4_readParts_52 : decode cX4_readParts 52 = .ok (.aload_n 0, 1) := by decide +kernel
theorem dX4_readParts_53 : decode cX4_readParts 53 = .ok (.invokevirtual 57, 3) := by decide +kernel
theorem dX4_readParts_56 : decode cX4_readParts 56 = .ok (.invokestatic 61, 3) := by decide +kernel
theorem dX4_readParts_59 : decode cX4_readParts 59 = .ok (.iload_n 1, 1) := by decide +kernel
theorem dX4_readParts_60 : decode cX4_readParts 60 = .ok (.if_icmp .ne 62, 3) := by decide +kernel
theorem dX4_readParts_63 : decode cX4_readParts 63 = .ok (.aload_n 0, 1) := by decide +kernel
theorem dX4_readParts_64 : decode cX4_readParts 64 = .ok (.invokevirtual 57, 3) := by decide +kernel
theorem dX4_readParts_67 : decode cX4_readParts 67 = .ok (.istore 6, 2) := by decide +kernel
theorem dX4_readParts_69 : decode cX4_readParts 69 = .ok (.aload_n 0, 1) := by decide +kernel
theorem dX4_readParts_70 : decode cX4_readParts 70 = .ok (.dup, 1) := by decide +kernel
theorem dX4_readParts_71 : decode cX4_readParts 71 = .ok (.getfield 19, 3) := by decide +kernel
theorem dX4_readParts_74 : decode cX4_readParts 74 = .ok (.iconst 1, 1) := by decide +kernel
theorem dX4_readParts_75 : decode cX4_readParts 75 = .ok (.iadd, 1) := by decide +kernel
theorem dX4_readParts_76 : decode cX4_readParts 76 = .ok (.putfield 19, 3) := by decide +kernel
theorem dX4_readParts_79 : decode cX4_readParts 79 = .ok (.aload_n 0, 1) := by decide +kernel
theorem dX4_readParts_80 : decode cX4_readParts 80 = .ok (.iload_n 3, 1) := by decide +kernel
theorem dX4_readParts_81 : decode cX4_readParts 81 = .ok (.invokevirtual 65, 3) := by decide +kernel
theorem dX4_readParts_84 : decode cX4_readParts 84 = .ok (.aload_n 0, 1) := by decide +kernel
theorem dX4_readParts_85 : decode cX4_readParts 85 = .ok (.iload 6, 2) := by decide +kernel
theorem dX4_readParts_87 : decode cX4_readParts 87 = .ok (.invokevirtual 69, 3) := by decide +kernel
theorem dX4_readParts_90 : decode cX4_readParts 90 = .ok (.aload_n 0, 1) := by decide +kernel
theorem dX4_readParts_91 : decode cX4_readParts 91 = .ok (.iload_n 1, 1) := by decide +kernel
theorem dX4_readParts_92 : decode cX4_readParts 92 = .ok (.iconst 1, 1) := by decide +kernel
theorem dX4_readParts_93 : decode cX4_readParts 93 = .ok (.iadd, 1) := by decide +kernel
theorem dX4_readParts_94 : decode cX4_readParts 94 = .ok (.iload_n 2, 1) := by decide +kernel
theorem dX4_readParts_95 : decode cX4_readParts 95 = .ok (.invokevirtual 38, 3) := by decide +kernel
theorem dX4_readParts_98 : decode cX4_readParts 98 = .ok (.ifCond .ne 5, 3) := by decide +kernel
theorem dX4_readParts_101 : decode cX4_readParts 101 = .ok (.iconst 0, 1) := by decide +kernel
theorem dX4_readParts_102 : decode cX4_readParts 102 = .ok (.ireturn, 1) := by decide +kernel
theorem dX4_readParts_103 : decode cX4_readParts 103 = .ok (.aload_n 0, 1) := by decide +kernel
theorem dX4_readParts_104 : decode cX4_readParts 104 = .ok (.bipush 41, 2) := by decide +kernel
theorem dX4_readParts_106 : decode cX4_readParts 106 = .ok (.invokevirtual 69, 3) := by decide +kernel
theorem dX4_readParts_109 : decode cX4_readParts 109 = .ok (.aload_n 0, 1) := by decide +kernel
theorem dX4_readParts_110 : decode cX4_readParts 110 = .ok (.iload 6, 2) := by decide +kernel
theorem dX4_readParts_112 : decode cX4_readParts 112 = .ok (.ineg, 1) := by decide +kernel
theorem dX4_readParts_113 : decode cX4_readParts 113 = .ok (.invokevirtual 73, 3) := by decide +kernel
theorem dX4_readParts_116 : decode cX4_readParts 116 = .ok (.iinc 5 1, 3) := by decide +kernel
theorem dX4_readParts_119 : decode cX4_readParts 119 = .ok (.goto (-74), 3) := by decide +kernel
theorem dX4_readParts_122 : decode cX4_readParts 122 = .ok (.iconst 1, 1) := by decide +kernel
theorem dX4_readParts_123 : decode cX4_readParts 123 = .ok (.ireturn, 1) := by decide +kernel
theorem dX4_readFactor_0 : decode cX4_readFactor 0 = .ok (.aload_n 0, 1) := by decide +kernel
theorem dX4_readFactor_1 : decode cX4_readFactor 1 = .ok (.invokevirtual 57, 3) := by decide +kernel
theorem dX4_readFactor_4 : decode cX4_readFactor 4 = .ok (.istore_n 2, 1) := by decide +kernel
theorem dX4_readFactor_5 : decode cX4_readFactor 5 = .ok (.iload_n 2, 1) := by decide +kernel
theorem dX4_readFactor_6 : decode cX4_readFactor 6 = .ok (.invokestatic 76, 3) := by decide +kernel
theorem dX4_readFactor_9 : decode cX4_readFactor 9 = .ok (.ifCond .eq 9, 3) := by decide +kernel
theorem dX4_readFactor_12 : decode cX4_readFactor 12 = .ok (.aload_n 0, 1) := by decide +kernel
theorem dX4_readFactor_13 : decode cX4_readFactor 13 = .ok (.invokevirtual 80, 3) := by decide +kernel
theorem dX4_readFactor_16 : decode cX4_readFactor 16 = .ok (.iconst 1, 1) := by decide +kernel
theorem dX4_readFactor_17 : decode cX4_readFactor 17 = .ok (.ireturn, 1) := by decide +kernel
theorem dX4_readFactor_18 : decode cX4_readFactor 18 = .ok (.iload_n 2, 1) := by decide +kernel
theorem dX4_readFactor_19 : decode cX4_readFactor 19 = .ok (.bipush 97, 2) := by decide +kernel
theorem dX4_readFactor_21 : decode cX4_readFactor 21 = .ok (.if_icmp .lt 16, 3) := by decide +kernel
theorem dX4_readFactor_24 : decode cX4_readFactor 24 = .ok (.iload_n 2, 1) := by decide +kernel
theorem dX4_readFactor_25 : decode cX4_readFactor 25 = .ok (.bipush 102, 2) := by decide +kernel
theorem dX4_readFactor_27 : decode cX4_readFactor 27 = .ok (.if_icmp .gt 10, 3) := by decide +kernel
theorem dX4_readFactor_30 : decode cX4_readFactor 30 = .ok (.aload_n 0, 1) := by decide +kernel
theorem dX4_readFactor_31 : decode cX4_readFactor 31 = .ok (.iload_n 2, 1) := by decide +kernel
theorem dX4_readFactor_32 : decode cX4_readFactor 32 = .ok (.invokevirtual 83, 3) := by decide +kernel
theorem dX4_readFactor_35 : decode cX4_readFactor 35 = .ok (.iconst 1, 1) := by decide +kernel
theorem dX4_readFactor_36 : decode cX4_readFactor 36 = .ok (.ireturn, 1) := by decide +kernel
theorem dX4_readFactor_37 : decode cX4_readFactor 37 = .ok (.iload_n 2, 1) := by decide +kernel
theorem dX4_readFactor_38 : decode cX4_readFactor 38 = .ok (.bipush 40, 2) := by decide +kernel
theorem dX4_readFactor_40 : decode cX4_readFactor 40 = .ok (.if_icmp .eq 9, 3) := by decide +kernel
theorem dX4_readFactor_43 : decode cX4_readFactor 43 = .ok (.iload_n 2, 1) := by decide +kernel
theorem dX4_readFactor_44 : decode cX4_readFactor 44 = .ok (.bipush 33, 2) := by decide +kernel
theorem dX4_readFactor_46 : decode cX4_readFactor 46 = .ok (.if_icmp .ne 9, 3) := by decide +kernel
theorem dX4_readFactor_49 : decode cX4_readFactor 49 = .ok (.iload_n 1, 1) := by decide +kernel
theorem dX4_readFactor_50 : decode cX4_readFactor 50 = .ok (.bipush 6, 2) := by decide +kernel
theorem dX4_readFactor_52 : decode cX4_readFactor 52 = .ok (.if_icmp .lt 5, 3) := by decide +kernel
theorem dX4_readFactor_55 : decode cX4_readFactor 55 = .ok (.iconst 0, 1) := by decide +kernel
theorem dX4_readFactor_56 : decode cX4_readFactor 56 = .ok (.ireturn, 1) := by decide +kernel
theorem dX4_readFactor_57 : decode cX4_readFactor 57 = .ok (.aload_n 0, 1) := by decide +kernel
theorem dX4_readFactor_58 : decode cX4_readFactor 58 = .ok (.dup, 1) := by decide +kernel
theorem dX4_readFactor_59 : decode cX4_readFactor 59 = .ok (.getfield 19, 3) := by decide +kernel
theorem dX4_readFactor_62 : decode cX4_readFactor 62 = .ok (.iconst 1, 1) := by decide +kernel
theorem dX4_readFactor_63 : decode cX4_readFactor 63 = .ok (.iadd, 1) := by decide +kernel
theorem dX4_readFactor_64 : decode cX4_readFactor 64 = .ok (.putfield 19, 3) := by decide +kernel
theorem dX4_readFactor_67 : decode cX4_readFactor 67 = .ok (.iload_n 2, 1) := by decide +kernel
theorem dX4_readFactor_68 : decode cX4_readFactor 68 = .ok (.bipush 33, 2) := by decide +kernel
theorem dX4_readFactor_70 : decode cX4_readFactor 70 = .ok (.if_icmp .ne 13, 3) := by decide +kernel
theorem dX4_readFactor_73 : decode cX4_readFactor 73 = .ok (.aload_n 0, 1) := by decide +kernel
theorem dX4_readFactor_74 : decode cX4_readFactor 74 = .ok (.iload_n 1, 1) := by decide +kernel
theorem dX4_readFactor_75 : decode cX4_readFactor 75 = .ok (.iconst 1, 1) := by decide +kernel
theorem dX4_readFactor_76 : decode cX4_readFactor 76 = .ok (.iadd, 1) := by decide +kernel
theorem dX4_readFactor_77 : decode cX4_readFactor 77 = .ok (.invokevirtual 86, 3) := by decide +kernel
theorem dX4_readFactor_80 : decode cX4_readFactor 80 = .ok (.goto 10, 3) := by decide +kernel
theorem dX4_readFactor_83 : decode cX4_readFactor 83 = .ok (.aload_n 0, 1) := by decide +kernel
theorem dX4_readFactor_84 : decode cX4_readFactor 84 = .ok (.iload_n 1, 1) := by decide +kernel
theorem dX4_readFactor_85 : decode cX4_readFactor 85 = .ok (.iconst 1, 1) := by decide +kernel
theorem dX4_readFactor_86 : decode cX4_readFactor 86 = .ok (.iadd, 1) := by decide +kernel
theorem dX4_readFactor_87 : decode cX4_readFactor 87 = .ok (.invokevirtual 89, 3) := by decide +kernel
theorem dX4_readFactor_90 : decode cX4_readFactor 90 = .ok (.ireturn, 1) := by decide +kernel
theorem dX4_readNot_0 : decode cX4_readNot 0 = .ok (.aload_n 0, 1) := by decide +kernel
theorem dX4_readNot_1 : decode cX4_readNot 1 = .ok (.bipush 33, 2) := by decide +kernel
theorem dX4_readNot_3 : decode cX4_readNot 3 = .ok (.invokevirtual 69, 3) := by decide +kernel
theorem dX4_readNot_6 : decode cX4_readNot 6 = .ok (.aload_n 0, 1) := by decide +kernel
theorem dX4_readNot_7 : decode cX4_readNot 7 = .ok (.iload_n 1, 1) := by decide +kernel
theorem dX4_readNot_8 : decode cX4_readNot 8 = .ok (.invokevirtual 53, 3) := by decide +kernel
theorem dX4_readNot_11 : decode cX4_readNot 11 = .ok (.ifCond .ne 5, 3) := by decide +kernel
theorem dX4_readNot_14 : decode cX4_readNot 14 = .ok (.iconst 0, 1) := by decide +kernel
theorem dX4_readNot_15 : decode cX4_readNot 15 = .ok (.ireturn, 1) := by decide +kernel
theorem dX4_readNot_16 : decode cX4_readNot 16 = .ok (.aload_n 0, 1) := by decide +kernel
theorem dX4_readNot_17 : decode cX4_readNot 17 = .ok (.bipush (-33), 2) := by decide +kernel
theorem dX4_readNot_19 : decode cX4_readNot 19 = .ok (.invokevirtual 73, 3) := by decide +kernel
theorem dX4_readNot_22 : decode cX4_readNot 22 = .ok (.iconst 1, 1) := by decide +kernel
theorem dX4_readNot_23 : decode cX4_readNot 23 = .ok (.ireturn, 1) := by decide +kernel
theorem dX4_readBracket_0 : decode cX4_readBracket 0 = .ok (.aload_n 0, 1) := by decide +kernel
theorem dX4_readBracket_1 : decode cX4_readBracket 1 = .ok (.iconst 0, 1) := by decide +kernel
theorem dX4_readBracket_2 : decode cX4_readBracket 2 = .ok (.iload_n 1, 1) := by decide +kernel
theorem dX4_readBracket_3 : decode cX4_readBracket 3 = .ok (.invokevirtual 38, 3) := by decide +kernel
theorem dX4_readBracket_6 : decode cX4_readBracket 6 = .ok (.ifCond .eq 12, 3) := by decide +kernel
theorem dX4_readBracket_9 : decode cX4_readBracket 9 = .ok (.aload_n 0, 1) := by decide +kernel
theorem dX4_readBracket_10 : decode cX4_readBracket 10 = .ok (.invokevirtual 57, 3) := by decide +kernel
theorem dX4_readBracket_13 : decode cX4_readBracket 13 = .ok (.bipush 41, 2) := by decide +kernel
theorem dX4_readBracket_15 : decode cX4_readBracket 15 = .ok (.if_icmp .eq 5, 3) := by decide +kernel
theorem dX4_readBracket_18 : decode cX4_readBracket 18 = .ok (.iconst 0, 1) := by decide +kernel
theorem dX4_readBracket_19 : decode cX4_readBracket 19 = .ok (.ireturn, 1) := by decide +kernel
theorem dX4_readBracket_20 : decode cX4_readBracket 20 = .ok (.aload_n 0, 1) := by decide +kernel
theorem dX4_readBracket_21 : decode cX4_readBracket 21 = .ok (.dup, 1) := by decide +kernel
theorem dX4_readBracket_22 : decode cX4_readBracket 22 = .ok (.getfield 19, 3) := by decide +kernel
theorem dX4_readBracket_25 : decode cX4_readBracket 25 = .ok (.iconst 1, 1) := by decide +kernel
theorem dX4_readBracket_26 : decode cX4_readBracket 26 = .ok (.iadd, 1) := by decide +kernel
theorem dX4_readBracket_27 : decode cX4_readBracket 27 = .ok (.putfield 19, 3) := by decide +kernel
theorem dX4_readBracket_30 : decode cX4_readBracket 30 = .ok (.iconst 1, 1) := by decide +kernel
theorem dX4_readBracket_31 : decode cX4_readBracket 31 = .ok (.ireturn, 1) := by decide +kernel
theorem dX4_readNumber_0 : decode cX4_readNumber 0 = .ok (.iconst 0, 1) := by decide +kernel
theorem dX4_readNumber_1 : decode cX4_readNumber 1 = .ok (.istore_n 1, 1) := by decide +kernel
theorem dX4_readNumber_2 : decode cX4_readNumber 2 = .ok (.iconst 0, 1) := by decide +kernel
theorem dX4_readNumber_3 : decode cX4_readNumber 3 = .ok (.istore_n 2, 1) := by decide +kernel
theorem dX4_readNumber_4 : decode cX4_readNumber 4 = .ok (.iload_n 2, 1) := by decide +kernel
theorem dX4_readNumber_5 : decode cX4_readNumber 5 = .ok (.iconst 3, 1) := by decide +kernel
theorem dX4_readNumber_6 : decode cX4_readNumber 6 = .ok (.if_icmp .ge 58, 3) := by decide +kernel
theorem dX4_readNumber_9 : decode cX4_readNumber 9 = .ok (.aload_n 0, 1) := by decide +kernel
theorem dX4_readNumber_10 : decode cX4_readNumber 10 = .ok (.invokevirtual 57, 3) := by decide +kernel
theorem dX4_readNumber_13 : decode cX4_readNumber 13 = .ok (.invokestatic 76, 3) := by decide +kernel
theorem dX4_readNumber_16 : decode cX4_readNumber 16 = .ok (.ifCond .eq 48, 3) := by decide +kernel
theorem dX4_readNumber_19 : decode cX4_readNumber 19 = .ok (.iload_n 2, 1) := by decide +kernel
theorem dX4_readNumber_20 : decode cX4_readNumber 20 = .ok (.ifCond .eq 7, 3) := by decide +kernel
theorem dX4_readNumber_23 : decode cX4_readNumber 23 = .ok (.iload_n 1, 1) := by decide +kernel
theorem dX4_readNumber_24 : decode cX4_readNumber 24 = .ok (.ifCond .le 40, 3) := by decide +kernel
theorem dX4_readNumber_27 : decode cX4_readNumber 27 = .ok (.iload_n 1, 1) := by decide +kernel
theorem dX4_readNumber_28 : decode cX4_readNumber 28 = .ok (.bipush 10, 2) := by decide +kernel
theorem dX4_readNumber_30 : decode cX4_readNumber 30 = .ok (.imul, 1) := by decide +kernel
theorem dX4_readNumber_31 : decode cX4_readNumber 31 = .ok (.aload_n 0, 1) := by decide +kernel
theorem dX4_readNumber_32 : decode cX4_readNumber 32 = .ok (.invokevirtual 57, 3) := by decide +kernel
theorem dX4_readNumber_35 : decode cX4_readNumber 35 = .ok (.bipush 48, 2) := by decide +kernel
theorem dX4_readNumber_37 : decode cX4_readNumber 37 = .ok (.isub, 1) := by decide +kernel
theorem dX4_readNumber_38 : decode cX4_readNumber 38 = .ok (.iadd, 1) := by decide +kernel
theorem dX4_readNumber_39 : decode cX4_readNumber 39 = .ok (.istore_n 1, 1) := by decide +kernel
theorem dX4_readNumber_40 : decode cX4_readNumber 40 = .ok (.aload_n 0, 1) := by decide +kernel
theorem dX4_readNumber_41 : decode cX4_readNumber 41 = .ok (.aload_n 0, 1) := by decide +kernel
theorem dX4_readNumber_42 : decode cX4_readNumber 42 = .ok (.invokevirtual 57, 3) := by decide +kernel
theorem dX4_readNumber_45 : decode cX4_readNumber 45 = .ok (.invokevirtual 69, 3) := by decide +kernel
theorem dX4_readNumber_48 : decode cX4_readNumber 48 = .ok (.aload_n 0, 1) := by decide +kernel
theorem dX4_readNumber_49 : decode cX4_readNumber 49 = .ok (.dup, 1) := by decide +kernel
theorem dX4_readNumber_50 : decode cX4_readNumber 50 = .ok (.getfield 19, 3) := by decide +kernel
theorem dX4_readNumber_53 : decode cX4_readNumber 53 = .ok (.iconst 1, 1) := by decide +kernel
theorem dX4_readNumber_54 : decode cX4_readNumber 54 = .ok (.iadd, 1) := by decide +kernel
theorem dX4_readNumber_55 : decode cX4_readNumber 55 = .ok (.putfield 19, 3) := by decide +kernel
theorem dX4_readNumber_58 : decode cX4_readNumber 58 = .ok (.iinc 2 1, 3) := by decide +kernel
theorem dX4_readNumber_61 : decode cX4_readNumber 61 = .ok (.goto (-57), 3) := by decide +kernel
theorem dX4_readNumber_64 : decode cX4_readNumber 64 = .ok (.aload_n 0, 1) := by decide +kernel
theorem dX4_readNumber_65 : decode cX4_readNumber 65 = .ok (.iload_n 1, 1) := by decide +kernel
theorem dX4_readNumber_66 : decode cX4_readNumber 66 = .ok (.invokevirtual 73, 3) := by decide +kernel
theorem dX4_readNumber_69 : decode cX4_readNumber 69 = .ok (.return_, 1) := by decide +kernel
theorem dX4_readLetter_0 : decode cX4_readLetter 0 = .ok (.iload_n 1, 1) := by decide +kernel
theorem dX4_readLetter_1 : decode cX4_readLetter 1 = .ok (.bipush 97, 2) := by decide +kernel
theorem dX4_readLetter_3 : decode cX4_readLetter 3 = .ok (.isub, 1) := by decide +kernel
theorem dX4_readLetter_4 : decode cX4_readLetter 4 = .ok (.istore_n 2, 1) := by decide +kernel
theorem dX4_readLetter_5 : decode cX4_readLetter 5 = .ok (.aload_n 0, 1) := by decide +kernel
theorem dX4_readLetter_6 : decode cX4_readLetter 6 = .ok (.dup, 1) := by decide +kernel
theorem dX4_readLetter_7 : decode cX4_readLetter 7 = .ok (.getfield 35, 3) := by decide +kernel
theorem dX4_readLetter_10 : decode cX4_readLetter 10 = .ok (.iconst 1, 1) := by decide +kernel
theorem dX4_readLetter_11 : decode cX4_readLetter 11 = .ok (.iload_n 2, 1) := by decide +kernel
theorem dX4_readLetter_12 : decode cX4_readLetter 12 = .ok (.ishl, 1) := by decide +kernel
theorem dX4_readLetter_13 : decode cX4_readLetter 13 = .ok (.ior, 1) := by decide +kernel
theorem dX4_readLetter_14 : decode cX4_readLetter 14 = .ok (.putfield 35, 3) := by decide +kernel
theorem dX4_readLetter_17 : decode cX4_readLetter 17 = .ok (.aload_n 0, 1) := by decide +kernel
theorem dX4_readLetter_18 : decode cX4_readLetter 18 = .ok (.iload_n 1, 1) := by decide +kernel
theorem dX4_readLetter_19 : decode cX4_readLetter 19 = .ok (.invokevirtual 69, 3) := by decide +kernel
theorem dX4_readLetter_22 : decode cX4_readLetter 22 = .ok (.aload_n 0, 1) := by decide +kernel
theorem dX4_readLetter_23 : decode cX4_readLetter 23 = .ok (.sipush 1000, 3) := by decide +kernel
theorem dX4_readLetter_26 : decode cX4_readLetter 26 = .ok (.iload_n 2, 1) := by decide +kernel
theorem dX4_readLetter_27 : decode cX4_readLetter 27 = .ok (.iadd, 1) := by decide +kernel
theorem dX4_readLetter_28 : decode cX4_readLetter 28 = .ok (.invokevirtual 73, 3) := by decide +kernel
theorem dX4_readLetter_31 : decode cX4_readLetter 31 = .ok (.aload_n 0, 1) := by decide +kernel
theorem dX4_readLetter_32 : decode cX4_readLetter 32 = .ok (.dup, 1) := by decide +kernel
theorem dX4_readLetter_33 : decode cX4_readLetter 33 = .ok (.getfield 19, 3) := by decide +kernel
theorem dX4_readLetter_36 : decode cX4_readLetter 36 = .ok (.iconst 1, 1) := by decide +kernel
theorem dX4_readLetter_37 : decode cX4_readLetter 37 = .ok (.iadd, 1) := by decide +kernel
theorem dX4_readLetter_38 : decode cX4_readLetter 38 = .ok (.putfield 19, 3) := by decide +kernel
theorem dX4_readLetter_41 : decode cX4_readLetter 41 = .ok (.return_, 1) := by decide +kernel
theorem dX4_next_0 : decode cX4_next 0 = .ok (.aload_n 0, 1) := by decide +kernel
theorem dX4_next_1 : decode cX4_next 1 = .ok (.getfield 19, 3) := by decide +kernel
theorem dX4_next_4 : decode cX4_next 4 = .ok (.ifCond .lt 38, 3) := by decide +kernel
theorem dX4_next_7 : decode cX4_next 7 = .ok (.aload_n 0, 1) := by decide +kernel
theorem dX4_next_8 : decode cX4_next 8 = .ok (.getfield 19, 3) := by decide +kernel
theorem dX4_next_11 : decode cX4_next 11 = .ok (.aload_n 0, 1) := by decide +kernel
theorem dX4_next_12 : decode cX4_next 12 = .ok (.getfield 15, 3) := by decide +kernel
theorem dX4_next_15 : decode cX4_next 15 = .ok (.if_icmp .ge 27, 3) := by decide +kernel
theorem dX4_next_18 : decode cX4_next 18 = .ok (.aload_n 0, 1) := by decide +kernel
theorem dX4_next_19 : decode cX4_next 19 = .ok (.getfield 19, 3) := by decide +kernel
theorem dX4_next_22 : decode cX4_next 22 = .ok (.aload_n 0, 1) := by decide +kernel
theorem dX4_next_23 : decode cX4_next 23 = .ok (.getfield 9, 3) := by decide +kernel
theorem dX4_next_26 : decode cX4_next 26 = .ok (.arraylength, 1) := by decide +kernel
theorem dX4_next_27 : decode cX4_next 27 = .ok (.if_icmp .ge 15, 3) := by decide +kernel
theorem dX4_next_30 : decode cX4_next 30 = .ok (.aload_n 0, 1) := by decide +kernel
theorem dX4_next_31 : decode cX4_next 31 = .ok (.getfield 9, 3) := by decide +kernel
theorem dX4_next_34 : decode cX4_next 34 = .ok (.aload_n 0, 1) := by decide +kernel
theorem dX4_next_35 : decode cX4_next 35 = .ok (.getfield 19, 3) := by decide +kernel
theorem dX4_next_38 : decode cX4_next 38 = .ok (.caload, 1) := by decide +kernel
theorem dX4_next_39 : decode cX4_next 39 = .ok (.goto 4, 3) := by decide +kernel
theorem dX4_next_42 : decode cX4_next 42 = .ok (.iconst 0, 1) := by decide +kernel
theorem dX4_next_43 : decode cX4_next 43 = .ok (.ireturn, 1) := by decide +kernel
theorem dX4_isDigit_0 : decode cX4_isDigit 0 = .ok (.iload_n 0, 1) := by decide +kernel
theorem dX4_isDigit_1 : decode cX4_isDigit 1 = .ok (.bipush 48, 2) := by decide +kernel
theorem dX4_isDigit_3 : decode cX4_isDigit 3 = .ok (.if_icmp .lt 13, 3) := by decide +kernel
theorem dX4_isDigit_6 : decode cX4_isDigit 6 = .ok (.iload_n 0, 1) := by decide +kernel
theorem dX4_isDigit_7 : decode cX4_isDigit 7 = .ok (.bipush 57, 2) := by decide +kernel
theorem dX4_isDigit_9 : decode cX4_isDigit 9 = .ok (.if_icmp .gt 7, 3) := by decide +kernel
theorem dX4_isDigit_12 : decode cX4_isDigit 12 = .ok (.iconst 1, 1) := by decide +kernel
theorem dX4_isDigit_13 : decode cX4_isDigit 13 = .ok (.goto 4, 3) := by decide +kernel
theorem dX4_isDigit_16 : decode cX4_isDigit 16 = .ok (.iconst 0, 1) := by decide +kernel
theorem dX4_isDigit_17 : decode cX4_isDigit 17 = .ok (.ireturn, 1) := by decide +kernel
theorem dX4_levelOf_0 : decode cX4_levelOf 0 = .ok (.iload_n 0, 1) := by decide +kernel
theorem dX4_levelOf_1 : decode cX4_levelOf 1 = .ok (.lookupswitch 85 #[(38, 77), (42, 83), (43, 81), (45, 81), (60, 79), (61, 79), (62, 79), (124, 75)], 75) := by decide +kernel
theorem dX4_levelOf_76 : decode cX4_levelOf 76 = .ok (.iconst 0, 1) := by decide +kernel
theorem dX4_levelOf_77 : decode cX4_levelOf 77 = .ok (.ireturn, 1) := by decide +kernel
theorem dX4_levelOf_78 : decode cX4_levelOf 78 = .ok (.iconst 1, 1) := by decide +kernel
theorem dX4_levelOf_79 : decode cX4_levelOf 79 = .ok (.ireturn, 1) := by decide +kernel
theorem dX4_levelOf_80 : decode cX4_levelOf 80 = .ok (.iconst 2, 1) := by decide +kernel
theorem dX4_levelOf_81 : decode cX4_levelOf 81 = .ok (.ireturn, 1) := by decide +kernel
theorem dX4_levelOf_82 : decode cX4_levelOf 82 = .ok (.iconst 3, 1) := by decide +kernel
theorem dX4_levelOf_83 : decode cX4_levelOf 83 = .ok (.ireturn, 1) := by decide +kernel
theorem dX4_levelOf_84 : decode cX4_levelOf 84 = .ok (.iconst 4, 1) := by decide +kernel
theorem dX4_levelOf_85 : decode cX4_levelOf 85 = .ok (.ireturn, 1) := by decide +kernel
theorem dX4_levelOf_86 : decode cX4_levelOf 86 = .ok (.iconst (-1), 1) := by decide +kernel
theorem dX4_levelOf_87 : decode cX4_levelOf 87 = .ok (.ireturn, 1) := by decide +kernel
theorem dX4_addStep_0 : decode cX4_addStep 0 = .ok (.aload_n 0, 1) := by decide +kernel
theorem dX4_addStep_1 : decode cX4_addStep 1 = .ok (.getfield 26, 3) := by decide +kernel
theorem dX4_addStep_4 : decode cX4_addStep 4 = .ok (.aload_n 0, 1) := by decide +kernel
theorem dX4_addStep_5 : decode cX4_addStep 5 = .ok (.getfield 22, 3) := by decide +kernel
theorem dX4_addStep_8 : decode cX4_addStep 8 = .ok (.arraylength, 1) := by decide +kernel
theorem dX4_addStep_9 : decode cX4_addStep 9 = .ok (.if_icmp .ge 23, 3) := by decide +kernel
theorem dX4_addStep_12 : decode cX4_addStep 12 = .ok (.aload_n 0, 1) := by decide +kernel
theorem dX4_addStep_13 : decode cX4_addStep 13 = .ok (.getfield 22, 3) := by decide +kernel
theorem dX4_addStep_16 : decode cX4_addStep 16 = .ok (.aload_n 0, 1) := by decide +kernel
theorem dX4_addStep_17 : decode cX4_addStep 17 = .ok (.getfield 26, 3) := by decide +kernel
theorem dX4_addStep_20 : decode cX4_addStep 20 = .ok (.iload_n 1, 1) := by decide +kernel
theorem dX4_addStep_21 : decode cX4_addStep 21 = .ok (.iastore, 1) := by decide +kernel
theorem dX4_addStep_22 : decode cX4_addStep 22 = .ok (.aload_n 0, 1) := by decide +kernel
theorem dX4_addStep_23 : decode cX4_addStep 23 = .ok (.dup, 1) := by decide +kernel
theorem dX4_addStep_24 : decode cX4_addStep 24 = .ok (.getfield 26, 3) := by decide +kernel
theorem dX4_addStep_27 : decode cX4_addStep 27 = .ok (.iconst 1, 1) := by decide +kernel
theorem dX4_addStep_28 : decode cX4_addStep 28 = .ok (.iadd, 1) := by decide +kernel
theorem dX4_addStep_29 : decode cX4_addStep 29 = .ok (.putfield 26, 3) := by decide +kernel
theorem dX4_addStep_32 : decode cX4_addStep 32 = .ok (.return_, 1) := by decide +kernel
theorem dX4_writePlain_0 : decode cX4_writePlain 0 = .ok (.aload_n 0, 1) := by decide +kernel
theorem dX4_writePlain_1 : decode cX4_writePlain 1 = .ok (.getfield 32, 3) := by decide +kernel
theorem dX4_writePlain_4 : decode cX4_writePlain 4 = .ok (.aload_n 0, 1) := by decide +kernel
theorem dX4_writePlain_5 : decode cX4_writePlain 5 = .ok (.getfield 29, 3) := by decide +kernel
theorem dX4_writePlain_8 : decode cX4_writePlain 8 = .ok (.arraylength, 1) := by decide +kernel
theorem dX4_writePlain_9 : decode cX4_writePlain 9 = .ok (.if_icmp .ge 23, 3) := by decide +kernel
theorem dX4_writePlain_12 : decode cX4_writePlain 12 = .ok (.aload_n 0, 1) := by decide +kernel
theorem dX4_writePlain_13 : decode cX4_writePlain 13 = .ok (.getfield 29, 3) := by decide +kernel
theorem dX4_writePlain_16 : decode cX4_writePlain 16 = .ok (.aload_n 0, 1) := by decide +kernel
theorem dX4_writePlain_17 : decode cX4_writePlain 17 = .ok (.getfield 32, 3) := by decide +kernel
theorem dX4_writePlain_20 : decode cX4_writePlain 20 = .ok (.iload_n 1, 1) := by decide +kernel
theorem dX4_writePlain_21 : decode cX4_writePlain 21 = .ok (.iastore, 1) := by decide +kernel
theorem dX4_writePlain_22 : decode cX4_writePlain 22 = .ok (.aload_n 0, 1) := by decide +kernel
theorem dX4_writePlain_23 : decode cX4_writePlain 23 = .ok (.dup, 1) := by decide +kernel
theorem dX4_writePlain_24 : decode cX4_writePlain 24 = .ok (.getfield 32, 3) := by decide +kernel
theorem dX4_writePlain_27 : decode cX4_writePlain 27 = .ok (.iconst 1, 1) := by decide +kernel
theorem dX4_writePlain_28 : decode cX4_writePlain 28 = .ok (.iadd, 1) := by decide +kernel
theorem dX4_writePlain_29 : decode cX4_writePlain 29 = .ok (.putfield 32, 3) := by decide +kernel
theorem dX4_writePlain_32 : decode cX4_writePlain 32 = .ok (.return_, 1) := by decide +kernel
theorem dX4_openPlain_0 : decode cX4_openPlain 0 = .ok (.iload_n 1, 1) := by decide +kernel
theorem dX4_openPlain_1 : decode cX4_openPlain 1 = .ok (.ifCond .lt 15, 3) := by decide +kernel
theorem dX4_openPlain_4 : decode cX4_openPlain 4 = .ok (.aload_n 0, 1) := by decide +kernel
theorem dX4_openPlain_5 : decode cX4_openPlain 5 = .ok (.getfield 32, 3) := by decide +kernel
theorem dX4_openPlain_8 : decode cX4_openPlain 8 = .ok (.aload_n 0, 1) := by decide +kernel
theorem dX4_openPlain_9 : decode cX4_openPlain 9 = .ok (.getfield 29, 3) := by decide +kernel
theorem dX4_openPlain_12 : decode cX4_openPlain 12 = .ok (.arraylength, 1) := by decide +kernel
theorem dX4_openPlain_13 : decode cX4_openPlain 13 = .ok (.if_icmp .lt 4, 3) := by decide +kernel
theorem dX4_openPlain_16 : decode cX4_openPlain 16 = .ok (.return_, 1) := by decide +kernel
theorem dX4_openPlain_17 : decode cX4_openPlain 17 = .ok (.aload_n 0, 1) := by decide +kernel
theorem dX4_openPlain_18 : decode cX4_openPlain 18 = .ok (.getfield 32, 3) := by decide +kernel
theorem dX4_openPlain_21 : decode cX4_openPlain 21 = .ok (.istore_n 2, 1) := by decide +kernel
theorem dX4_openPlain_22 : decode cX4_openPlain 22 = .ok (.iload_n 2, 1) := by decide +kernel
theorem dX4_openPlain_23 : decode cX4_openPlain 23 = .ok (.iload_n 1, 1) := by decide +kernel
theorem dX4_openPlain_24 : decode cX4_openPlain 24 = .ok (.if_icmp .le 23, 3) := by decide +kernel
theorem dX4_openPlain_27 : decode cX4_openPlain 27 = .ok (.aload_n 0, 1) := by decide +kernel
theorem dX4_openPlain_28 : decode cX4_openPlain 28 = .ok (.getfield 29, 3) := by decide +kernel
theorem dX4_openPlain_31 : decode cX4_openPlain 31 = .ok (.iload_n 2, 1) := by decide +kernel
theorem dX4_openPlain_32 : decode cX4_openPlain 32 = .ok (.aload_n 0, 1) := by decide +kernel
theorem dX4_openPlain_33 : decode cX4_openPlain 33 = .ok (.getfield 29, 3) := by decide +kernel
theorem dX4_openPlain_36 : decode cX4_openPlain 36 = .ok (.iload_n 2, 1) := by decide +kernel
theorem dX4_openPlain_37 : decode cX4_openPlain 37 = .ok (.iconst 1, 1) := by decide +kernel
theorem dX4_openPlain_38 : decode cX4_openPlain 38 = .ok (.isub, 1) := by decide +kernel
theorem dX4_openPlain_39 : decode cX4_openPlain 39 = .ok (.iaload, 1) := by decide +kernel
theorem dX4_openPlain_40 : decode cX4_openPlain 40 = .ok (.iastore, 1) := by decide +kernel
theorem dX4_openPlain_41 : decode cX4_openPlain 41 = .ok (.iinc 2 (-1), 3) := by decide +kernel
theorem dX4_openPlain_44 : decode cX4_openPlain 44 = .ok (.goto (-22), 3) := by decide +kernel
theorem dX4_openPlain_47 : decode cX4_openPlain 47 = .ok (.aload_n 0, 1) := by decide +kernel
theorem dX4_openPlain_48 : decode cX4_openPlain 48 = .ok (.getfield 29, 3) := by decide +kernel
theorem dX4_openPlain_51 : decode cX4_openPlain 51 = .ok (.iload_n 1, 1) := by decide +kernel
theorem dX4_openPlain_52 : decode cX4_openPlain 52 = .ok (.bipush 40, 2) := by decide +kernel
theorem dX4_openPlain_54 : decode cX4_openPlain 54 = .ok (.iastore, 1) := by decide +kernel
theorem dX4_openPlain_55 : decode cX4_openPlain 55 = .ok (.aload_n 0, 1) := by decide +kernel
theorem dX4_openPlain_56 : decode cX4_openPlain 56 = .ok (.dup, 1) := by decide +kernel
theorem dX4_openPlain_57 : decode cX4_openPlain 57 = .ok (.getfield 32, 3) := by decide +kernel
theorem dX4_openPlain_60 : decode cX4_openPlain 60 = .ok (.iconst 1, 1) := by decide +kernel
theorem dX4_openPlain_61 : decode cX4_openPlain 61 = .ok (.iadd, 1) := by decide +kernel
theorem dX4_openPlain_62 : decode cX4_openPlain 62 = .ok (.putfield 32, 3) := by decide +kernel
theorem dX4_openPlain_65 : decode cX4_openPlain 65 = .ok (.return_, 1) := by decide +kernel
theorem dX5_init_0 : decode cX5_init 0 = .ok (.aload_n 0, 1) := by decide +kernel
theorem dX5_init_1 : decode cX5_init 1 = .ok (.invokespecial 3, 3) := by decide +kernel
theorem dX5_init_4 : decode cX5_init 4 = .ok (.aload_n 0, 1) := by decide +kernel
theorem dX5_init_5 : decode cX5_init 5 = .ok (.aload_n 1, 1) := by decide +kernel
theorem dX5_init_6 : decode cX5_init 6 = .ok (.putfield 9, 3) := by decide +kernel
theorem dX5_init_9 : decode cX5_init 9 = .ok (.return_, 1) := by decide +kernel
theorem dX5_copied_0 : decode cX5_copied 0 = .ok (.new 10, 3) := by decide +kernel
theorem dX5_copied_3 : decode cX5_copied 3 = .ok (.dup, 1) := by decide +kernel
theorem dX5_copied_4 : decode cX5_copied 4 = .ok (.aload_n 0, 1) := by decide +kernel
theorem dX5_copied_5 : decode cX5_copied 5 = .ok (.getfield 9, 3) := by decide +kernel
theorem dX5_copied_8 : decode cX5_copied 8 = .ok (.invokevirtual 15, 3) := by decide +kernel
theorem dX5_copied_11 : decode cX5_copied 11 = .ok (.checkcast 16, 3) := by decide +kernel
theorem dX5_copied_14 : decode cX5_copied 14 = .ok (.invokespecial 20, 3) := by decide +kernel
theorem dX5_copied_17 : decode cX5_copied 17 = .ok (.areturn, 1) := by decide +kernel
theorem dX5_at_0 : decode cX5_at 0 = .ok (.iload_n 1, 1) := by decide +kernel
theorem dX5_at_1 : decode cX5_at 1 = .ok (.ifCond .lt 21, 3) := by decide +kernel
theorem dX5_at_4 : decode cX5_at 4 = .ok (.iload_n 1, 1) := by decide +kernel
theorem dX5_at_5 : decode cX5_at 5 = .ok (.aload_n 0, 1) := by decide +kernel
theorem dX5_at_6 : decode cX5_at 6 = .ok (.getfield 9, 3) := by decide +kernel
theorem dX5_at_9 : decode cX5_at 9 = .ok (.arraylength, 1) := by decide +kernel
theorem dX5_at_10 : decode cX5_at 10 = .ok (.if_icmp .ge 12, 3) := by decide +kernel
theorem dX5_at_13 : decode cX5_at 13 = .ok (.aload_n 0, 1) := by decide +kernel
theorem dX5_at_14 : decode cX5_at 14 = .ok (.getfield 9, 3) := by decide +kernel
theorem dX5_at_17 : decode cX5_at 17 = .ok (.iload_n 1, 1) := by decide +kernel
theorem dX5_at_18 : decode cX5_at 18 = .ok (.iaload, 1) := by decide +kernel
theorem dX5_at_19 : decode cX5_at 19 = .ok (.goto 4, 3) := by decide +kernel
theorem dX5_at_22 : decode cX5_at 22 = .ok (.iconst 0, 1) := by decide +kernel
theorem dX5_at_23 : decode cX5_at 23 = .ok (.ireturn, 1) := by decide +kernel
theorem dX5_give_0 : decode cX5_give 0 = .ok (.iload_n 1, 1) := by decide +kernel
theorem dX5_give_1 : decode cX5_give 1 = .ok (.ifCond .lt 19, 3) := by decide +kernel
theorem dX5_give_4 : decode cX5_give 4 = .ok (.iload_n 1, 1) := by decide +kernel
theorem dX5_give_5 : decode cX5_give 5 = .ok (.aload_n 0, 1) := by decide +kernel
theorem dX5_give_6 : decode cX5_give 6 = .ok (.getfield 9, 3) := by decide +kernel
theorem dX5_give_9 : decode cX5_give 9 = .ok (.arraylength, 1) := by decide +kernel
theorem dX5_give_10 : decode cX5_give 10 = .ok (.if_icmp .ge 10, 3) := by decide +kernel
theorem dX5_give_13 : decode cX5_give 13 = .ok (.aload_n 0, 1) := by decide +kernel
theorem dX5_give_14 : decode cX5_give 14 = .ok (.getfield 9, 3) := by decide +kernel
theorem dX5_give_17 : decode cX5_give 17 = .ok (.iload_n 1, 1) := by decide +kernel
theorem dX5_give_18 : decode cX5_give 18 = .ok (.iload_n 2, 1) := by decide +kernel
theorem dX5_give_19 : decode cX5_give 19 = .ok (.iastore, 1) := by decide +kernel
theorem dX5_give_20 : decode cX5_give 20 = .ok (.return_, 1) := by decide +kernel
theorem dX5_ofNumber_0 : decode cX5_ofNumber 0 = .ok (.iconst 1, 1) := by decide +kernel
theorem dX5_ofNumber_1 : decode cX5_ofNumber 1 = .ok (.ireturn, 1) := by decide +kernel
theorem dX5_ofField_0 : decode cX5_ofField 0 = .ok (.aload_n 0, 1) := by decide +kernel
theorem dX5_ofField_1 : decode cX5_ofField 1 = .ok (.iload_n 1, 1) := by decide +kernel
theorem dX5_ofField_2 : decode cX5_ofField 2 = .ok (.invokevirtual 23, 3) := by decide +kernel
theorem dX5_ofField_5 : decode cX5_ofField 5 = .ok (.istore_n 2, 1) := by decide +kernel
theorem dX5_ofField_6 : decode cX5_ofField 6 = .ok (.iload_n 2, 1) := by decide +kernel
theorem dX5_ofField_7 : decode cX5_ofField 7 = .ok (.ifCond .ne 7, 3) := by decide +kernel
theorem dX5_ofField_10 : decode cX5_ofField 10 = .ok (.iconst (-1), 1) := by decide +kernel
theorem dX5_ofField_11 : decode cX5_ofField 11 = .ok (.goto 4, 3) := by decide +kernel
theorem dX5_ofField_14 : decode cX5_ofField 14 = .ok (.iload_n 2, 1) := by decide +kernel
theorem dX5_ofField_15 : decode cX5_ofField 15 = .ok (.ireturn, 1) := by decide +kernel
theorem dX5_ofNot_0 : decode cX5_ofNot 0 = .ok (.iload_n 1, 1) := by decide +kernel
theorem dX5_ofNot_1 : decode cX5_ofNot 1 = .ok (.iconst 2, 1) := by decide +kernel
theorem dX5_ofNot_2 : decode cX5_ofNot 2 = .ok (.if_icmp .ne 7, 3) := by decide +kernel
theorem dX5_ofNot_5 : decode cX5_ofNot 5 = .ok (.iconst 2, 1) := by decide +kernel
theorem dX5_ofNot_6 : decode cX5_ofNot 6 = .ok (.goto 4, 3) := by decide +kernel
theorem dX5_ofNot_9 : decode cX5_ofNot 9 = .ok (.iconst (-1), 1) := by decide +kernel
theorem dX5_ofNot_10 : decode cX5_ofNot 10 = .ok (.ireturn, 1) := by decide +kernel
theorem dX5_ofSign_0 : decode cX5_ofSign 0 = .ok (.iload_n 1, 1) := by decide +kernel
theorem dX5_ofSign_1 : decode cX5_ofSign 1 = .ok (.lookupswitch 105 #[(42, 59), (43, 59), (45, 59), (60, 75), (61, 91), (62, 75)], 59) := by decide +kernel
theorem dX5_ofSign_60 : decode cX5_ofSign 60 = .ok (.iload_n 2, 1) := by decide +kernel
theorem dX5_ofSign_61 : decode cX5_ofSign 61 = .ok (.iconst 1, 1) := by decide +kernel
theorem dX5_ofSign_62 : decode cX5_ofSign 62 = .ok (.if_icmp .ne 12, 3) := by decide +kernel
theorem dX5_ofSign_65 : decode cX5_ofSign 65 = .ok (.iload_n 3, 1) := by decide +kernel
theorem dX5_ofSign_66 : decode cX5_ofSign 66 = .ok (.iconst 1, 1) := by decide +kernel
theorem dX5_ofSign_67 : decode cX5_ofSign 67 = .ok (.if_icmp .ne 7, 3) := by decide +kernel
theorem dX5_ofSign_70 : decode cX5_ofSign 70 = .ok (.iconst 1, 1) := by decide +kernel
theorem dX5_ofSign_71 : decode cX5_ofSign 71 = .ok (.goto 4, 3) := by decide +kernel
theorem dX5_ofSign_74 : decode cX5_ofSign 74 = .ok (.iconst (-1), 1) := by decide +kernel
theorem dX5_ofSign_75 : decode cX5_ofSign 75 = .ok (.ireturn, 1) := by decide +kernel
theorem dX5_ofSign_76 : decode cX5_ofSign 76 = .ok (.iload_n 2, 1) := by decide +kernel
theorem dX5_ofSign_77 : decode cX5_ofSign 77 = .ok (.iconst 1, 1) := by decide +kernel
theorem dX5_ofSign_78 : decode cX5_ofSign 78 = .ok (.if_icmp .ne 12, 3) := by decide +kernel
theorem dX5_ofSign_81 : decode cX5_ofSign 81 = .ok (.iload_n 3, 1) := by decide +kernel
theorem dX5_ofSign_82 : decode cX5_ofSign 82 = .ok (.iconst 1, 1) := by decide +kernel
theorem dX5_ofSign_83 : decode cX5_ofSign 83 = .ok (.if_icmp .ne 7, 3) := by decide +kernel
theorem dX5_ofSign_86 : decode cX5_ofSign 86 = .ok (.iconst 2, 1) := by decide +kernel
theorem dX5_ofSign_87 : decode cX5_ofSign 87 = .ok (.goto 4, 3) := by decide +kernel
theorem dX5_ofSign_90 : decode cX5_ofSign 90 = .ok (.iconst (-1), 1) := by decide +kernel
theorem dX5_ofSign_91 : decode cX5_ofSign 91 = .ok (.ireturn, 1) := by decide +kernel
theorem dX5_ofSign_92 : decode cX5_ofSign 92 = .ok (.iload_n 2, 1) := by decide +kernel
theorem dX5_ofSign_93 : decode cX5_ofSign 93 = .ok (.iload_n 3, 1) := by decide +kernel
theorem dX5_ofSign_94 : decode cX5_ofSign 94 = .ok (.invokestatic 27, 3) := by decide +kernel
theorem dX5_ofSign_97 : decode cX5_ofSign 97 = .ok (.ifCond .eq 7, 3) := by decide +kernel
theorem dX5_ofSign_100 : decode cX5_ofSign 100 = .ok (.iconst 2, 1) := by decide +kernel
theorem dX5_ofSign_101 : decode cX5_ofSign 101 = .ok (.goto 4, 3) := by decide +kernel
theorem dX5_ofSign_104 : decode cX5_ofSign 104 = .ok (.iconst (-1), 1) := by decide +kernel
theorem dX5_ofSign_105 : decode cX5_ofSign 105 = .ok (.ireturn, 1) := by decide +kernel
theorem dX5_ofSign_106 : decode cX5_ofSign 106 = .ok (.iload_n 2, 1) := by decide +kernel
theorem dX5_ofSign_107 : decode cX5_ofSign 107 = .ok (.iconst 2, 1) := by decide +kernel
theorem dX5_ofSign_108 : decode cX5_ofSign 108 = .ok (.if_icmp .ne 12, 3) := by decide +kernel
theorem dX5_ofSign_111 : decode cX5_ofSign 111 = .ok (.iload_n 3, 1) := by decide +kernel
theorem dX5_ofSign_112 : decode cX5_ofSign 112 = .ok (.iconst 2, 1) := by decide +kernel
theorem dX5_ofSign_113 : decode cX5_ofSign 113 = .ok (.if_icmp .ne 7, 3) := by decide +kernel
theorem dX5_ofSign_116 : decode cX5_ofSign 116 = .ok (.iconst 2, 1) := by decide +kernel
theorem dX5_ofSign_117 : decode cX5_ofSign 117 = .ok (.goto 4, 3) := by decide +kernel
theorem dX5_ofSign_120 : decode cX5_ofSign 120 = .ok (.iconst (-1), 1) := by decide +kernel
theorem dX5_ofSign_121 : decode cX5_ofSign 121 = .ok (.ireturn, 1) := by decide +kernel
theorem dX5_areAlike_0 : decode cX5_areAlike 0 = .ok (.iload_n 0, 1) := by decide +kernel
theorem dX5_areAlike_1 : decode cX5_areAlike 1 = .ok (.iload_n 1, 1) := by decide +kernel
theorem dX5_areAlike_2 : decode cX5_areAlike 2 = .ok (.if_icmp .ne 14, 3) := by decide +kernel
theorem dX5_areAlike_5 : decode cX5_areAlike 5 = .ok (.iload_n 0, 1) := by decide +kernel
theorem dX5_areAlike_6 : decode cX5_areAlike 6 = .ok (.iconst (-1), 1) := by decide +kernel
theorem dX5_areAlike_7 : decode cX5_areAlike 7 = .ok (.if_icmp .eq 7, 3) := by decide +kernel
theorem dX5_areAlike_10 : decode cX5_areAlike 10 = .ok (.iconst 1, 1) := by decide +kernel
theorem dX5_areAlike_11 : decode cX5_areAlike 11 = .ok (.goto 4, 3) := by decide +kernel
theorem dX5_areAlike_14 : decode cX5_areAlike 14 = .ok (.iconst 0, 1) := by decide +kernel
theorem dX5_areAlike_15 : decode cX5_areAlike 15 = .ok (.ireturn, 1) := by decide +kernel
theorem dX5_areAlike_16 : decode cX5_areAlike 16 = .ok (.iload_n 0, 1) := by decide +kernel
theorem dX5_areAlike_17 : decode cX5_areAlike 17 = .ok (.iconst 1, 1) := by decide +kernel
theorem dX5_areAlike_18 : decode cX5_areAlike 18 = .ok (.if_icmp .ne 8, 3) := by decide +kernel
theorem dX5_areAlike_21 : decode cX5_areAlike 21 = .ok (.iload_n 1, 1) := by decide +kernel
theorem dX5_areAlike_22 : decode cX5_areAlike 22 = .ok (.iconst 3, 1) := by decide +kernel
theorem dX5_areAlike_23 : decode cX5_areAlike 23 = .ok (.if_icmp .eq 13, 3) := by decide +kernel
theorem dX5_areAlike_26 : decode cX5_areAlike 26 = .ok (.iload_n 0, 1) := by decide +kernel
theorem dX5_areAlike_27 : decode cX5_areAlike 27 = .ok (.iconst 3, 1) := by decide +kernel
theorem dX5_areAlike_28 : decode cX5_areAlike 28 = .ok (.if_icmp .ne 12, 3) := by decide +kernel
theorem dX5_areAlike_31 : decode cX5_areAlike 31 = .ok (.iload_n 1, 1) := by decide +kernel
theorem dX5_areAlike_32 : decode cX5_areAlike 32 = .ok (.iconst 1, 1) := by decide +kernel
theorem dX5_areAlike_33 : decode cX5_areAlike 33 = .ok (.if_icmp .ne 7, 3) := by decide +kernel
theorem dX5_areAlike_36 : decode cX5_areAlike 36 = .ok (.iconst 1, 1) := by decide +kernel
theorem dX5_areAlike_37 : decode cX5_areAlike 37 = .ok (.goto 4, 3) := by decide +kernel
theorem dX5_areAlike_40 : decode cX5_areAlike 40 = .ok (.iconst 0, 1) := by decide +kernel
theorem dX5_areAlike_41 : decode cX5_areAlike 41 = .ok (.ireturn, 1) := by decide +kernel
theorem dX6_init_0 : decode cX6_init 0 = .ok (.aload_n 0, 1) := by decide +kernel
theorem dX6_init_1 : decode cX6_init 1 = .ok (.invokespecial 3, 3) := by decide +kernel
theorem dX6_init_4 : decode cX6_init 4 = .ok (.aload_n 0, 1) := by decide +kernel
theorem dX6_init_5 : decode cX6_init 5 = .ok (.bipush 6, 2) := by decide +kernel
theorem dX6_init_7 : decode cX6_init 7 = .ok (.newarray .int, 2) := by decide +kernel
theorem dX6_init_9 : decode cX6_init 9 = .ok (.putfield 9, 3) := by decide +kernel
theorem dX6_init_12 : decode cX6_init 12 = .ok (.aload_n 0, 1) := by decide +kernel
theorem dX6_init_13 : decode cX6_init 13 = .ok (.iconst 0, 1) := by decide +kernel
theorem dX6_init_14 : decode cX6_init 14 = .ok (.putfield 15, 3) := by decide +kernel
theorem dX6_init_17 : decode cX6_init 17 = .ok (.return_, 1) := by decide +kernel
theorem dX6_has_0 : decode cX6_has 0 = .ok (.aload_n 0, 1) := by decide +kernel
theorem dX6_has_1 : decode cX6_has 1 = .ok (.getfield 15, 3) := by decide +kernel
theorem dX6_has_4 : decode cX6_has 4 = .ok (.iload_n 1, 1) := by decide +kernel
theorem dX6_has_5 : decode cX6_has 5 = .ok (.invokestatic 19, 3) := by decide +kernel
theorem dX6_has_8 : decode cX6_has 8 = .ok (.ireturn, 1) := by decide +kernel
theorem dX6_at_0 : decode cX6_at 0 = .ok (.iload_n 1, 1) := by decide +kernel
theorem dX6_at_1 : decode cX6_at 1 = .ok (.ifCond .lt 21, 3) := by decide +kernel
theorem dX6_at_4 : decode cX6_at 4 = .ok (.iload_n 1, 1) := by decide +kernel
theorem dX6_at_5 : decode cX6_at 5 = .ok (.aload_n 0, 1) := by decide +kernel
theorem dX6_at_6 : decode cX6_at 6 = .ok (.getfield 9, 3) := by decide +kernel
theorem dX6_at_9 : decode cX6_at 9 = .ok (.arraylength, 1) := by decide +kernel
theorem dX6_at_10 : decode cX6_at 10 = .ok (.if_icmp .ge 12, 3) := by decide +kernel
theorem dX6_at_13 : decode cX6_at 13 = .ok (.aload_n 0, 1) := by decide +kernel
theorem dX6_at_14 : decode cX6_at 14 = .ok (.getfield 9, 3) := by decide +kernel
theorem dX6_at_17 : decode cX6_at 17 = .ok (.iload_n 1, 1) := by decide +kernel
theorem dX6_at_18 : decode cX6_at 18 = .ok (.iaload, 1) := by decide +kernel
theorem dX6_at_19 : decode cX6_at 19 = .ok (.goto 4, 3) := by decide +kernel
theorem dX6_at_22 : decode cX6_at 22 = .ok (.iconst 0, 1) := by decide +kernel
theorem dX6_at_23 : decode cX6_at 23 = .ok (.ireturn, 1) := by decide +kernel
theorem dX6_give_0 : decode cX6_give 0 = .ok (.iload_n 1, 1) := by decide +kernel
theorem dX6_give_1 : decode cX6_give 1 = .ok (.ifCond .lt 31, 3) := by decide +kernel
theorem dX6_give_4 : decode cX6_give 4 = .ok (.iload_n 1, 1) := by decide +kernel
theorem dX6_give_5 : decode cX6_give 5 = .ok (.aload_n 0, 1) := by decide +kernel
theorem dX6_give_6 : decode cX6_give 6 = .ok (.getfield 9, 3) := by decide +kernel
theorem dX6_give_9 : decode cX6_give 9 = .ok (.arraylength, 1) := by decide +kernel
theorem dX6_give_10 : decode cX6_give 10 = .ok (.if_icmp .ge 22, 3) := by decide +kernel
theorem dX6_give_13 : decode cX6_give 13 = .ok (.aload_n 0, 1) := by decide +kernel
theorem dX6_give_14 : decode cX6_give 14 = .ok (.getfield 9, 3) := by decide +kernel
theorem dX6_give_17 : decode cX6_give 17 = .ok (.iload_n 1, 1) := by decide +kernel
theorem dX6_give_18 : decode cX6_give 18 = .ok (.iload_n 2, 1) := by decide +kernel
theorem dX6_give_19 : decode cX6_give 19 = .ok (.iastore, 1) := by decide +kernel
theorem dX6_give_20 : decode cX6_give 20 = .ok (.aload_n 0, 1) := by decide +kernel
theorem dX6_give_21 : decode cX6_give 21 = .ok (.dup, 1) := by decide +kernel
theorem dX6_give_22 : decode cX6_give 22 = .ok (.getfield 15, 3) := by decide +kernel
theorem dX6_give_25 : decode cX6_give 25 = .ok (.iconst 1, 1) := by decide +kernel
theorem dX6_give_26 : decode cX6_give 26 = .ok (.iload_n 1, 1) := by decide +kernel
theorem dX6_give_27 : decode cX6_give 27 = .ok (.ishl, 1) := by decide +kernel
theorem dX6_give_28 : decode cX6_give 28 = .ok (.ior, 1) := by decide +kernel
theorem dX6_give_29 : decode cX6_give 29 = .ok (.putfield 15, 3) := by decide +kernel
theorem dX6_give_32 : decode cX6_give 32 = .ok (.return_, 1) := by decide +kernel
theorem dX6_ofNumber_0 : decode cX6_ofNumber 0 = .ok (.iload_n 1, 1) := by decide +kernel
theorem dX6_ofNumber_1 : decode cX6_ofNumber 1 = .ok (.ireturn, 1) := by decide +kernel
theorem dX6_ofField_0 : decode cX6_ofField 0 = .ok (.aload_n 0, 1) := by decide +kernel
theorem dX6_ofField_1 : decode cX6_ofField 1 = .ok (.iload_n 1, 1) := by decide +kernel
theorem dX6_ofField_2 : decode cX6_ofField 2 = .ok (.invokevirtual 23, 3) := by decide +kernel
theorem dX6_ofField_5 : decode cX6_ofField 5 = .ok (.ireturn, 1) := by decide +kernel
theorem dX6_ofNot_0 : decode cX6_ofNot 0 = .ok (.iload_n 1, 1) := by decide +kernel
theorem dX6_ofNot_1 : decode cX6_ofNot 1 = .ok (.ifCond .ne 7, 3) := by decide +kernel
theorem dX6_ofNot_4 : decode cX6_ofNot 4 = .ok (.iconst 1, 1) := by decide +kernel
theorem dX6_ofNot_5 : decode cX6_ofNot 5 = .ok (.goto 4, 3) := by decide +kernel
theorem dX6_ofNot_8 : decode cX6_ofNot 8 = .ok (.iconst 0, 1) := by decide +kernel
theorem dX6_ofNot_9 : decode cX6_ofNot 9 = .ok (.ireturn, 1) := by decide +kernel
theorem dX6_ofSign_0 : decode cX6_ofSign 0 = .ok (.iload_n 1, 1) := by decide +kernel
theorem dX6_ofSign_1 : decode cX6_ofSign 1 = .ok (.tableswitch 176 38 62 #[172, 176, 176, 176, 131, 115, 176, 123, 176, 176, 176, 176, 176, 176, 176, 176, 176, 176, 176, 176, 176, 176, 139, 161, 150], 115) := by decide +kernel
theorem dX6_ofSign_116 : decode cX6_ofSign 116 = .ok (.iload_n 2, 1) := by decide +kernel
theorem dX6_ofSign_117 : decode cX6_ofSign 117 = .ok (.iload_n 3, 1) := by decide +kernel
theorem dX6_ofSign_118 : decode cX6_ofSign 118 = .ok (.iadd, 1) := by decide +kernel
theorem dX6_ofSign_119 : decode cX6_ofSign 119 = .ok (.sipush 10000, 3) := by decide +kernel
theorem dX6_ofSign_122 : decode cX6_ofSign 122 = .ok (.irem, 1) := by decide +kernel
theorem dX6_ofSign_123 : decode cX6_ofSign 123 = .ok (.ireturn, 1) := by decide +kernel
theorem dX6_ofSign_124 : decode cX6_ofSign 124 = .ok (.iload_n 2, 1) := by decide +kernel
theorem dX6_ofSign_125 : decode cX6_ofSign 125 = .ok (.iload_n 3, 1) := by decide +kernel
theorem dX6_ofSign_126 : decode cX6_ofSign 126 = .ok (.isub, 1) := by decide +kernel
theorem dX6_ofSign_127 : decode cX6_ofSign 127 = .ok (.sipush 10000, 3) := by decide +kernel
theorem dX6_ofSign_130 : decode cX6_ofSign 130 = .ok (.irem, 1) := by decide +kernel
theorem dX6_ofSign_131 : decode cX6_ofSign 131 = .ok (.ireturn, 1) := by decide +kernel
theorem dX6_ofSign_132 : decode cX6_ofSign 132 = .ok (.iload_n 2, 1) := by decide +kernel
theorem dX6_ofSign_133 : decode cX6_ofSign 133 = .ok (.iload_n 3, 1) := by decide +kernel
theorem dX6_ofSign_134 : decode cX6_ofSign 134 = .ok (.imul, 1) := by decide +kernel
theorem dX6_ofSign_135 : decode cX6_ofSign 135 = .ok (.sipush 10000, 3) := by decide +kernel
theorem dX6_ofSign_138 : decode cX6_ofSign 138 = .ok (.irem, 1) := by decide +kernel
theorem dX6_ofSign_139 : decode cX6_ofSign 139 = .ok (.ireturn, 1) := by decide +kernel
theorem dX6_ofSign_140 : decode cX6_ofSign 140 = .ok (.iload_n 2, 1) := by decide +kernel
theorem dX6_ofSign_141 : decode cX6_ofSign 141 = .ok (.iload_n 3, 1) := by decide +kernel
theorem dX6_ofSign_142 : decode cX6_ofSign 142 = .ok (.if_icmp .ge 7, 3) := by decide +kernel
theorem dX6_ofSign_145 : decode cX6_ofSign 145 = .ok (.iconst 1, 1) := by decide +kernel
theorem dX6_ofSign_146 : decode cX6_ofSign 146 = .ok (.goto 4, 3) := by decide +kernel
theorem dX6_ofSign_149 : decode cX6_ofSign 149 = .ok (.iconst 0, 1) := by decide +kernel
theorem dX6_ofSign_150 : decode cX6_ofSign 150 = .ok (.ireturn, 1) := by decide +kernel
theorem dX6_ofSign_151 : decode cX6_ofSign 151 = .ok (.iload_n 2, 1) := by decide +kernel
theorem dX6_ofSign_152 : decode cX6_ofSign 152 = .ok (.iload_n 3, 1) := by decide +kernel
theorem dX6_ofSign_153 : decode cX6_ofSign 153 = .ok (.if_icmp .le 7, 3) := by decide +kernel
theorem dX6_ofSign_156 : decode cX6_ofSign 156 = .ok (.iconst 1, 1) := by decide +kernel
theorem dX6_ofSign_157 : decode cX6_ofSign 157 = .ok (.goto 4, 3) := by decide +kernel
theorem dX6_ofSign_160 : decode cX6_ofSign 160 = .ok (.iconst 0, 1) := by decide +kernel
theorem dX6_ofSign_161 : decode cX6_ofSign 161 = .ok (.ireturn, 1) := by decide +kernel
theorem dX6_ofSign_162 : decode cX6_ofSign 162 = .ok (.iload_n 2, 1) := by decide +kernel
theorem dX6_ofSign_163 : decode cX6_ofSign 163 = .ok (.iload_n 3, 1) := by decide +kernel
theorem dX6_ofSign_164 : decode cX6_ofSign 164 = .ok (.if_icmp .ne 7, 3) := by decide +kernel
theorem dX6_ofSign_167 : decode cX6_ofSign 167 = .ok (.iconst 1, 1) := by decide +kernel
theorem dX6_ofSign_168 : decode cX6_ofSign 168 = .ok (.goto 4, 3) := by decide +kernel
theorem dX6_ofSign_171 : decode cX6_ofSign 171 = .ok (.iconst 0, 1) := by decide +kernel
theorem dX6_ofSign_172 : decode cX6_ofSign 172 = .ok (.ireturn, 1) := by decide +kernel
theorem dX6_ofSign_173 : decode cX6_ofSign 173 = .ok (.iload_n 2, 1) := by decide +kernel
theorem dX6_ofSign_174 : decode cX6_ofSign 174 = .ok (.iload_n 3, 1) := by decide +kernel
theorem dX6_ofSign_175 : decode cX6_ofSign 175 = .ok (.iand, 1) := by decide +kernel
theorem dX6_ofSign_176 : decode cX6_ofSign 176 = .ok (.ireturn, 1) := by decide +kernel
theorem dX6_ofSign_177 : decode cX6_ofSign 177 = .ok (.iload_n 2, 1) := by decide +kernel
theorem dX6_ofSign_178 : decode cX6_ofSign 178 = .ok (.iload_n 3, 1) := by decide +kernel
theorem dX6_ofSign_179 : decode cX6_ofSign 179 = .ok (.ior, 1) := by decide +kernel
theorem dX6_ofSign_180 : decode cX6_ofSign 180 = .ok (.ireturn, 1) := by decide +kernel
theorem dX7_init_0 : decode cX7_init 0 = .ok (.aload_n 0, 1) := by decide +kernel
theorem dX7_init_1 : decode cX7_init 1 = .ok (.invokespecial 1, 3) := by decide +kernel
theorem dX7_init_4 : decode cX7_init 4 = .ok (.aload_n 0, 1) := by decide +kernel
theorem dX7_init_5 : decode cX7_init 5 = .ok (.new 7, 3) := by decide +kernel
theorem dX7_init_8 : decode cX7_init 8 = .ok (.dup, 1) := by decide +kernel
theorem dX7_init_9 : decode cX7_init 9 = .ok (.invokespecial 9, 3) := by decide +kernel
theorem dX7_init_12 : decode cX7_init 12 = .ok (.putfield 10, 3) := by decide +kernel
theorem dX7_init_15 : decode cX7_init 15 = .ok (.aload_n 0, 1) := by decide +kernel
theorem dX7_init_16 : decode cX7_init 16 = .ok (.new 16, 3) := by decide +kernel
theorem dX7_init_19 : decode cX7_init 19 = .ok (.dup, 1) := by decide +kernel
theorem dX7_init_20 : decode cX7_init 20 = .ok (.invokespecial 18, 3) := by decide +kernel
theorem dX7_init_23 : decode cX7_init 23 = .ok (.putfield 19, 3) := by decide +kernel
theorem dX7_init_26 : decode cX7_init 26 = .ok (.aload_n 0, 1) := by decide +kernel
theorem dX7_init_27 : decode cX7_init 27 = .ok (.bipush 10, 2) := by decide +kernel
theorem dX7_init_29 : decode cX7_init 29 = .ok (.anewarray 16, 3) := by decide +kernel
theorem dX7_init_32 : decode cX7_init 32 = .ok (.putfield 23, 3) := by decide +kernel
theorem dX7_init_35 : decode cX7_init 35 = .ok (.aload_n 0, 1) := by decide +kernel
theorem dX7_init_36 : decode cX7_init 36 = .ok (.iconst 0, 1) := by decide +kernel
theorem dX7_init_37 : decode cX7_init 37 = .ok (.putfield 27, 3) := by decide +kernel
theorem dX7_init_40 : decode cX7_init 40 = .ok (.aload_n 0, 1) := by decide +kernel
theorem dX7_init_41 : decode cX7_init 41 = .ok (.bipush 20, 2) := by decide +kernel
theorem dX7_init_43 : decode cX7_init 43 = .ok (.anewarray 31, 3) := by decide +kernel
theorem dX7_init_46 : decode cX7_init 46 = .ok (.putfield 33, 3) := by decide +kernel
theorem dX7_init_49 : decode cX7_init 49 = .ok (.aload_n 0, 1) := by decide +kernel
theorem dX7_init_50 : decode cX7_init 50 = .ok (.iconst 0, 1) := by decide +kernel
theorem dX7_init_51 : decode cX7_init 51 = .ok (.putfield 37, 3) := by decide +kernel
theorem dX7_init_54 : decode cX7_init 54 = .ok (.return_, 1) := by decide +kernel
theorem dX7_type_0 : decode cX7_type 0 = .ok (.aload_n 0, 1) := by decide +kernel
theorem dX7_type_1 : decode cX7_type 1 = .ok (.getfield 10, 3) := by decide +kernel
theorem dX7_type_4 : decode cX7_type 4 = .ok (.invokevirtual 40, 3) := by decide +kernel
theorem dX7_type_7 : decode cX7_type 7 = .ok (.bipush 40, 2) := by decide +kernel
theorem dX7_type_9 : decode cX7_type 9 = .ok (.if_icmp .lt 13, 3) := by decide +kernel
theorem dX7_type_12 : decode cX7_type 12 = .ok (.new 44, 3) := by decide +kernel
theorem dX7_type_15 : decode cX7_type 15 = .ok (.dup, 1) := by decide +kernel
theorem dX7_type_16 : decode cX7_type 16 = .ok (.ldc 46, 2) := by decide +kernel
theorem dX7_type_18 : decode cX7_type 18 = .ok (.invokespecial 48, 3) := by decide +kernel
theorem dX7_type_21 : decode cX7_type 21 = .ok (.athrow, 1) := by decide +kernel
theorem dX7_type_22 : decode cX7_type 22 = .ok (.aload_n 0, 1) := by decide +kernel
theorem dX7_type_23 : decode cX7_type 23 = .ok (.getfield 10, 3) := by decide +kernel
theorem dX7_type_26 : decode cX7_type 26 = .ok (.iload_n 1, 1) := by decide +kernel
theorem dX7_type_27 : decode cX7_type 27 = .ok (.invokevirtual 51, 3) := by decide +kernel
theorem dX7_type_30 : decode cX7_type 30 = .ok (.aload_n 0, 1) := by decide +kernel
theorem dX7_type_31 : decode cX7_type 31 = .ok (.getfield 10, 3) := by decide +kernel
theorem dX7_type_34 : decode cX7_type 34 = .ok (.invokevirtual 40, 3) := by decide +kernel
theorem dX7_type_37 : decode cX7_type 37 = .ok (.ireturn, 1) := by decide +kernel
theorem dX7_clear_0 : decode cX7_clear 0 = .ok (.aload_n 0, 1) := by decide +kernel
theorem dX7_clear_1 : decode cX7_clear 1 = .ok (.getfield 10, 3) := by decide +kernel
theorem dX7_clear_4 : decode cX7_clear 4 = .ok (.invokevirtual 40, 3) := by decide +kernel
theorem dX7_clear_7 : decode cX7_clear 7 = .ok (.istore_n 1, 1) := by decide +kernel
theorem dX7_clear_8 : decode cX7_clear 8 = .ok (.aload_n 0, 1) := by decide +kernel
theorem dX7_clear_9 : decode cX7_clear 9 = .ok (.getfield 10, 3) := by decide +kernel
theorem dX7_clear_12 : decode cX7_clear 12 = .ok (.invokevirtual 55, 3) := by decide +kernel
theorem dX7_clear_15 : decode cX7_clear 15 = .ok (.iload_n 1, 1) := by decide +kernel
theorem dX7_clear_16 : decode cX7_clear 16 = .ok (.ireturn, 1) := by decide +kernel
theorem dX7_error_0 : decode cX7_error 0 = .ok (.aload_n 0, 1) := by decide +kernel
theorem dX7_error_1 : decode cX7_error 1 = .ok (.getfield 10, 3) := by decide +kernel
theorem dX7_error_4 : decode cX7_error 4 = .ok (.invokevirtual 58, 3) := by decide +kernel
theorem dX7_error_7 : decode cX7_error 7 = .ok (.ireturn, 1) := by decide +kernel
theorem dX7_typeOfText_0 : decode cX7_typeOfText 0 = .ok (.aload_n 0, 1) := by decide +kernel
theorem dX7_typeOfText_1 : decode cX7_typeOfText 1 = .ok (.getfield 10, 3) := by decide +kernel
theorem dX7_typeOfText_4 : decode cX7_typeOfText 4 = .ok (.invokevirtual 58, 3) := by decide +kernel
theorem dX7_typeOfText_7 : decode cX7_typeOfText 7 = .ok (.iconst (-1), 1) := by decide +kernel
theorem dX7_typeOfText_8 : decode cX7_typeOfText 8 = .ok (.if_icmp .eq 13, 3) := by decide +kernel
theorem dX7_typeOfText_11 : decode cX7_typeOfText 11 = .ok (.new 44, 3) := by decide +kernel
theorem dX7_typeOfText_14 : decode cX7_typeOfText 14 = .ok (.dup, 1) := by decide +kernel
theorem dX7_typeOfText_15 : decode cX7_typeOfText 15 = .ok (.ldc 61, 2) := by decide +kernel
theorem dX7_typeOfText_17 : decode cX7_typeOfText 17 = .ok (.invokespecial 48, 3) := by decide +kernel
theorem dX7_typeOfText_20 : decode cX7_typeOfText 20 = .ok (.athrow, 1) := by decide +kernel
theorem dX7_typeOfText_21 : decode cX7_typeOfText 21 = .ok (.aload_n 0, 1) := by decide +kernel
theorem dX7_typeOfText_22 : decode cX7_typeOfText 22 = .ok (.getfield 19, 3) := by decide +kernel
theorem dX7_typeOfText_25 : decode cX7_typeOfText 25 = .ok (.aload_n 0, 1) := by decide +kernel
theorem dX7_typeOfText_26 : decode cX7_typeOfText 26 = .ok (.getfield 10, 3) := by decide +kernel
theorem dX7_typeOfText_29 : decode cX7_typeOfText 29 = .ok (.invokevirtual 63, 3) := by decide +kernel
theorem dX7_typeOfText_32 : decode cX7_typeOfText 32 = .ok (.invokevirtual 67, 3) := by decide +kernel
theorem dX7_typeOfText_35 : decode cX7_typeOfText 35 = .ok (.ireturn, 1) := by decide +kernel
theorem dX7_setType_0 : decode cX7_setType 0 = .ok (.iload_n 1, 1) := by decide +kernel
theorem dX7_setType_1 : decode cX7_setType 1 = .ok (.invokestatic 71, 3) := by decide +kernel
theorem dX7_setType_4 : decode cX7_setType 4 = .ok (.iload_n 2, 1) := by decide +kernel
theorem dX7_setType_5 : decode cX7_setType 5 = .ok (.ifCond .lt 8, 3) := by decide +kernel
theorem dX7_setType_8 : decode cX7_setType 8 = .ok (.iload_n 2, 1) := by decide +kernel
theorem dX7_setType_9 : decode cX7_setType 9 = .ok (.iconst 3, 1) := by decide +kernel
theorem dX7_setType_10 : decode cX7_setType 10 = .ok (.if_icmp .le 13, 3) := by decide +kernel
theorem dX7_setType_13 : decode cX7_setType 13 = .ok (.new 75, 3) := by decide +kernel
theorem dX7_setType_16 : decode cX7_setType 16 = .ok (.dup, 1) := by decide +kernel
theorem dX7_setType_17 : decode cX7_setType 17 = .ok (.ldc 77, 2) := by decide +kernel
theorem dX7_setType_19 : decode cX7_setType 19 = .ok (.invokespecial 79, 3) := by decide +kernel
theorem dX7_setType_22 : decode cX7_setType 22 = .ok (.athrow, 1) := by decide +kernel
theorem dX7_setType_23 : decode cX7_setType 23 = .ok (.aload_n 0, 1) := by decide +kernel
theorem dX7_setType_24 : decode cX7_setType 24 = .ok (.getfield 19, 3) := by decide +kernel
theorem dX7_setType_27 : decode cX7_setType 27 = .ok (.iload_n 1, 1) := by decide +kernel
theorem dX7_setType_28 : decode cX7_setType 28 = .ok (.iload_n 2, 1) := by decide +kernel
theorem dX7_setType_29 : decode cX7_setType 29 = .ok (.invokevirtual 80, 3) := by decide +kernel
theorem dX7_setType_32 : decode cX7_setType 32 = .ok (.aload_n 0, 1) := by decide +kernel
theorem dX7_setType_33 : decode cX7_setType 33 = .ok (.getfield 19, 3) := by decide +kernel
theorem dX7_setType_36 : decode cX7_setType 36 = .ok (.invokevirtual 84, 3) := by decide +kernel
theorem dX7_setType_39 : decode cX7_setType 39 = .ok (.ireturn, 1) := by decide +kernel
theorem dX7_setFormula_0 : decode cX7_setFormula 0 = .ok (.iload_n 1, 1) := by decide +kernel
theorem dX7_setFormula_1 : decode cX7_setFormula 1 = .ok (.invokestatic 87, 3) := by decide +kernel
theorem dX7_setFormula_4 : decode cX7_setFormula 4 = .ok (.aload_n 0, 1) := by decide +kernel
