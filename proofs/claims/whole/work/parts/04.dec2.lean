theorem dX8_breaks_27 : decode cX8_breaks 27 = .ok (.aload_n 0, 1) := by decide +kernel
theorem dX8_breaks_28 : decode cX8_breaks 28 = .ok (.iload_n 1, 1) := by decide +kernel
theorem dX8_breaks_29 : decode cX8_breaks 29 = .ok (.invokevirtual 133, 3) := by decide +kernel
theorem dX8_breaks_32 : decode cX8_breaks 32 = .ok (.if_icmp .eq 7, 3) := by decide +kernel
theorem dX8_breaks_35 : decode cX8_breaks 35 = .ok (.iconst 1, 1) := by decide +kernel
theorem dX8_breaks_36 : decode cX8_breaks 36 = .ok (.goto 4, 3) := by decide +kernel
theorem dX8_breaks_39 : decode cX8_breaks 39 = .ok (.iconst 0, 1) := by decide +kernel
theorem dX8_breaks_40 : decode cX8_breaks 40 = .ok (.ireturn, 1) := by decide +kernel
theorem dX8_brokenMany_0 : decode cX8_brokenMany 0 = .ok (.iconst 0, 1) := by decide +kernel
theorem dX8_brokenMany_1 : decode cX8_brokenMany 1 = .ok (.istore_n 1, 1) := by decide +kernel
theorem dX8_brokenMany_2 : decode cX8_brokenMany 2 = .ok (.iconst 0, 1) := by decide +kernel
theorem dX8_brokenMany_3 : decode cX8_brokenMany 3 = .ok (.istore_n 2, 1) := by decide +kernel
theorem dX8_brokenMany_4 : decode cX8_brokenMany 4 = .ok (.iload_n 2, 1) := by decide +kernel
theorem dX8_brokenMany_5 : decode cX8_brokenMany 5 = .ok (.bipush 10, 2) := by decide +kernel
theorem dX8_brokenMany_7 : decode cX8_brokenMany 7 = .ok (.if_icmp .ge 25, 3) := by decide +kernel
theorem dX8_brokenMany_10 : decode cX8_brokenMany 10 = .ok (.iload_n 1, 1) := by decide +kernel
theorem dX8_brokenMany_11 : decode cX8_brokenMany 11 = .ok (.aload_n 0, 1) := by decide +kernel
theorem dX8_brokenMany_12 : decode cX8_brokenMany 12 = .ok (.iload_n 2, 1) := by decide +kernel
theorem dX8_brokenMany_13 : decode cX8_brokenMany 13 = .ok (.invokevirtual 136, 3) := by decide +kernel
theorem dX8_brokenMany_16 : decode cX8_brokenMany 16 = .ok (.ifCond .eq 7, 3) := by decide +kernel
theorem dX8_brokenMany_19 : decode cX8_brokenMany 19 = .ok (.iconst 1, 1) := by decide +kernel
theorem dX8_brokenMany_20 : decode cX8_brokenMany 20 = .ok (.goto 4, 3) := by decide +kernel
theorem dX8_brokenMany_23 : decode cX8_brokenMany 23 = .ok (.iconst 0, 1) := by decide +kernel
theorem dX8_brokenMany_24 : decode cX8_brokenMany 24 = .ok (.iadd, 1) := by decide +kernel
theorem dX8_brokenMany_25 : decode cX8_brokenMany 25 = .ok (.istore_n 1, 1) := by decide +kernel
theorem dX8_brokenMany_26 : decode cX8_brokenMany 26 = .ok (.iinc 2 1, 3) := by decide +kernel
theorem dX8_brokenMany_29 : decode cX8_brokenMany 29 = .ok (.goto (-25), 3) := by decide +kernel
theorem dX8_brokenMany_32 : decode cX8_brokenMany 32 = .ok (.iload_n 1, 1) := by decide +kernel
theorem dX8_brokenMany_33 : decode cX8_brokenMany 33 = .ok (.ireturn, 1) := by decide +kernel
theorem dX8_setType_0 : decode cX8_setType 0 = .ok (.aload_n 0, 1) := by decide +kernel
theorem dX8_setType_1 : decode cX8_setType 1 = .ok (.iload_n 1, 1) := by decide +kernel
theorem dX8_setType_2 : decode cX8_setType 2 = .ok (.invokestatic 139, 3) := by decide +kernel
theorem dX8_setType_5 : decode cX8_setType 5 = .ok (.ifCond .ne 7, 3) := by decide +kernel
theorem dX8_setType_8 : decode cX8_setType 8 = .ok (.iconst 1, 1) := by decide +kernel
theorem dX8_setType_9 : decode cX8_setType 9 = .ok (.goto 17, 3) := by decide +kernel
theorem dX8_setType_12 : decode cX8_setType 12 = .ok (.iload_n 2, 1) := by decide +kernel
theorem dX8_setType_13 : decode cX8_setType 13 = .ok (.iconst 0, 1) := by decide +kernel
theorem dX8_setType_14 : decode cX8_setType 14 = .ok (.iconst 3, 1) := by decide +kernel
theorem dX8_setType_15 : decode cX8_setType 15 = .ok (.invokestatic 69, 3) := by decide +kernel
theorem dX8_setType_18 : decode cX8_setType 18 = .ok (.ifCond .ne 7, 3) := by decide +kernel
theorem dX8_setType_21 : decode cX8_setType 21 = .ok (.iconst 2, 1) := by decide +kernel
theorem dX8_setType_22 : decode cX8_setType 22 = .ok (.goto 4, 3) := by decide +kernel
theorem dX8_setType_25 : decode cX8_setType 25 = .ok (.iconst 0, 1) := by decide +kernel
theorem dX8_setType_26 : decode cX8_setType 26 = .ok (.putfield 66, 3) := by decide +kernel
theorem dX8_setType_29 : decode cX8_setType 29 = .ok (.aload_n 0, 1) := by decide +kernel
theorem dX8_setType_30 : decode cX8_setType 30 = .ok (.getfield 66, 3) := by decide +kernel
theorem dX8_setType_33 : decode cX8_setType 33 = .ok (.ifCond .le 5, 3) := by decide +kernel
theorem dX8_setType_36 : decode cX8_setType 36 = .ok (.iconst 0, 1) := by decide +kernel
theorem dX8_setType_37 : decode cX8_setType 37 = .ok (.ireturn, 1) := by decide +kernel
theorem dX8_setType_38 : decode cX8_setType 38 = .ok (.aload_n 0, 1) := by decide +kernel
theorem dX8_setType_39 : decode cX8_setType 39 = .ok (.getfield 19, 3) := by decide +kernel
theorem dX8_setType_42 : decode cX8_setType 42 = .ok (.iload_n 1, 1) := by decide +kernel
theorem dX8_setType_43 : decode cX8_setType 43 = .ok (.iload_n 2, 1) := by decide +kernel
theorem dX8_setType_44 : decode cX8_setType 44 = .ok (.iastore, 1) := by decide +kernel
theorem dX8_setType_45 : decode cX8_setType 45 = .ok (.aload_n 0, 1) := by decide +kernel
theorem dX8_setType_46 : decode cX8_setType 46 = .ok (.invokevirtual 142, 3) := by decide +kernel
theorem dX8_setType_49 : decode cX8_setType 49 = .ok (.ireturn, 1) := by decide +kernel
theorem dX8_isReached_0 : decode cX8_isReached 0 = .ok (.iconst 0, 1) := by decide +kernel
theorem dX8_isReached_1 : decode cX8_isReached 1 = .ok (.istore_n 2, 1) := by decide +kernel
theorem dX8_isReached_2 : decode cX8_isReached 2 = .ok (.iconst 0, 1) := by decide +kernel
theorem dX8_isReached_3 : decode cX8_isReached 3 = .ok (.istore_n 3, 1) := by decide +kernel
theorem dX8_isReached_4 : decode cX8_isReached 4 = .ok (.iload_n 3, 1) := by decide +kernel
theorem dX8_isReached_5 : decode cX8_isReached 5 = .ok (.aload_n 0, 1) := by decide +kernel
theorem dX8_isReached_6 : decode cX8_isReached 6 = .ok (.getfield 99, 3) := by decide +kernel
theorem dX8_isReached_9 : decode cX8_isReached 9 = .ok (.if_icmp .ge 46, 3) := by decide +kernel
theorem dX8_isReached_12 : decode cX8_isReached 12 = .ok (.iload_n 2, 1) := by decide +kernel
theorem dX8_isReached_13 : decode cX8_isReached 13 = .ok (.aload_n 0, 1) := by decide +kernel
theorem dX8_isReached_14 : decode cX8_isReached 14 = .ok (.getfield 44, 3) := by decide +kernel
theorem dX8_isReached_17 : decode cX8_isReached 17 = .ok (.iload_n 3, 1) := by decide +kernel
theorem dX8_isReached_18 : decode cX8_isReached 18 = .ok (.iaload, 1) := by decide +kernel
theorem dX8_isReached_19 : decode cX8_isReached 19 = .ok (.sipush 1000, 3) := by decide +kernel
theorem dX8_isReached_22 : decode cX8_isReached 22 = .ok (.sipush 1005, 3) := by decide +kernel
theorem dX8_isReached_25 : decode cX8_isReached 25 = .ok (.invokestatic 69, 3) := by decide +kernel
theorem dX8_isReached_28 : decode cX8_isReached 28 = .ok (.ifCond .eq 18, 3) := by decide +kernel
theorem dX8_isReached_31 : decode cX8_isReached 31 = .ok (.iconst 1, 1) := by decide +kernel
theorem dX8_isReached_32 : decode cX8_isReached 32 = .ok (.aload_n 0, 1) := by decide +kernel
theorem dX8_isReached_33 : decode cX8_isReached 33 = .ok (.getfield 44, 3) := by decide +kernel
theorem dX8_isReached_36 : decode cX8_isReached 36 = .ok (.iload_n 3, 1) := by decide +kernel
theorem dX8_isReached_37 : decode cX8_isReached 37 = .ok (.iaload, 1) := by decide +kernel
theorem dX8_isReached_38 : decode cX8_isReached 38 = .ok (.sipush 1000, 3) := by decide +kernel
theorem dX8_isReached_41 : decode cX8_isReached 41 = .ok (.isub, 1) := by decide +kernel
theorem dX8_isReached_42 : decode cX8_isReached 42 = .ok (.ishl, 1) := by decide +kernel
theorem dX8_isReached_43 : decode cX8_isReached 43 = .ok (.goto 4, 3) := by decide +kernel
theorem dX8_isReached_46 : decode cX8_isReached 46 = .ok (.iconst 0, 1) := by decide +kernel
theorem dX8_isReached_47 : decode cX8_isReached 47 = .ok (.ior, 1) := by decide +kernel
theorem dX8_isReached_48 : decode cX8_isReached 48 = .ok (.istore_n 2, 1) := by decide +kernel
theorem dX8_isReached_49 : decode cX8_isReached 49 = .ok (.iinc 3 1, 3) := by decide +kernel
theorem dX8_isReached_52 : decode cX8_isReached 52 = .ok (.goto (-48), 3) := by decide +kernel
theorem dX8_isReached_55 : decode cX8_isReached 55 = .ok (.iconst 0, 1) := by decide +kernel
theorem dX8_isReached_56 : decode cX8_isReached 56 = .ok (.istore_n 3, 1) := by decide +kernel
theorem dX8_isReached_57 : decode cX8_isReached 57 = .ok (.iload_n 3, 1) := by decide +kernel
theorem dX8_isReached_58 : decode cX8_isReached 58 = .ok (.bipush 6, 2) := by decide +kernel
theorem dX8_isReached_60 : decode cX8_isReached 60 = .ok (.if_icmp .ge 79, 3) := by decide +kernel
theorem dX8_isReached_63 : decode cX8_isReached 63 = .ok (.iconst 0, 1) := by decide +kernel
theorem dX8_isReached_64 : decode cX8_isReached 64 = .ok (.istore 4, 2) := by decide +kernel
theorem dX8_isReached_66 : decode cX8_isReached 66 = .ok (.iload 4, 2) := by decide +kernel
theorem dX8_isReached_68 : decode cX8_isReached 68 = .ok (.bipush 6, 2) := by decide +kernel
theorem dX8_isReached_70 : decode cX8_isReached 70 = .ok (.if_icmp .ge 63, 3) := by decide +kernel
theorem dX8_isReached_73 : decode cX8_isReached 73 = .ok (.iconst 0, 1) := by decide +kernel
theorem dX8_isReached_74 : decode cX8_isReached 74 = .ok (.istore 5, 2) := by decide +kernel
theorem dX8_isReached_76 : decode cX8_isReached 76 = .ok (.iload 5, 2) := by decide +kernel
theorem dX8_isReached_78 : decode cX8_isReached 78 = .ok (.bipush 6, 2) := by decide +kernel
theorem dX8_isReached_80 : decode cX8_isReached 80 = .ok (.if_icmp .ge 47, 3) := by decide +kernel
theorem dX8_isReached_83 : decode cX8_isReached 83 = .ok (.iload_n 2, 1) := by decide +kernel
theorem dX8_isReached_84 : decode cX8_isReached 84 = .ok (.iload_n 2, 1) := by decide +kernel
theorem dX8_isReached_85 : decode cX8_isReached 85 = .ok (.iload 4, 2) := by decide +kernel
theorem dX8_isReached_87 : decode cX8_isReached 87 = .ok (.ishr, 1) := by decide +kernel
theorem dX8_isReached_88 : decode cX8_isReached 88 = .ok (.iconst 1, 1) := by decide +kernel
theorem dX8_isReached_89 : decode cX8_isReached 89 = .ok (.iand, 1) := by decide +kernel
theorem dX8_isReached_90 : decode cX8_isReached 90 = .ok (.iconst 1, 1) := by decide +kernel
theorem dX8_isReached_91 : decode cX8_isReached 91 = .ok (.if_icmp .ne 27, 3) := by decide +kernel
theorem dX8_isReached_94 : decode cX8_isReached 94 = .ok (.iload 4, 2) := by decide +kernel
theorem dX8_isReached_96 : decode cX8_isReached 96 = .ok (.iload_n 1, 1) := by decide +kernel
theorem dX8_isReached_97 : decode cX8_isReached 97 = .ok (.if_icmp .eq 21, 3) := by decide +kernel
theorem dX8_isReached_100 : decode cX8_isReached 100 = .ok (.aload_n 0, 1) := by decide +kernel
theorem dX8_isReached_101 : decode cX8_isReached 101 = .ok (.iload 4, 2) := by decide +kernel
theorem dX8_isReached_103 : decode cX8_isReached 103 = .ok (.iload 5, 2) := by decide +kernel
theorem dX8_isReached_105 : decode cX8_isReached 105 = .ok (.invokevirtual 145, 3) := by decide +kernel
theorem dX8_isReached_108 : decode cX8_isReached 108 = .ok (.ifCond .eq 10, 3) := by decide +kernel
theorem dX8_isReached_111 : decode cX8_isReached 111 = .ok (.iconst 1, 1) := by decide +kernel
theorem dX8_isReached_112 : decode cX8_isReached 112 = .ok (.iload 5, 2) := by decide +kernel
theorem dX8_isReached_114 : decode cX8_isReached 114 = .ok (.ishl, 1) := by decide +kernel
theorem dX8_isReached_115 : decode cX8_isReached 115 = .ok (.goto 4, 3) := by decide +kernel
theorem dX8_isReached_118 : decode cX8_isReached 118 = .ok (.iconst 0, 1) := by decide +kernel
theorem dX8_isReached_119 : decode cX8_isReached 119 = .ok (.ior, 1) := by decide +kernel
theorem dX8_isReached_120 : decode cX8_isReached 120 = .ok (.istore_n 2, 1) := by decide +kernel
theorem dX8_isReached_121 : decode cX8_isReached 121 = .ok (.iinc 5 1, 3) := by decide +kernel
theorem dX8_isReached_124 : decode cX8_isReached 124 = .ok (.goto (-48), 3) := by decide +kernel
theorem dX8_isReached_127 : decode cX8_isReached 127 = .ok (.iinc 4 1, 3) := by decide +kernel
theorem dX8_isReached_130 : decode cX8_isReached 130 = .ok (.goto (-64), 3) := by decide +kernel
theorem dX8_isReached_133 : decode cX8_isReached 133 = .ok (.iinc 3 1, 3) := by decide +kernel
theorem dX8_isReached_136 : decode cX8_isReached 136 = .ok (.goto (-79), 3) := by decide +kernel
theorem dX8_isReached_139 : decode cX8_isReached 139 = .ok (.iload_n 2, 1) := by decide +kernel
theorem dX8_isReached_140 : decode cX8_isReached 140 = .ok (.iload_n 1, 1) := by decide +kernel
theorem dX8_isReached_141 : decode cX8_isReached 141 = .ok (.ishr, 1) := by decide +kernel
theorem dX8_isReached_142 : decode cX8_isReached 142 = .ok (.iconst 1, 1) := by decide +kernel
theorem dX8_isReached_143 : decode cX8_isReached 143 = .ok (.iand, 1) := by decide +kernel
theorem dX8_isReached_144 : decode cX8_isReached 144 = .ok (.iconst 1, 1) := by decide +kernel
theorem dX8_isReached_145 : decode cX8_isReached 145 = .ok (.if_icmp .ne 7, 3) := by decide +kernel
theorem dX8_isReached_148 : decode cX8_isReached 148 = .ok (.iconst 1, 1) := by decide +kernel
theorem dX8_isReached_149 : decode cX8_isReached 149 = .ok (.goto 4, 3) := by decide +kernel
theorem dX8_isReached_152 : decode cX8_isReached 152 = .ok (.iconst 0, 1) := by decide +kernel
theorem dX8_isReached_153 : decode cX8_isReached 153 = .ok (.ireturn, 1) := by decide +kernel
theorem dX8_setFormula_0 : decode cX8_setFormula 0 = .ok (.aload_n 0, 1) := by decide +kernel
theorem dX8_setFormula_1 : decode cX8_setFormula 1 = .ok (.iload_n 1, 1) := by decide +kernel
theorem dX8_setFormula_2 : decode cX8_setFormula 2 = .ok (.invokestatic 149, 3) := by decide +kernel
theorem dX8_setFormula_5 : decode cX8_setFormula 5 = .ok (.ifCond .ne 7, 3) := by decide +kernel
theorem dX8_setFormula_8 : decode cX8_setFormula 8 = .ok (.iconst 1, 1) := by decide +kernel
theorem dX8_setFormula_9 : decode cX8_setFormula 9 = .ok (.goto 16, 3) := by decide +kernel
theorem dX8_setFormula_12 : decode cX8_setFormula 12 = .ok (.aload_n 0, 1) := by decide +kernel
theorem dX8_setFormula_13 : decode cX8_setFormula 13 = .ok (.invokevirtual 95, 3) := by decide +kernel
theorem dX8_setFormula_16 : decode cX8_setFormula 16 = .ok (.iconst (-1), 1) := by decide +kernel
theorem dX8_setFormula_17 : decode cX8_setFormula 17 = .ok (.if_icmp .eq 7, 3) := by decide +kernel
theorem dX8_setFormula_20 : decode cX8_setFormula 20 = .ok (.iconst 2, 1) := by decide +kernel
theorem dX8_setFormula_21 : decode cX8_setFormula 21 = .ok (.goto 4, 3) := by decide +kernel
theorem dX8_setFormula_24 : decode cX8_setFormula 24 = .ok (.iconst 0, 1) := by decide +kernel
theorem dX8_setFormula_25 : decode cX8_setFormula 25 = .ok (.putfield 66, 3) := by decide +kernel
theorem dX8_setFormula_28 : decode cX8_setFormula 28 = .ok (.aload_n 0, 1) := by decide +kernel
theorem dX8_setFormula_29 : decode cX8_setFormula 29 = .ok (.getfield 66, 3) := by decide +kernel
theorem dX8_setFormula_32 : decode cX8_setFormula 32 = .ok (.ifCond .ne 51, 3) := by decide +kernel
theorem dX8_setFormula_35 : decode cX8_setFormula 35 = .ok (.aload_n 0, 1) := by decide +kernel
theorem dX8_setFormula_36 : decode cX8_setFormula 36 = .ok (.invokevirtual 126, 3) := by decide +kernel
theorem dX8_setFormula_39 : decode cX8_setFormula 39 = .ok (.aload_n 0, 1) := by decide +kernel
theorem dX8_setFormula_40 : decode cX8_setFormula 40 = .ok (.aload_n 0, 1) := by decide +kernel
theorem dX8_setFormula_41 : decode cX8_setFormula 41 = .ok (.aload_n 0, 1) := by decide +kernel
theorem dX8_setFormula_42 : decode cX8_setFormula 42 = .ok (.getfield 44, 3) := by decide +kernel
theorem dX8_setFormula_45 : decode cX8_setFormula 45 = .ok (.iconst 0, 1) := by decide +kernel
theorem dX8_setFormula_46 : decode cX8_setFormula 46 = .ok (.aload_n 0, 1) := by decide +kernel
theorem dX8_setFormula_47 : decode cX8_setFormula 47 = .ok (.getfield 99, 3) := by decide +kernel
theorem dX8_setFormula_50 : decode cX8_setFormula 50 = .ok (.invokevirtual 129, 3) := by decide +kernel
theorem dX8_setFormula_53 : decode cX8_setFormula 53 = .ok (.aload_n 0, 1) := by decide +kernel
theorem dX8_setFormula_54 : decode cX8_setFormula 54 = .ok (.iload_n 1, 1) := by decide +kernel
theorem dX8_setFormula_55 : decode cX8_setFormula 55 = .ok (.invokevirtual 133, 3) := by decide +kernel
theorem dX8_setFormula_58 : decode cX8_setFormula 58 = .ok (.if_icmp .ne 17, 3) := by decide +kernel
theorem dX8_setFormula_61 : decode cX8_setFormula 61 = .ok (.iload_n 1, 1) := by decide +kernel
theorem dX8_setFormula_62 : decode cX8_setFormula 62 = .ok (.bipush 6, 2) := by decide +kernel
theorem dX8_setFormula_64 : decode cX8_setFormula 64 = .ok (.if_icmp .ge 15, 3) := by decide +kernel
theorem dX8_setFormula_67 : decode cX8_setFormula 67 = .ok (.aload_n 0, 1) := by decide +kernel
theorem dX8_setFormula_68 : decode cX8_setFormula 68 = .ok (.iload_n 1, 1) := by decide +kernel
theorem dX8_setFormula_69 : decode cX8_setFormula 69 = .ok (.invokevirtual 152, 3) := by decide +kernel
theorem dX8_setFormula_72 : decode cX8_setFormula 72 = .ok (.ifCond .eq 7, 3) := by decide +kernel
theorem dX8_setFormula_75 : decode cX8_setFormula 75 = .ok (.iconst 3, 1) := by decide +kernel
theorem dX8_setFormula_76 : decode cX8_setFormula 76 = .ok (.goto 4, 3) := by decide +kernel
theorem dX8_setFormula_79 : decode cX8_setFormula 79 = .ok (.iconst 0, 1) := by decide +kernel
theorem dX8_setFormula_80 : decode cX8_setFormula 80 = .ok (.putfield 66, 3) := by decide +kernel
theorem dX8_setFormula_83 : decode cX8_setFormula 83 = .ok (.aload_n 0, 1) := by decide +kernel
theorem dX8_setFormula_84 : decode cX8_setFormula 84 = .ok (.getfield 66, 3) := by decide +kernel
theorem dX8_setFormula_87 : decode cX8_setFormula 87 = .ok (.ifCond .le 5, 3) := by decide +kernel
theorem dX8_setFormula_90 : decode cX8_setFormula 90 = .ok (.iconst 0, 1) := by decide +kernel
theorem dX8_setFormula_91 : decode cX8_setFormula 91 = .ok (.ireturn, 1) := by decide +kernel
theorem dX8_setFormula_92 : decode cX8_setFormula 92 = .ok (.aload_n 0, 1) := by decide +kernel
theorem dX8_setFormula_93 : decode cX8_setFormula 93 = .ok (.getfield 16, 3) := by decide +kernel
theorem dX8_setFormula_96 : decode cX8_setFormula 96 = .ok (.iload_n 1, 1) := by decide +kernel
theorem dX8_setFormula_97 : decode cX8_setFormula 97 = .ok (.aload_n 0, 1) := by decide +kernel
theorem dX8_setFormula_98 : decode cX8_setFormula 98 = .ok (.getfield 99, 3) := by decide +kernel
theorem dX8_setFormula_101 : decode cX8_setFormula 101 = .ok (.iastore, 1) := by decide +kernel
theorem dX8_setFormula_102 : decode cX8_setFormula 102 = .ok (.iconst 0, 1) := by decide +kernel
theorem dX8_setFormula_103 : decode cX8_setFormula 103 = .ok (.istore_n 2, 1) := by decide +kernel
theorem dX8_setFormula_104 : decode cX8_setFormula 104 = .ok (.iload_n 2, 1) := by decide +kernel
theorem dX8_setFormula_105 : decode cX8_setFormula 105 = .ok (.aload_n 0, 1) := by decide +kernel
theorem dX8_setFormula_106 : decode cX8_setFormula 106 = .ok (.getfield 99, 3) := by decide +kernel
theorem dX8_setFormula_109 : decode cX8_setFormula 109 = .ok (.if_icmp .ge 26, 3) := by decide +kernel
theorem dX8_setFormula_112 : decode cX8_setFormula 112 = .ok (.aload_n 0, 1) := by decide +kernel
theorem dX8_setFormula_113 : decode cX8_setFormula 113 = .ok (.getfield 13, 3) := by decide +kernel
theorem dX8_setFormula_116 : decode cX8_setFormula 116 = .ok (.bipush 40, 2) := by decide +kernel
theorem dX8_setFormula_118 : decode cX8_setFormula 118 = .ok (.iload_n 1, 1) := by decide +kernel
theorem dX8_setFormula_119 : decode cX8_setFormula 119 = .ok (.imul, 1) := by decide +kernel
theorem dX8_setFormula_120 : decode cX8_setFormula 120 = .ok (.iload_n 2, 1) := by decide +kernel
theorem dX8_setFormula_121 : decode cX8_setFormula 121 = .ok (.iadd, 1) := by decide +kernel
theorem dX8_setFormula_122 : decode cX8_setFormula 122 = .ok (.aload_n 0, 1) := by decide +kernel
theorem dX8_setFormula_123 : decode cX8_setFormula 123 = .ok (.getfield 44, 3) := by decide +kernel
theorem dX8_setFormula_126 : decode cX8_setFormula 126 = .ok (.iload_n 2, 1) := by decide +kernel
theorem dX8_setFormula_127 : decode cX8_setFormula 127 = .ok (.iaload, 1) := by decide +kernel
theorem dX8_setFormula_128 : decode cX8_setFormula 128 = .ok (.iastore, 1) := by decide +kernel
theorem dX8_setFormula_129 : decode cX8_setFormula 129 = .ok (.iinc 2 1, 3) := by decide +kernel
theorem dX8_setFormula_132 : decode cX8_setFormula 132 = .ok (.goto (-28), 3) := by decide +kernel
theorem dX8_setFormula_135 : decode cX8_setFormula 135 = .ok (.iconst 0, 1) := by decide +kernel
theorem dX8_setFormula_136 : decode cX8_setFormula 136 = .ok (.istore_n 2, 1) := by decide +kernel
theorem dX8_setFormula_137 : decode cX8_setFormula 137 = .ok (.iconst 0, 1) := by decide +kernel
theorem dX8_setFormula_138 : decode cX8_setFormula 138 = .ok (.istore_n 3, 1) := by decide +kernel
theorem dX8_setFormula_139 : decode cX8_setFormula 139 = .ok (.iload_n 3, 1) := by decide +kernel
theorem dX8_setFormula_140 : decode cX8_setFormula 140 = .ok (.bipush 10, 2) := by decide +kernel
theorem dX8_setFormula_142 : decode cX8_setFormula 142 = .ok (.if_icmp .ge 26, 3) := by decide +kernel
theorem dX8_setFormula_145 : decode cX8_setFormula 145 = .ok (.iload_n 2, 1) := by decide +kernel
theorem dX8_setFormula_146 : decode cX8_setFormula 146 = .ok (.aload_n 0, 1) := by decide +kernel
theorem dX8_setFormula_147 : decode cX8_setFormula 147 = .ok (.getfield 16, 3) := by decide +kernel
theorem dX8_setFormula_150 : decode cX8_setFormula 150 = .ok (.iload_n 3, 1) := by decide +kernel
theorem dX8_setFormula_151 : decode cX8_setFormula 151 = .ok (.iaload, 1) := by decide +kernel
theorem dX8_setFormula_152 : decode cX8_setFormula 152 = .ok (.ifCond .le 7, 3) := by decide +kernel
theorem dX8_setFormula_155 : decode cX8_setFormula 155 = .ok (.iconst 1, 1) := by decide +kernel
theorem dX8_setFormula_156 : decode cX8_setFormula 156 = .ok (.goto 4, 3) := by decide +kernel
theorem dX8_setFormula_159 : decode cX8_setFormula 159 = .ok (.iconst 0, 1) := by decide +kernel
theorem dX8_setFormula_160 : decode cX8_setFormula 160 = .ok (.iadd, 1) := by decide +kernel
theorem dX8_setFormula_161 : decode cX8_setFormula 161 = .ok (.istore_n 2, 1) := by decide +kernel
theorem dX8_setFormula_162 : decode cX8_setFormula 162 = .ok (.iinc 3 1, 3) := by decide +kernel
theorem dX8_setFormula_165 : decode cX8_setFormula 165 = .ok (.goto (-26), 3) := by decide +kernel
theorem dX8_setFormula_168 : decode cX8_setFormula 168 = .ok (.iload_n 2, 1) := by decide +kernel
theorem dX8_setFormula_169 : decode cX8_setFormula 169 = .ok (.ireturn, 1) := by decide +kernel
theorem dX8_dropFormula_0 : decode cX8_dropFormula 0 = .ok (.aload_n 0, 1) := by decide +kernel
theorem dX8_dropFormula_1 : decode cX8_dropFormula 1 = .ok (.iload_n 1, 1) := by decide +kernel
theorem dX8_dropFormula_2 : decode cX8_dropFormula 2 = .ok (.invokestatic 149, 3) := by decide +kernel
theorem dX8_dropFormula_5 : decode cX8_dropFormula 5 = .ok (.ifCond .eq 7, 3) := by decide +kernel
theorem dX8_dropFormula_8 : decode cX8_dropFormula 8 = .ok (.iconst 0, 1) := by decide +kernel
theorem dX8_dropFormula_9 : decode cX8_dropFormula 9 = .ok (.goto 4, 3) := by decide +kernel
theorem dX8_dropFormula_12 : decode cX8_dropFormula 12 = .ok (.iconst 1, 1) := by decide +kernel
theorem dX8_dropFormula_13 : decode cX8_dropFormula 13 = .ok (.putfield 66, 3) := by decide +kernel
theorem dX8_dropFormula_16 : decode cX8_dropFormula 16 = .ok (.aload_n 0, 1) := by decide +kernel
theorem dX8_dropFormula_17 : decode cX8_dropFormula 17 = .ok (.getfield 66, 3) := by decide +kernel
theorem dX8_dropFormula_20 : decode cX8_dropFormula 20 = .ok (.ifCond .ne 16, 3) := by decide +kernel
theorem dX8_dropFormula_23 : decode cX8_dropFormula 23 = .ok (.aload_n 0, 1) := by decide +kernel
theorem dX8_dropFormula_24 : decode cX8_dropFormula 24 = .ok (.getfield 16, 3) := by decide +kernel
theorem dX8_dropFormula_27 : decode cX8_dropFormula 27 = .ok (.iload_n 1, 1) := by decide +kernel
theorem dX8_dropFormula_28 : decode cX8_dropFormula 28 = .ok (.iaload, 1) := by decide +kernel
theorem dX8_dropFormula_29 : decode cX8_dropFormula 29 = .ok (.ifCond .le 7, 3) := by decide +kernel
theorem dX8_dropFormula_32 : decode cX8_dropFormula 32 = .ok (.iconst 1, 1) := by decide +kernel
theorem dX8_dropFormula_33 : decode cX8_dropFormula 33 = .ok (.goto 4, 3) := by decide +kernel
theorem dX8_dropFormula_36 : decode cX8_dropFormula 36 = .ok (.iconst 0, 1) := by decide +kernel
theorem dX8_dropFormula_37 : decode cX8_dropFormula 37 = .ok (.istore_n 2, 1) := by decide +kernel
theorem dX8_dropFormula_38 : decode cX8_dropFormula 38 = .ok (.iload_n 2, 1) := by decide +kernel
theorem dX8_dropFormula_39 : decode cX8_dropFormula 39 = .ok (.ifCond .eq 10, 3) := by decide +kernel
theorem dX8_dropFormula_42 : decode cX8_dropFormula 42 = .ok (.aload_n 0, 1) := by decide +kernel
theorem dX8_dropFormula_43 : decode cX8_dropFormula 43 = .ok (.getfield 16, 3) := by decide +kernel
theorem dX8_dropFormula_46 : decode cX8_dropFormula 46 = .ok (.iload_n 1, 1) := by decide +kernel
theorem dX8_dropFormula_47 : decode cX8_dropFormula 47 = .ok (.iconst 0, 1) := by decide +kernel
theorem dX8_dropFormula_48 : decode cX8_dropFormula 48 = .ok (.iastore, 1) := by decide +kernel
theorem dX8_dropFormula_49 : decode cX8_dropFormula 49 = .ok (.iload_n 2, 1) := by decide +kernel
theorem dX8_dropFormula_50 : decode cX8_dropFormula 50 = .ok (.ireturn, 1) := by decide +kernel
theorem dX8_isBroken_0 : decode cX8_isBroken 0 = .ok (.aload_n 0, 1) := by decide +kernel
theorem dX8_isBroken_1 : decode cX8_isBroken 1 = .ok (.iload_n 1, 1) := by decide +kernel
theorem dX8_isBroken_2 : decode cX8_isBroken 2 = .ok (.invokestatic 149, 3) := by decide +kernel
theorem dX8_isBroken_5 : decode cX8_isBroken 5 = .ok (.ifCond .eq 7, 3) := by decide +kernel
theorem dX8_isBroken_8 : decode cX8_isBroken 8 = .ok (.iconst 0, 1) := by decide +kernel
theorem dX8_isBroken_9 : decode cX8_isBroken 9 = .ok (.goto 4, 3) := by decide +kernel
theorem dX8_isBroken_12 : decode cX8_isBroken 12 = .ok (.iconst 1, 1) := by decide +kernel
theorem dX8_isBroken_13 : decode cX8_isBroken 13 = .ok (.putfield 66, 3) := by decide +kernel
theorem dX8_isBroken_16 : decode cX8_isBroken 16 = .ok (.aload_n 0, 1) := by decide +kernel
theorem dX8_isBroken_17 : decode cX8_isBroken 17 = .ok (.getfield 66, 3) := by decide +kernel
theorem dX8_isBroken_20 : decode cX8_isBroken 20 = .ok (.ifCond .ne 15, 3) := by decide +kernel
theorem dX8_isBroken_23 : decode cX8_isBroken 23 = .ok (.aload_n 0, 1) := by decide +kernel
theorem dX8_isBroken_24 : decode cX8_isBroken 24 = .ok (.iload_n 1, 1) := by decide +kernel
theorem dX8_isBroken_25 : decode cX8_isBroken 25 = .ok (.invokevirtual 136, 3) := by decide +kernel
theorem dX8_isBroken_28 : decode cX8_isBroken 28 = .ok (.ifCond .eq 7, 3) := by decide +kernel
theorem dX8_isBroken_31 : decode cX8_isBroken 31 = .ok (.iconst 1, 1) := by decide +kernel
theorem dX8_isBroken_32 : decode cX8_isBroken 32 = .ok (.goto 4, 3) := by decide +kernel
theorem dX8_isBroken_35 : decode cX8_isBroken 35 = .ok (.iconst 0, 1) := by decide +kernel
theorem dX8_isBroken_36 : decode cX8_isBroken 36 = .ok (.ireturn, 1) := by decide +kernel
theorem dX8_areAlike_0 : decode cX8_areAlike 0 = .ok (.aload_n 0, 1) := by decide +kernel
theorem dX8_areAlike_1 : decode cX8_areAlike 1 = .ok (.getfield 16, 3) := by decide +kernel
theorem dX8_areAlike_4 : decode cX8_areAlike 4 = .ok (.iload_n 1, 1) := by decide +kernel
theorem dX8_areAlike_5 : decode cX8_areAlike 5 = .ok (.iaload, 1) := by decide +kernel
theorem dX8_areAlike_6 : decode cX8_areAlike 6 = .ok (.aload_n 0, 1) := by decide +kernel
theorem dX8_areAlike_7 : decode cX8_areAlike 7 = .ok (.getfield 16, 3) := by decide +kernel
theorem dX8_areAlike_10 : decode cX8_areAlike 10 = .ok (.iload_n 2, 1) := by decide +kernel
theorem dX8_areAlike_11 : decode cX8_areAlike 11 = .ok (.iaload, 1) := by decide +kernel
theorem dX8_areAlike_12 : decode cX8_areAlike 12 = .ok (.if_icmp .ne 7, 3) := by decide +kernel
theorem dX8_areAlike_15 : decode cX8_areAlike 15 = .ok (.iconst 1, 1) := by decide +kernel
theorem dX8_areAlike_16 : decode cX8_areAlike 16 = .ok (.goto 4, 3) := by decide +kernel
theorem dX8_areAlike_19 : decode cX8_areAlike 19 = .ok (.iconst 0, 1) := by decide +kernel
theorem dX8_areAlike_20 : decode cX8_areAlike 20 = .ok (.istore_n 3, 1) := by decide +kernel
theorem dX8_areAlike_21 : decode cX8_areAlike 21 = .ok (.iconst 0, 1) := by decide +kernel
theorem dX8_areAlike_22 : decode cX8_areAlike 22 = .ok (.istore 4, 2) := by decide +kernel
theorem dX8_areAlike_24 : decode cX8_areAlike 24 = .ok (.iload 4, 2) := by decide +kernel
theorem dX8_areAlike_26 : decode cX8_areAlike 26 = .ok (.aload_n 0, 1) := by decide +kernel
theorem dX8_areAlike_27 : decode cX8_areAlike 27 = .ok (.getfield 16, 3) := by decide +kernel
theorem dX8_areAlike_30 : decode cX8_areAlike 30 = .ok (.iload_n 1, 1) := by decide +kernel
theorem dX8_areAlike_31 : decode cX8_areAlike 31 = .ok (.iaload, 1) := by decide +kernel
theorem dX8_areAlike_32 : decode cX8_areAlike 32 = .ok (.if_icmp .ge 46, 3) := by decide +kernel
theorem dX8_areAlike_35 : decode cX8_areAlike 35 = .ok (.iload_n 3, 1) := by decide +kernel
theorem dX8_areAlike_36 : decode cX8_areAlike 36 = .ok (.ifCond .eq 42, 3) := by decide +kernel
theorem dX8_areAlike_39 : decode cX8_areAlike 39 = .ok (.aload_n 0, 1) := by decide +kernel
theorem dX8_areAlike_40 : decode cX8_areAlike 40 = .ok (.getfield 13, 3) := by decide +kernel
theorem dX8_areAlike_43 : decode cX8_areAlike 43 = .ok (.bipush 40, 2) := by decide +kernel
theorem dX8_areAlike_45 : decode cX8_areAlike 45 = .ok (.iload_n 1, 1) := by decide +kernel
theorem dX8_areAlike_46 : decode cX8_areAlike 46 = .ok (.imul, 1) := by decide +kernel
theorem dX8_areAlike_47 : decode cX8_areAlike 47 = .ok (.iload 4, 2) := by decide +kernel
theorem dX8_areAlike_49 : decode cX8_areAlike 49 = .ok (.iadd, 1) := by decide +kernel
theorem dX8_areAlike_50 : decode cX8_areAlike 50 = .ok (.iaload, 1) := by decide +kernel
theorem dX8_areAlike_51 : decode cX8_areAlike 51 = .ok (.aload_n 0, 1) := by decide +kernel
theorem dX8_areAlike_52 : decode cX8_areAlike 52 = .ok (.getfield 13, 3) := by decide +kernel
theorem dX8_areAlike_55 : decode cX8_areAlike 55 = .ok (.bipush 40, 2) := by decide +kernel
theorem dX8_areAlike_57 : decode cX8_areAlike 57 = .ok (.iload_n 2, 1) := by decide +kernel
theorem dX8_areAlike_58 : decode cX8_areAlike 58 = .ok (.imul, 1) := by decide +kernel
theorem dX8_areAlike_59 : decode cX8_areAlike 59 = .ok (.iload 4, 2) := by decide +kernel
theorem dX8_areAlike_61 : decode cX8_areAlike 61 = .ok (.iadd, 1) := by decide +kernel
theorem dX8_areAlike_62 : decode cX8_areAlike 62 = .ok (.iaload, 1) := by decide +kernel
theorem dX8_areAlike_63 : decode cX8_areAlike 63 = .ok (.if_icmp .ne 7, 3) := by decide +kernel
theorem dX8_areAlike_66 : decode cX8_areAlike 66 = .ok (.iconst 1, 1) := by decide +kernel
theorem dX8_areAlike_67 : decode cX8_areAlike 67 = .ok (.goto 4, 3) := by decide +kernel
theorem dX8_areAlike_70 : decode cX8_areAlike 70 = .ok (.iconst 0, 1) := by decide +kernel
theorem dX8_areAlike_71 : decode cX8_areAlike 71 = .ok (.istore_n 3, 1) := by decide +kernel
theorem dX8_areAlike_72 : decode cX8_areAlike 72 = .ok (.iinc 4 1, 3) := by decide +kernel
theorem dX8_areAlike_75 : decode cX8_areAlike 75 = .ok (.goto (-51), 3) := by decide +kernel
theorem dX8_areAlike_78 : decode cX8_areAlike 78 = .ok (.iload_n 3, 1) := by decide +kernel
theorem dX8_areAlike_79 : decode cX8_areAlike 79 = .ok (.ireturn, 1) := by decide +kernel
theorem dX8_typeAt_0 : decode cX8_typeAt 0 = .ok (.aload_n 0, 1) := by decide +kernel
theorem dX8_typeAt_1 : decode cX8_typeAt 1 = .ok (.getfield 19, 3) := by decide +kernel
theorem dX8_typeAt_4 : decode cX8_typeAt 4 = .ok (.bipush 6, 2) := by decide +kernel
theorem dX8_typeAt_6 : decode cX8_typeAt 6 = .ok (.iload_n 1, 1) := by decide +kernel
theorem dX8_typeAt_7 : decode cX8_typeAt 7 = .ok (.iconst 1, 1) := by decide +kernel
theorem dX8_typeAt_8 : decode cX8_typeAt 8 = .ok (.iadd, 1) := by decide +kernel
theorem dX8_typeAt_9 : decode cX8_typeAt 9 = .ok (.imul, 1) := by decide +kernel
theorem dX8_typeAt_10 : decode cX8_typeAt 10 = .ok (.iload_n 2, 1) := by decide +kernel
theorem dX8_typeAt_11 : decode cX8_typeAt 11 = .ok (.iadd, 1) := by decide +kernel
theorem dX8_typeAt_12 : decode cX8_typeAt 12 = .ok (.iaload, 1) := by decide +kernel
theorem dX8_typeAt_13 : decode cX8_typeAt 13 = .ok (.ireturn, 1) := by decide +kernel
theorem dX8_doubtFor_0 : decode cX8_doubtFor 0 = .ok (.aload_n 0, 1) := by decide +kernel
theorem dX8_doubtFor_1 : decode cX8_doubtFor 1 = .ok (.getfield 25, 3) := by decide +kernel
theorem dX8_doubtFor_4 : decode cX8_doubtFor 4 = .ok (.iload_n 1, 1) := by decide +kernel
theorem dX8_doubtFor_5 : decode cX8_doubtFor 5 = .ok (.iaload, 1) := by decide +kernel
theorem dX8_doubtFor_6 : decode cX8_doubtFor 6 = .ok (.istore_n 3, 1) := by decide +kernel
theorem dX8_doubtFor_7 : decode cX8_doubtFor 7 = .ok (.iconst 0, 1) := by decide +kernel
theorem dX8_doubtFor_8 : decode cX8_doubtFor 8 = .ok (.istore 4, 2) := by decide +kernel
theorem dX8_doubtFor_10 : decode cX8_doubtFor 10 = .ok (.iload 4, 2) := by decide +kernel
theorem dX8_doubtFor_12 : decode cX8_doubtFor 12 = .ok (.bipush 6, 2) := by decide +kernel
theorem dX8_doubtFor_14 : decode cX8_doubtFor 14 = .ok (.if_icmp .ge 135, 3) := by decide +kernel
theorem dX8_doubtFor_17 : decode cX8_doubtFor 17 = .ok (.aload_n 0, 1) := by decide +kernel
theorem dX8_doubtFor_18 : decode cX8_doubtFor 18 = .ok (.iload_n 3, 1) := by decide +kernel
theorem dX8_doubtFor_19 : decode cX8_doubtFor 19 = .ok (.iload 4, 2) := by decide +kernel
theorem dX8_doubtFor_21 : decode cX8_doubtFor 21 = .ok (.invokevirtual 155, 3) := by decide +kernel
theorem dX8_doubtFor_24 : decode cX8_doubtFor 24 = .ok (.istore 5, 2) := by decide +kernel
theorem dX8_doubtFor_26 : decode cX8_doubtFor 26 = .ok (.iload 5, 2) := by decide +kernel
theorem dX8_doubtFor_28 : decode cX8_doubtFor 28 = .ok (.ifCond .eq 19, 3) := by decide +kernel
theorem dX8_doubtFor_31 : decode cX8_doubtFor 31 = .ok (.iload 5, 2) := by decide +kernel
theorem dX8_doubtFor_33 : decode cX8_doubtFor 33 = .ok (.aload_n 0, 1) := by decide +kernel
theorem dX8_doubtFor_34 : decode cX8_doubtFor 34 = .ok (.getfield 19, 3) := by decide +kernel
theorem dX8_doubtFor_37 : decode cX8_doubtFor 37 = .ok (.iload 4, 2) := by decide +kernel
theorem dX8_doubtFor_39 : decode cX8_doubtFor 39 = .ok (.iaload, 1) := by decide +kernel
theorem dX8_doubtFor_40 : decode cX8_doubtFor 40 = .ok (.if_icmp .eq 7, 3) := by decide +kernel
theorem dX8_doubtFor_43 : decode cX8_doubtFor 43 = .ok (.iconst 1, 1) := by decide +kernel
theorem dX8_doubtFor_44 : decode cX8_doubtFor 44 = .ok (.goto 4, 3) := by decide +kernel
theorem dX8_doubtFor_47 : decode cX8_doubtFor 47 = .ok (.iconst 0, 1) := by decide +kernel
theorem dX8_doubtFor_48 : decode cX8_doubtFor 48 = .ok (.istore 6, 2) := by decide +kernel
theorem dX8_doubtFor_50 : decode cX8_doubtFor 50 = .ok (.iconst 0, 1) := by decide +kernel
theorem dX8_doubtFor_51 : decode cX8_doubtFor 51 = .ok (.istore 7, 2) := by decide +kernel
theorem dX8_doubtFor_53 : decode cX8_doubtFor 53 = .ok (.iload 7, 2) := by decide +kernel
theorem dX8_doubtFor_55 : decode cX8_doubtFor 55 = .ok (.bipush 10, 2) := by decide +kernel
theorem dX8_doubtFor_57 : decode cX8_doubtFor 57 = .ok (.if_icmp .ge 64, 3) := by decide +kernel
theorem dX8_doubtFor_60 : decode cX8_doubtFor 60 = .ok (.bipush 10, 2) := by decide +kernel
theorem dX8_doubtFor_62 : decode cX8_doubtFor 62 = .ok (.iload_n 3, 1) := by decide +kernel
theorem dX8_doubtFor_63 : decode cX8_doubtFor 63 = .ok (.iconst 1, 1) := by decide +kernel
theorem dX8_doubtFor_64 : decode cX8_doubtFor 64 = .ok (.iadd, 1) := by decide +kernel
theorem dX8_doubtFor_65 : decode cX8_doubtFor 65 = .ok (.imul, 1) := by decide +kernel
theorem dX8_doubtFor_66 : decode cX8_doubtFor 66 = .ok (.iload 7, 2) := by decide +kernel
theorem dX8_doubtFor_68 : decode cX8_doubtFor 68 = .ok (.iadd, 1) := by decide +kernel
theorem dX8_doubtFor_69 : decode cX8_doubtFor 69 = .ok (.istore 8, 2) := by decide +kernel
theorem dX8_doubtFor_71 : decode cX8_doubtFor 71 = .ok (.iload 6, 2) := by decide +kernel
theorem dX8_doubtFor_73 : decode cX8_doubtFor 73 = .ok (.ifCond .ne 35, 3) := by decide +kernel
theorem dX8_doubtFor_76 : decode cX8_doubtFor 76 = .ok (.iload_n 2, 1) := by decide +kernel
theorem dX8_doubtFor_77 : decode cX8_doubtFor 77 = .ok (.iload 7, 2) := by decide +kernel
theorem dX8_doubtFor_79 : decode cX8_doubtFor 79 = .ok (.ishr, 1) := by decide +kernel
theorem dX8_doubtFor_80 : decode cX8_doubtFor 80 = .ok (.iconst 1, 1) := by decide +kernel
theorem dX8_doubtFor_81 : decode cX8_doubtFor 81 = .ok (.iand, 1) := by decide +kernel
theorem dX8_doubtFor_82 : decode cX8_doubtFor 82 = .ok (.iconst 1, 1) := by decide +kernel
theorem dX8_doubtFor_83 : decode cX8_doubtFor 83 = .ok (.if_icmp .ne 29, 3) := by decide +kernel
theorem dX8_doubtFor_86 : decode cX8_doubtFor 86 = .ok (.aload_n 0, 1) := by decide +kernel
theorem dX8_doubtFor_87 : decode cX8_doubtFor 87 = .ok (.iload 8, 2) := by decide +kernel
theorem dX8_doubtFor_89 : decode cX8_doubtFor 89 = .ok (.iload 7, 2) := by decide +kernel
theorem dX8_doubtFor_91 : decode cX8_doubtFor 91 = .ok (.invokevirtual 159, 3) := by decide +kernel
theorem dX8_doubtFor_94 : decode cX8_doubtFor 94 = .ok (.ifCond .eq 18, 3) := by decide +kernel
theorem dX8_doubtFor_97 : decode cX8_doubtFor 97 = .ok (.aload_n 0, 1) := by decide +kernel
theorem dX8_doubtFor_98 : decode cX8_doubtFor 98 = .ok (.iload 8, 2) := by decide +kernel
theorem dX8_doubtFor_100 : decode cX8_doubtFor 100 = .ok (.iload 4, 2) := by decide +kernel
theorem dX8_doubtFor_102 : decode cX8_doubtFor 102 = .ok (.invokevirtual 145, 3) := by decide +kernel
theorem dX8_doubtFor_105 : decode cX8_doubtFor 105 = .ok (.ifCond .eq 7, 3) := by decide +kernel
theorem dX8_doubtFor_108 : decode cX8_doubtFor 108 = .ok (.iconst 1, 1) := by decide +kernel
theorem dX8_doubtFor_109 : decode cX8_doubtFor 109 = .ok (.goto 4, 3) := by decide +kernel
theorem dX8_doubtFor_112 : decode cX8_doubtFor 112 = .ok (.iconst 0, 1) := by decide +kernel
theorem dX8_doubtFor_113 : decode cX8_doubtFor 113 = .ok (.istore 6, 2) := by decide +kernel
theorem dX8_doubtFor_115 : decode cX8_doubtFor 115 = .ok (.iinc 7 1, 3) := by decide +kernel
theorem dX8_doubtFor_118 : decode cX8_doubtFor 118 = .ok (.goto (-65), 3) := by decide +kernel
theorem dX8_doubtFor_121 : decode cX8_doubtFor 121 = .ok (.aload_n 0, 1) := by decide +kernel
theorem dX8_doubtFor_122 : decode cX8_doubtFor 122 = .ok (.getfield 35, 3) := by decide +kernel
theorem dX8_doubtFor_125 : decode cX8_doubtFor 125 = .ok (.iload_n 1, 1) := by decide +kernel
theorem dX8_doubtFor_126 : decode cX8_doubtFor 126 = .ok (.dup2, 1) := by decide +kernel
theorem dX8_doubtFor_127 : decode cX8_doubtFor 127 = .ok (.iaload, 1) := by decide +kernel
theorem dX8_doubtFor_128 : decode cX8_doubtFor 128 = .ok (.iload 6, 2) := by decide +kernel
theorem dX8_doubtFor_130 : decode cX8_doubtFor 130 = .ok (.ifCond .eq 10, 3) := by decide +kernel
theorem dX8_doubtFor_133 : decode cX8_doubtFor 133 = .ok (.iconst 1, 1) := by decide +kernel
theorem dX8_doubtFor_134 : decode cX8_doubtFor 134 = .ok (.iload 4, 2) := by decide +kernel
theorem dX8_doubtFor_136 : decode cX8_doubtFor 136 = .ok (.ishl, 1) := by decide +kernel
theorem dX8_doubtFor_137 : decode cX8_doubtFor 137 = .ok (.goto 4, 3) := by decide +kernel
theorem dX8_doubtFor_140 : decode cX8_doubtFor 140 = .ok (.iconst 0, 1) := by decide +kernel
theorem dX8_doubtFor_141 : decode cX8_doubtFor 141 = .ok (.ior, 1) := by decide +kernel
theorem dX8_doubtFor_142 : decode cX8_doubtFor 142 = .ok (.iastore, 1) := by decide +kernel
theorem dX8_doubtFor_143 : decode cX8_doubtFor 143 = .ok (.iinc 4 1, 3) := by decide +kernel
theorem dX8_doubtFor_146 : decode cX8_doubtFor 146 = .ok (.goto (-136), 3) := by decide +kernel
theorem dX8_doubtFor_149 : decode cX8_doubtFor 149 = .ok (.aload_n 0, 1) := by decide +kernel
theorem dX8_doubtFor_150 : decode cX8_doubtFor 150 = .ok (.getfield 22, 3) := by decide +kernel
theorem dX8_doubtFor_153 : decode cX8_doubtFor 153 = .ok (.iload_n 1, 1) := by decide +kernel
theorem dX8_doubtFor_154 : decode cX8_doubtFor 154 = .ok (.aload_n 0, 1) := by decide +kernel
theorem dX8_doubtFor_155 : decode cX8_doubtFor 155 = .ok (.getfield 35, 3) := by decide +kernel
theorem dX8_doubtFor_158 : decode cX8_doubtFor 158 = .ok (.iload_n 1, 1) := by decide +kernel
theorem dX8_doubtFor_159 : decode cX8_doubtFor 159 = .ok (.iaload, 1) := by decide +kernel
theorem dX8_doubtFor_160 : decode cX8_doubtFor 160 = .ok (.ifCond .le 7, 3) := by decide +kernel
theorem dX8_doubtFor_163 : decode cX8_doubtFor 163 = .ok (.iconst 3, 1) := by decide +kernel
theorem dX8_doubtFor_164 : decode cX8_doubtFor 164 = .ok (.goto 9, 3) := by decide +kernel
theorem dX8_doubtFor_167 : decode cX8_doubtFor 167 = .ok (.aload_n 0, 1) := by decide +kernel
theorem dX8_doubtFor_168 : decode cX8_doubtFor 168 = .ok (.getfield 22, 3) := by decide +kernel
theorem dX8_doubtFor_171 : decode cX8_doubtFor 171 = .ok (.iload_n 1, 1) := by decide +kernel
theorem dX8_doubtFor_172 : decode cX8_doubtFor 172 = .ok (.iaload, 1) := by decide +kernel
theorem dX8_doubtFor_173 : decode cX8_doubtFor 173 = .ok (.iastore, 1) := by decide +kernel
theorem dX8_doubtFor_174 : decode cX8_doubtFor 174 = .ok (.return_, 1) := by decide +kernel
theorem dX8_publish_0 : decode cX8_publish 0 = .ok (.aload_n 0, 1) := by decide +kernel
theorem dX8_publish_1 : decode cX8_publish 1 = .ok (.aload_n 0, 1) := by decide +kernel
theorem dX8_publish_2 : decode cX8_publish 2 = .ok (.getfield 162, 3) := by decide +kernel
theorem dX8_publish_5 : decode cX8_publish 5 = .ok (.bipush 10, 2) := by decide +kernel
theorem dX8_publish_7 : decode cX8_publish 7 = .ok (.if_icmp .ne 7, 3) := by decide +kernel
theorem dX8_publish_10 : decode cX8_publish 10 = .ok (.iconst 1, 1) := by decide +kernel
theorem dX8_publish_11 : decode cX8_publish 11 = .ok (.goto 4, 3) := by decide +kernel
theorem dX8_publish_14 : decode cX8_publish 14 = .ok (.iconst 0, 1) := by decide +kernel
theorem dX8_publish_15 : decode cX8_publish 15 = .ok (.putfield 66, 3) := by decide +kernel
theorem dX8_publish_18 : decode cX8_publish 18 = .ok (.aload_n 0, 1) := by decide +kernel
theorem dX8_publish_19 : decode cX8_publish 19 = .ok (.getfield 66, 3) := by decide +kernel
theorem dX8_publish_22 : decode cX8_publish 22 = .ok (.ifCond .le 5, 3) := by decide +kernel
theorem dX8_publish_25 : decode cX8_publish 25 = .ok (.iconst 0, 1) := by decide +kernel
theorem dX8_publish_26 : decode cX8_publish 26 = .ok (.ireturn, 1) := by decide +kernel
theorem dX8_publish_27 : decode cX8_publish 27 = .ok (.iconst 0, 1) := by decide +kernel
theorem dX8_publish_28 : decode cX8_publish 28 = .ok (.istore_n 1, 1) := by decide +kernel
theorem dX8_publish_29 : decode cX8_publish 29 = .ok (.iconst 0, 1) := by decide +kernel
theorem dX8_publish_30 : decode cX8_publish 30 = .ok (.istore_n 2, 1) := by decide +kernel
theorem dX8_publish_31 : decode cX8_publish 31 = .ok (.iload_n 2, 1) := by decide +kernel
theorem dX8_publish_32 : decode cX8_publish 32 = .ok (.bipush 10, 2) := by decide +kernel
theorem dX8_publish_34 : decode cX8_publish 34 = .ok (.if_icmp .ge 27, 3) := by decide +kernel
theorem dX8_publish_37 : decode cX8_publish 37 = .ok (.iload_n 1, 1) := by decide +kernel
theorem dX8_publish_38 : decode cX8_publish 38 = .ok (.aload_n 0, 1) := by decide +kernel
theorem dX8_publish_39 : decode cX8_publish 39 = .ok (.iload_n 2, 1) := by decide +kernel
theorem dX8_publish_40 : decode cX8_publish 40 = .ok (.invokevirtual 136, 3) := by decide +kernel
theorem dX8_publish_43 : decode cX8_publish 43 = .ok (.ifCond .eq 9, 3) := by decide +kernel
theorem dX8_publish_46 : decode cX8_publish 46 = .ok (.iconst 1, 1) := by decide +kernel
theorem dX8_publish_47 : decode cX8_publish 47 = .ok (.iload_n 2, 1) := by decide +kernel
theorem dX8_publish_48 : decode cX8_publish 48 = .ok (.ishl, 1) := by decide +kernel
theorem dX8_publish_49 : decode cX8_publish 49 = .ok (.goto 4, 3) := by decide +kernel
theorem dX8_publish_52 : decode cX8_publish 52 = .ok (.iconst 0, 1) := by decide +kernel
theorem dX8_publish_53 : decode cX8_publish 53 = .ok (.ior, 1) := by decide +kernel
theorem dX8_publish_54 : decode cX8_publish 54 = .ok (.istore_n 1, 1) := by decide +kernel
theorem dX8_publish_55 : decode cX8_publish 55 = .ok (.iinc 2 1, 3) := by decide +kernel
theorem dX8_publish_58 : decode cX8_publish 58 = .ok (.goto (-27), 3) := by decide +kernel
theorem dX8_publish_61 : decode cX8_publish 61 = .ok (.iconst 0, 1) := by decide +kernel
theorem dX8_publish_62 : decode cX8_publish 62 = .ok (.istore_n 2, 1) := by decide +kernel
theorem dX8_publish_63 : decode cX8_publish 63 = .ok (.iload_n 2, 1) := by decide +kernel
theorem dX8_publish_64 : decode cX8_publish 64 = .ok (.aload_n 0, 1) := by decide +kernel
theorem dX8_publish_65 : decode cX8_publish 65 = .ok (.getfield 165, 3) := by decide +kernel
theorem dX8_publish_68 : decode cX8_publish 68 = .ok (.if_icmp .ge 35, 3) := by decide +kernel
theorem dX8_publish_71 : decode cX8_publish 71 = .ok (.aload_n 0, 1) := by decide +kernel
theorem dX8_publish_72 : decode cX8_publish 72 = .ok (.getfield 22, 3) := by decide +kernel
theorem dX8_publish_75 : decode cX8_publish 75 = .ok (.iload_n 2, 1) := by decide +kernel
theorem dX8_publish_76 : decode cX8_publish 76 = .ok (.iaload, 1) := by decide +kernel
theorem dX8_publish_77 : decode cX8_publish 77 = .ok (.iconst 1, 1) := by decide +kernel
theorem dX8_publish_78 : decode cX8_publish 78 = .ok (.if_icmp .eq 13, 3) := by decide +kernel
theorem dX8_publish_81 : decode cX8_publish 81 = .ok (.aload_n 0, 1) := by decide +kernel
theorem dX8_publish_82 : decode cX8_publish 82 = .ok (.getfield 22, 3) := by decide +kernel
theorem dX8_publish_85 : decode cX8_publish 85 = .ok (.iload_n 2, 1) := by decide +kernel
theorem dX8_publish_86 : decode cX8_publish 86 = .ok (.iaload, 1) := by decide +kernel
theorem dX8_publish_87 : decode cX8_publish 87 = .ok (.iconst 3, 1) := by decide +kernel
theorem dX8_publish_88 : decode cX8_publish 88 = .ok (.if_icmp .ne 9, 3) := by decide +kernel
theorem dX8_publish_91 : decode cX8_publish 91 = .ok (.aload_n 0, 1) := by decide +kernel
theorem dX8_publish_92 : decode cX8_publish 92 = .ok (.iload_n 2, 1) := by decide +kernel
theorem dX8_publish_93 : decode cX8_publish 93 = .ok (.iload_n 1, 1) := by decide +kernel
theorem dX8_publish_94 : decode cX8_publish 94 = .ok (.invokevirtual 168, 3) := by decide +kernel
theorem dX8_publish_97 : decode cX8_publish 97 = .ok (.iinc 2 1, 3) := by decide +kernel
theorem dX8_publish_100 : decode cX8_publish 100 = .ok (.goto (-37), 3) := by decide +kernel
theorem dX8_publish_103 : decode cX8_publish 103 = .ok (.aload_n 0, 1) := by decide +kernel
theorem dX8_publish_104 : decode cX8_publish 104 = .ok (.getfield 162, 3) := by decide +kernel
theorem dX8_publish_107 : decode cX8_publish 107 = .ok (.istore_n 2, 1) := by decide +kernel
theorem dX8_publish_108 : decode cX8_publish 108 = .ok (.aload_n 0, 1) := by decide +kernel
theorem dX8_publish_109 : decode cX8_publish 109 = .ok (.dup, 1) := by decide +kernel
theorem dX8_publish_110 : decode cX8_publish 110 = .ok (.getfield 162, 3) := by decide +kernel
theorem dX8_publish_113 : decode cX8_publish 113 = .ok (.iconst 1, 1) := by decide +kernel
theorem dX8_publish_114 : decode cX8_publish 114 = .ok (.iadd, 1) := by decide +kernel
theorem dX8_publish_115 : decode cX8_publish 115 = .ok (.putfield 162, 3) := by decide +kernel
theorem dX8_publish_118 : decode cX8_publish 118 = .ok (.iconst 0, 1) := by decide +kernel
theorem dX8_publish_119 : decode cX8_publish 119 = .ok (.istore_n 3, 1) := by decide +kernel
theorem dX8_publish_120 : decode cX8_publish 120 = .ok (.iload_n 3, 1) := by decide +kernel
theorem dX8_publish_121 : decode cX8_publish 121 = .ok (.bipush 6, 2) := by decide +kernel
theorem dX8_publish_123 : decode cX8_publish 123 = .ok (.if_icmp .ge 28, 3) := by decide +kernel
theorem dX8_publish_126 : decode cX8_publish 126 = .ok (.aload_n 0, 1) := by decide +kernel
theorem dX8_publish_127 : decode cX8_publish 127 = .ok (.getfield 19, 3) := by decide +kernel
theorem dX8_publish_130 : decode cX8_publish 130 = .ok (.bipush 6, 2) := by decide +kernel
theorem dX8_publish_132 : decode cX8_publish 132 = .ok (.iload_n 2, 1) := by decide +kernel
theorem dX8_publish_133 : decode cX8_publish 133 = .ok (.iconst 1, 1) := by decide +kernel
theorem dX8_publish_134 : decode cX8_publish 134 = .ok (.iadd, 1) := by decide +kernel
theorem dX8_publish_135 : decode cX8_publish 135 = .ok (.imul, 1) := by decide +kernel
theorem dX8_publish_136 : decode cX8_publish 136 = .ok (.iload_n 3, 1) := by decide +kernel
theorem dX8_publish_137 : decode cX8_publish 137 = .ok (.iadd, 1) := by decide +kernel
theorem dX8_publish_138 : decode cX8_publish 138 = .ok (.aload_n 0, 1) := by decide +kernel
theorem dX8_publish_139 : decode cX8_publish 139 = .ok (.getfield 19, 3) := by decide +kernel
theorem dX8_publish_142 : decode cX8_publish 142 = .ok (.iload_n 3, 1) := by decide +kernel
theorem dX8_publish_143 : decode cX8_publish 143 = .ok (.iaload, 1) := by decide +kernel
theorem dX8_publish_144 : decode cX8_publish 144 = .ok (.iastore, 1) := by decide +kernel
theorem dX8_publish_145 : decode cX8_publish 145 = .ok (.iinc 3 1, 3) := by decide +kernel
theorem dX8_publish_148 : decode cX8_publish 148 = .ok (.goto (-28), 3) := by decide +kernel
theorem dX8_publish_151 : decode cX8_publish 151 = .ok (.iconst 0, 1) := by decide +kernel
theorem dX8_publish_152 : decode cX8_publish 152 = .ok (.istore_n 3, 1) := by decide +kernel
theorem dX8_publish_153 : decode cX8_publish 153 = .ok (.iload_n 3, 1) := by decide +kernel
theorem dX8_publish_154 : decode cX8_publish 154 = .ok (.bipush 10, 2) := by decide +kernel
theorem dX8_publish_156 : decode cX8_publish 156 = .ok (.if_icmp .ge 103, 3) := by decide +kernel
theorem dX8_publish_159 : decode cX8_publish 159 = .ok (.bipush 10, 2) := by decide +kernel
theorem dX8_publish_161 : decode cX8_publish 161 = .ok (.iload_n 2, 1) := by decide +kernel
theorem dX8_publish_162 : decode cX8_publish 162 = .ok (.iconst 1, 1) := by decide +kernel
theorem dX8_publish_163 : decode cX8_publish 163 = .ok (.iadd, 1) := by decide +kernel
theorem dX8_publish_164 : decode cX8_publish 164 = .ok (.imul, 1) := by decide +kernel
theorem dX8_publish_165 : decode cX8_publish 165 = .ok (.iload_n 3, 1) := by decide +kernel
theorem dX8_publish_166 : decode cX8_publish 166 = .ok (.iadd, 1) := by decide +kernel
theorem dX8_publish_167 : decode cX8_publish 167 = .ok (.istore 4, 2) := by decide +kernel
theorem dX8_publish_169 : decode cX8_publish 169 = .ok (.aload_n 0, 1) := by decide +kernel
theorem dX8_publish_170 : decode cX8_publish 170 = .ok (.getfield 16, 3) := by decide +kernel
theorem dX8_publish_173 : decode cX8_publish 173 = .ok (.iload_n 3, 1) := by decide +kernel
theorem dX8_publish_174 : decode cX8_publish 174 = .ok (.iload_n 1, 1) := by decide +kernel
theorem dX8_publish_175 : decode cX8_publish 175 = .ok (.iload_n 3, 1) := by decide +kernel
theorem dX8_publish_176 : decode cX8_publish 176 = .ok (.ishr, 1) := by decide +kernel
theorem dX8_publish_177 : decode cX8_publish 177 = .ok (.iconst 1, 1) := by decide +kernel
theorem dX8_publish_178 : decode cX8_publish 178 = .ok (.iand, 1) := by decide +kernel
theorem dX8_publish_179 : decode cX8_publish 179 = .ok (.iconst 1, 1) := by decide +kernel
theorem dX8_publish_180 : decode cX8_publish 180 = .ok (.if_icmp .ne 7, 3) := by decide +kernel
theorem dX8_publish_183 : decode cX8_publish 183 = .ok (.iconst 0, 1) := by decide +kernel
theorem dX8_publish_184 : decode cX8_publish 184 = .ok (.goto 9, 3) := by decide +kernel
theorem dX8_publish_187 : decode cX8_publish 187 = .ok (.aload_n 0, 1) := by decide +kernel
theorem dX8_publish_188 : decode cX8_publish 188 = .ok (.getfield 16, 3) := by decide +kernel
theorem dX8_publish_191 : decode cX8_publish 191 = .ok (.iload_n 3, 1) := by decide +kernel
theorem dX8_publish_192 : decode cX8_publish 192 = .ok (.iaload, 1) := by decide +kernel
theorem dX8_publish_193 : decode cX8_publish 193 = .ok (.iastore, 1) := by decide +kernel
theorem dX8_publish_194 : decode cX8_publish 194 = .ok (.aload_n 0, 1) := by decide +kernel
theorem dX8_publish_195 : decode cX8_publish 195 = .ok (.getfield 16, 3) := by decide +kernel
theorem dX8_publish_198 : decode cX8_publish 198 = .ok (.iload 4, 2) := by decide +kernel
theorem dX8_publish_200 : decode cX8_publish 200 = .ok (.aload_n 0, 1) := by decide +kernel
theorem dX8_publish_201 : decode cX8_publish 201 = .ok (.getfield 16, 3) := by decide +kernel
theorem dX8_publish_204 : decode cX8_publish 204 = .ok (.iload_n 3, 1) := by decide +kernel
theorem dX8_publish_205 : decode cX8_publish 205 = .ok (.iaload, 1) := by decide +kernel
theorem dX8_publish_206 : decode cX8_publish 206 = .ok (.iastore, 1) := by decide +kernel
theorem dX8_publish_207 : decode cX8_publish 207 = .ok (.iconst 0, 1) := by decide +kernel
theorem dX8_publish_208 : decode cX8_publish 208 = .ok (.istore 5, 2) := by decide +kernel
theorem dX8_publish_210 : decode cX8_publish 210 = .ok (.iload 5, 2) := by decide +kernel
theorem dX8_publish_212 : decode cX8_publish 212 = .ok (.aload_n 0, 1) := by decide +kernel
theorem dX8_publish_213 : decode cX8_publish 213 = .ok (.getfield 16, 3) := by decide +kernel
theorem dX8_publish_216 : decode cX8_publish 216 = .ok (.iload 4, 2) := by decide +kernel
theorem dX8_publish_218 : decode cX8_publish 218 = .ok (.iaload, 1) := by decide +kernel
theorem dX8_publish_219 : decode cX8_publish 219 = .ok (.if_icmp .ge 34, 3) := by decide +kernel
theorem dX8_publish_222 : decode cX8_publish 222 = .ok (.aload_n 0, 1) := by decide +kernel
theorem dX8_publish_223 : decode cX8_publish 223 = .ok (.getfield 13, 3) := by decide +kernel
theorem dX8_publish_226 : decode cX8_publish 226 = .ok (.bipush 40, 2) := by decide +kernel
theorem dX8_publish_228 : decode cX8_publish 228 = .ok (.iload 4, 2) := by decide +kernel
theorem dX8_publish_230 : decode cX8_publish 230 = .ok (.imul, 1) := by decide +kernel
theorem dX8_publish_231 : decode cX8_publish 231 = .ok (.iload 5, 2) := by decide +kernel
theorem dX8_publish_233 : decode cX8_publish 233 = .ok (.iadd, 1) := by decide +kernel
theorem dX8_publish_234 : decode cX8_publish 234 = .ok (.aload_n 0, 1) := by decide +kernel
theorem dX8_publish_235 : decode cX8_publish 235 = .ok (.getfield 13, 3) := by decide +kernel
theorem dX8_publish_238 : decode cX8_publish 238 = .ok (.bipush 40, 2) := by decide +kernel
theorem dX8_publish_240 : decode cX8_publish 240 = .ok (.iload_n 3, 1) := by decide +kernel
theorem dX8_publish_241 : decode cX8_publish 241 = .ok (.imul, 1) := by decide +kernel
theorem dX8_publish_242 : decode cX8_publish 242 = .ok (.iload 5, 2) := by decide +kernel
theorem dX8_publish_244 : decode cX8_publish 244 = .ok (.iadd, 1) := by decide +kernel
theorem dX8_publish_245 : decode cX8_publish 245 = .ok (.iaload, 1) := by decide +kernel
theorem dX8_publish_246 : decode cX8_publish 246 = .ok (.iastore, 1) := by decide +kernel
theorem dX8_publish_247 : decode cX8_publish 247 = .ok (.iinc 5 1, 3) := by decide +kernel
theorem dX8_publish_250 : decode cX8_publish 250 = .ok (.goto (-40), 3) := by decide +kernel
theorem dX8_publish_253 : decode cX8_publish 253 = .ok (.iinc 3 1, 3) := by decide +kernel
theorem dX8_publish_256 : decode cX8_publish 256 = .ok (.goto (-103), 3) := by decide +kernel
theorem dX8_publish_259 : decode cX8_publish 259 = .ok (.iload_n 2, 1) := by decide +kernel
theorem dX8_publish_260 : decode cX8_publish 260 = .ok (.ireturn, 1) := by decide +kernel
theorem dX8_isVersion_0 : decode cX8_isVersion 0 = .ok (.iload_n 1, 1) := by decide +kernel
theorem dX8_isVersion_1 : decode cX8_isVersion 1 = .ok (.iconst 0, 1) := by decide +kernel
theorem dX8_isVersion_2 : decode cX8_isVersion 2 = .ok (.aload_n 0, 1) := by decide +kernel
theorem dX8_isVersion_3 : decode cX8_isVersion 3 = .ok (.getfield 162, 3) := by decide +kernel
theorem dX8_isVersion_6 : decode cX8_isVersion 6 = .ok (.iconst 1, 1) := by decide +kernel
theorem dX8_isVersion_7 : decode cX8_isVersion 7 = .ok (.isub, 1) := by decide +kernel
theorem dX8_isVersion_8 : decode cX8_isVersion 8 = .ok (.invokestatic 69, 3) := by decide +kernel
theorem dX8_isVersion_11 : decode cX8_isVersion 11 = .ok (.ireturn, 1) := by decide +kernel
theorem dX8_versions_0 : decode cX8_versions 0 = .ok (.aload_n 0, 1) := by decide +kernel
theorem dX8_versions_1 : decode cX8_versions 1 = .ok (.iconst 0, 1) := by decide +kernel
theorem dX8_versions_2 : decode cX8_versions 2 = .ok (.putfield 66, 3) := by decide +kernel
theorem dX8_versions_5 : decode cX8_versions 5 = .ok (.aload_n 0, 1) := by decide +kernel
theorem dX8_versions_6 : decode cX8_versions 6 = .ok (.getfield 162, 3) := by decide +kernel
theorem dX8_versions_9 : decode cX8_versions 9 = .ok (.ireturn, 1) := by decide +kernel
theorem dX8_typeIn_0 : decode cX8_typeIn 0 = .ok (.aload_n 0, 1) := by decide +kernel
theorem dX8_typeIn_1 : decode cX8_typeIn 1 = .ok (.aload_n 0, 1) := by decide +kernel
theorem dX8_typeIn_2 : decode cX8_typeIn 2 = .ok (.iload_n 1, 1) := by decide +kernel
theorem dX8_typeIn_3 : decode cX8_typeIn 3 = .ok (.invokevirtual 172, 3) := by decide +kernel
theorem dX8_typeIn_6 : decode cX8_typeIn 6 = .ok (.ifCond .eq 14, 3) := by decide +kernel
theorem dX8_typeIn_9 : decode cX8_typeIn 9 = .ok (.iload_n 2, 1) := by decide +kernel
theorem dX8_typeIn_10 : decode cX8_typeIn 10 = .ok (.invokestatic 139, 3) := by decide +kernel
theorem dX8_typeIn_13 : decode cX8_typeIn 13 = .ok (.ifCond .eq 7, 3) := by decide +kernel
theorem dX8_typeIn_16 : decode cX8_typeIn 16 = .ok (.iconst 0, 1) := by decide +kernel
theorem dX8_typeIn_17 : decode cX8_typeIn 17 = .ok (.goto 4, 3) := by decide +kernel
theorem dX8_typeIn_20 : decode cX8_typeIn 20 = .ok (.iconst 1, 1) := by decide +kernel
theorem dX8_typeIn_21 : decode cX8_typeIn 21 = .ok (.putfield 66, 3) := by decide +kernel
theorem dX8_typeIn_24 : decode cX8_typeIn 24 = .ok (.aload_n 0, 1) := by decide +kernel
theorem dX8_typeIn_25 : decode cX8_typeIn 25 = .ok (.getfield 66, 3) := by decide +kernel
theorem dX8_typeIn_28 : decode cX8_typeIn 28 = .ok (.ifCond .ne 12, 3) := by decide +kernel
theorem dX8_typeIn_31 : decode cX8_typeIn 31 = .ok (.aload_n 0, 1) := by decide +kernel
theorem dX8_typeIn_32 : decode cX8_typeIn 32 = .ok (.iload_n 1, 1) := by decide +kernel
theorem dX8_typeIn_33 : decode cX8_typeIn 33 = .ok (.iload_n 2, 1) := by decide +kernel
theorem dX8_typeIn_34 : decode cX8_typeIn 34 = .ok (.invokevirtual 155, 3) := by decide +kernel
theorem dX8_typeIn_37 : decode cX8_typeIn 37 = .ok (.goto 4, 3) := by decide +kernel
theorem dX8_typeIn_40 : decode cX8_typeIn 40 = .ok (.iconst 0, 1) := by decide +kernel
theorem dX8_typeIn_41 : decode cX8_typeIn 41 = .ok (.ireturn, 1) := by decide +kernel
theorem dX8_isComputed_0 : decode cX8_isComputed 0 = .ok (.aload_n 0, 1) := by decide +kernel
theorem dX8_isComputed_1 : decode cX8_isComputed 1 = .ok (.getfield 16, 3) := by decide +kernel
theorem dX8_isComputed_4 : decode cX8_isComputed 4 = .ok (.bipush 10, 2) := by decide +kernel
theorem dX8_isComputed_6 : decode cX8_isComputed 6 = .ok (.iload_n 1, 1) := by decide +kernel
theorem dX8_isComputed_7 : decode cX8_isComputed 7 = .ok (.iconst 1, 1) := by decide +kernel
theorem dX8_isComputed_8 : decode cX8_isComputed 8 = .ok (.iadd, 1) := by decide +kernel
theorem dX8_isComputed_9 : decode cX8_isComputed 9 = .ok (.imul, 1) := by decide +kernel
theorem dX8_isComputed_10 : decode cX8_isComputed 10 = .ok (.iload_n 2, 1) := by decide +kernel
theorem dX8_isComputed_11 : decode cX8_isComputed 11 = .ok (.iadd, 1) := by decide +kernel
theorem dX8_isComputed_12 : decode cX8_isComputed 12 = .ok (.iaload, 1) := by decide +kernel
theorem dX8_isComputed_13 : decode cX8_isComputed 13 = .ok (.ifCond .le 7, 3) := by decide +kernel
theorem dX8_isComputed_16 : decode cX8_isComputed 16 = .ok (.iconst 1, 1) := by decide +kernel
theorem dX8_isComputed_17 : decode cX8_isComputed 17 = .ok (.goto 4, 3) := by decide +kernel
theorem dX8_isComputed_20 : decode cX8_isComputed 20 = .ok (.iconst 0, 1) := by decide +kernel
theorem dX8_isComputed_21 : decode cX8_isComputed 21 = .ok (.ireturn, 1) := by decide +kernel
theorem dX8_layOrder_0 : decode cX8_layOrder 0 = .ok (.iconst 0, 1) := by decide +kernel
theorem dX8_layOrder_1 : decode cX8_layOrder 1 = .ok (.istore_n 2, 1) := by decide +kernel
theorem dX8_layOrder_2 : decode cX8_layOrder 2 = .ok (.iconst 0, 1) := by decide +kernel
theorem dX8_layOrder_3 : decode cX8_layOrder 3 = .ok (.istore_n 3, 1) := by decide +kernel
theorem dX8_layOrder_4 : decode cX8_layOrder 4 = .ok (.iconst 0, 1) := by decide +kernel
theorem dX8_layOrder_5 : decode cX8_layOrder 5 = .ok (.istore 4, 2) := by decide +kernel
theorem dX8_layOrder_7 : decode cX8_layOrder 7 = .ok (.iload 4, 2) := by decide +kernel
theorem dX8_layOrder_9 : decode cX8_layOrder 9 = .ok (.bipush 6, 2) := by decide +kernel
theorem dX8_layOrder_11 : decode cX8_layOrder 11 = .ok (.if_icmp .ge 175, 3) := by decide +kernel
theorem dX8_layOrder_14 : decode cX8_layOrder 14 = .ok (.iconst (-1), 1) := by decide +kernel
theorem dX8_layOrder_15 : decode cX8_layOrder 15 = .ok (.istore 5, 2) := by decide +kernel
theorem dX8_layOrder_17 : decode cX8_layOrder 17 = .ok (.iconst 0, 1) := by decide +kernel
theorem dX8_layOrder_18 : decode cX8_layOrder 18 = .ok (.istore 6, 2) := by decide +kernel
theorem dX8_layOrder_20 : decode cX8_layOrder 20 = .ok (.iload 6, 2) := by decide +kernel
theorem dX8_layOrder_22 : decode cX8_layOrder 22 = .ok (.bipush 6, 2) := by decide +kernel
theorem dX8_layOrder_24 : decode cX8_layOrder 24 = .ok (.if_icmp .ge 132, 3) := by decide +kernel
theorem dX8_layOrder_27 : decode cX8_layOrder 27 = .ok (.iload 5, 2) := by decide +kernel
theorem dX8_layOrder_29 : decode cX8_layOrder 29 = .ok (.iconst (-1), 1) := by decide +kernel
theorem dX8_layOrder_30 : decode cX8_layOrder 30 = .ok (.if_icmp .ne 126, 3) := by decide +kernel
theorem dX8_layOrder_33 : decode cX8_layOrder 33 = .ok (.aload_n 0, 1) := by decide +kernel
theorem dX8_layOrder_34 : decode cX8_layOrder 34 = .ok (.iload_n 1, 1) := by decide +kernel
theorem dX8_layOrder_35 : decode cX8_layOrder 35 = .ok (.iload 6, 2) := by decide +kernel
theorem dX8_layOrder_37 : decode cX8_layOrder 37 = .ok (.invokevirtual 175, 3) := by decide +kernel
theorem dX8_layOrder_40 : decode cX8_layOrder 40 = .ok (.ifCond .eq 16, 3) := by decide +kernel
theorem dX8_layOrder_43 : decode cX8_layOrder 43 = .ok (.iload_n 2, 1) := by decide +kernel
theorem dX8_layOrder_44 : decode cX8_layOrder 44 = .ok (.iload 6, 2) := by decide +kernel
theorem dX8_layOrder_46 : decode cX8_layOrder 46 = .ok (.ishr, 1) := by decide +kernel
theorem dX8_layOrder_47 : decode cX8_layOrder 47 = .ok (.iconst 1, 1) := by decide +kernel
theorem dX8_layOrder_48 : decode cX8_layOrder 48 = .ok (.iand, 1) := by decide +kernel
theorem dX8_layOrder_49 : decode cX8_layOrder 49 = .ok (.ifCond .ne 7, 3) := by decide +kernel
theorem dX8_layOrder_52 : decode cX8_layOrder 52 = .ok (.iconst 1, 1) := by decide +kernel
theorem dX8_layOrder_53 : decode cX8_layOrder 53 = .ok (.goto 4, 3) := by decide +kernel
theorem dX8_layOrder_56 : decode cX8_layOrder 56 = .ok (.iconst 0, 1) := by decide +kernel
theorem dX8_layOrder_57 : decode cX8_layOrder 57 = .ok (.istore 7, 2) := by decide +kernel
theorem dX8_layOrder_59 : decode cX8_layOrder 59 = .ok (.iconst 0, 1) := by decide +kernel
theorem dX8_layOrder_60 : decode cX8_layOrder 60 = .ok (.istore 8, 2) := by decide +kernel
theorem dX8_layOrder_62 : decode cX8_layOrder 62 = .ok (.iload 8, 2) := by decide +kernel
theorem dX8_layOrder_64 : decode cX8_layOrder 64 = .ok (.bipush 6, 2) := by decide +kernel
theorem dX8_layOrder_66 : decode cX8_layOrder 66 = .ok (.if_icmp .ge 70, 3) := by decide +kernel
theorem dX8_layOrder_69 : decode cX8_layOrder 69 = .ok (.aload_n 0, 1) := by decide +kernel
theorem dX8_layOrder_70 : decode cX8_layOrder 70 = .ok (.iload_n 1, 1) := by decide +kernel
theorem dX8_layOrder_71 : decode cX8_layOrder 71 = .ok (.iload 8, 2) := by decide +kernel
theorem dX8_layOrder_73 : decode cX8_layOrder 73 = .ok (.invokevirtual 175, 3) := by decide +kernel
theorem dX8_layOrder_76 : decode cX8_layOrder 76 = .ok (.ifCond .eq 16, 3) := by decide +kernel
theorem dX8_layOrder_79 : decode cX8_layOrder 79 = .ok (.iload_n 2, 1) := by decide +kernel
theorem dX8_layOrder_80 : decode cX8_layOrder 80 = .ok (.iload 8, 2) := by decide +kernel
theorem dX8_layOrder_82 : decode cX8_layOrder 82 = .ok (.ishr, 1) := by decide +kernel
theorem dX8_layOrder_83 : decode cX8_layOrder 83 = .ok (.iconst 1, 1) := by decide +kernel
theorem dX8_layOrder_84 : decode cX8_layOrder 84 = .ok (.iand, 1) := by decide +kernel
theorem dX8_layOrder_85 : decode cX8_layOrder 85 = .ok (.ifCond .ne 7, 3) := by decide +kernel
theorem dX8_layOrder_88 : decode cX8_layOrder 88 = .ok (.iconst 1, 1) := by decide +kernel
theorem dX8_layOrder_89 : decode cX8_layOrder 89 = .ok (.goto 4, 3) := by decide +kernel
theorem dX8_layOrder_92 : decode cX8_layOrder 92 = .ok (.iconst 0, 1) := by decide +kernel
theorem dX8_layOrder_93 : decode cX8_layOrder 93 = .ok (.istore 9, 2) := by decide +kernel
theorem dX8_layOrder_95 : decode cX8_layOrder 95 = .ok (.iload 7, 2) := by decide +kernel
theorem dX8_layOrder_97 : decode cX8_layOrder 97 = .ok (.ifCond .eq 30, 3) := by decide +kernel
theorem dX8_layOrder_100 : decode cX8_layOrder 100 = .ok (.iload 9, 2) := by decide +kernel
theorem dX8_layOrder_102 : decode cX8_layOrder 102 = .ok (.ifCond .eq 21, 3) := by decide +kernel
theorem dX8_layOrder_105 : decode cX8_layOrder 105 = .ok (.aload_n 0, 1) := by decide +kernel
theorem dX8_layOrder_106 : decode cX8_layOrder 106 = .ok (.bipush 10, 2) := by decide +kernel
theorem dX8_layOrder_108 : decode cX8_layOrder 108 = .ok (.iload_n 1, 1) := by decide +kernel
theorem dX8_layOrder_109 : decode cX8_layOrder 109 = .ok (.iconst 1, 1) := by decide +kernel
theorem dX8_layOrder_110 : decode cX8_layOrder 110 = .ok (.iadd, 1) := by decide +kernel
theorem dX8_layOrder_111 : decode cX8_layOrder 111 = .ok (.imul, 1) := by decide +kernel
theorem dX8_layOrder_112 : decode cX8_layOrder 112 = .ok (.iload 6, 2) := by decide +kernel
theorem dX8_layOrder_114 : decode cX8_layOrder 114 = .ok (.iadd, 1) := by decide +kernel
theorem dX8_layOrder_115 : decode cX8_layOrder 115 = .ok (.iload 8, 2) := by decide +kernel
theorem dX8_layOrder_117 : decode cX8_layOrder 117 = .ok (.invokevirtual 145, 3) := by decide +kernel
theorem dX8_layOrder_120 : decode cX8_layOrder 120 = .ok (.ifCond .ne 7, 3) := by decide +kernel
theorem dX8_layOrder_123 : decode cX8_layOrder 123 = .ok (.iconst 1, 1) := by decide +kernel
theorem dX8_layOrder_124 : decode cX8_layOrder 124 = .ok (.goto 4, 3) := by decide +kernel
theorem dX8_layOrder_127 : decode cX8_layOrder 127 = .ok (.iconst 0, 1) := by decide +kernel
theorem dX8_layOrder_128 : decode cX8_layOrder 128 = .ok (.istore 7, 2) := by decide +kernel
theorem dX8_layOrder_130 : decode cX8_layOrder 130 = .ok (.iinc 8 1, 3) := by decide +kernel
theorem dX8_layOrder_133 : decode cX8_layOrder 133 = .ok (.goto (-71), 3) := by decide +kernel
theorem dX8_layOrder_136 : decode cX8_layOrder 136 = .ok (.iload 7, 2) := by decide +kernel
theorem dX8_layOrder_138 : decode cX8_layOrder 138 = .ok (.ifCond .eq 8, 3) := by decide +kernel
theorem dX8_layOrder_141 : decode cX8_layOrder 141 = .ok (.iload 6, 2) := by decide +kernel
theorem dX8_layOrder_143 : decode cX8_layOrder 143 = .ok (.goto 5, 3) := by decide +kernel
theorem dX8_layOrder_146 : decode cX8_layOrder 146 = .ok (.iload 5, 2) := by decide +kernel
theorem dX8_layOrder_148 : decode cX8_layOrder 148 = .ok (.istore 5, 2) := by decide +kernel
theorem dX8_layOrder_150 : decode cX8_layOrder 150 = .ok (.iinc 6 1, 3) := by decide +kernel
theorem dX8_layOrder_153 : decode cX8_layOrder 153 = .ok (.goto (-133), 3) := by decide +kernel
theorem dX8_layOrder_156 : decode cX8_layOrder 156 = .ok (.iload 5, 2) := by decide +kernel
theorem dX8_layOrder_158 : decode cX8_layOrder 158 = .ok (.iconst (-1), 1) := by decide +kernel
theorem dX8_layOrder_159 : decode cX8_layOrder 159 = .ok (.if_icmp .eq 21, 3) := by decide +kernel
theorem dX8_layOrder_162 : decode cX8_layOrder 162 = .ok (.aload_n 0, 1) := by decide +kernel
theorem dX8_layOrder_163 : decode cX8_layOrder 163 = .ok (.getfield 53, 3) := by decide +kernel
theorem dX8_layOrder_166 : decode cX8_layOrder 166 = .ok (.iload_n 3, 1) := by decide +kernel
theorem dX8_layOrder_167 : decode cX8_layOrder 167 = .ok (.iload 5, 2) := by decide +kernel
theorem dX8_layOrder_169 : decode cX8_layOrder 169 = .ok (.iastore, 1) := by decide +kernel
theorem dX8_layOrder_170 : decode cX8_layOrder 170 = .ok (.iinc 3 1, 3) := by decide +kernel
theorem dX8_layOrder_173 : decode cX8_layOrder 173 = .ok (.iload_n 2, 1) := by decide +kernel
theorem dX8_layOrder_174 : decode cX8_layOrder 174 = .ok (.iconst 1, 1) := by decide +kernel
theorem dX8_layOrder_175 : decode cX8_layOrder 175 = .ok (.iload 5, 2) := by decide +kernel
theorem dX8_layOrder_177 : decode cX8_layOrder 177 = .ok (.ishl, 1) := by decide +kernel
theorem dX8_layOrder_178 : decode cX8_layOrder 178 = .ok (.ior, 1) := by decide +kernel
theorem dX8_layOrder_179 : decode cX8_layOrder 179 = .ok (.istore_n 2, 1) := by decide +kernel
theorem dX8_layOrder_180 : decode cX8_layOrder 180 = .ok (.iinc 4 1, 3) := by decide +kernel
theorem dX8_layOrder_183 : decode cX8_layOrder 183 = .ok (.goto (-176), 3) := by decide +kernel
theorem dX8_layOrder_186 : decode cX8_layOrder 186 = .ok (.iload_n 3, 1) := by decide +kernel
theorem dX8_layOrder_187 : decode cX8_layOrder 187 = .ok (.ireturn, 1) := by decide +kernel
theorem dX8_order_0 : decode cX8_order 0 = .ok (.aload_n 0, 1) := by decide +kernel
theorem dX8_order_1 : decode cX8_order 1 = .ok (.aload_n 0, 1) := by decide +kernel
theorem dX8_order_2 : decode cX8_order 2 = .ok (.iload_n 1, 1) := by decide +kernel
theorem dX8_order_3 : decode cX8_order 3 = .ok (.invokevirtual 172, 3) := by decide +kernel
theorem dX8_order_6 : decode cX8_order 6 = .ok (.ifCond .eq 11, 3) := by decide +kernel
theorem dX8_order_9 : decode cX8_order 9 = .ok (.iload_n 2, 1) := by decide +kernel
theorem dX8_order_10 : decode cX8_order 10 = .ok (.ifCond .lt 7, 3) := by decide +kernel
theorem dX8_order_13 : decode cX8_order 13 = .ok (.iconst 0, 1) := by decide +kernel
theorem dX8_order_14 : decode cX8_order 14 = .ok (.goto 4, 3) := by decide +kernel
theorem dX8_order_17 : decode cX8_order 17 = .ok (.iconst 1, 1) := by decide +kernel
theorem dX8_order_18 : decode cX8_order 18 = .ok (.putfield 66, 3) := by decide +kernel
theorem dX8_order_21 : decode cX8_order 21 = .ok (.aload_n 0, 1) := by decide +kernel
theorem dX8_order_22 : decode cX8_order 22 = .ok (.getfield 66, 3) := by decide +kernel
theorem dX8_order_25 : decode cX8_order 25 = .ok (.ifCond .le 5, 3) := by decide +kernel
theorem dX8_order_28 : decode cX8_order 28 = .ok (.iconst 0, 1) := by decide +kernel
theorem dX8_order_29 : decode cX8_order 29 = .ok (.ireturn, 1) := by decide +kernel
theorem dX8_order_30 : decode cX8_order 30 = .ok (.aload_n 0, 1) := by decide +kernel
theorem dX8_order_31 : decode cX8_order 31 = .ok (.iload_n 1, 1) := by decide +kernel
theorem dX8_order_32 : decode cX8_order 32 = .ok (.invokevirtual 178, 3) := by decide +kernel
theorem dX8_order_35 : decode cX8_order 35 = .ok (.istore_n 3, 1) := by decide +kernel
theorem dX8_order_36 : decode cX8_order 36 = .ok (.iload_n 2, 1) := by decide +kernel
theorem dX8_order_37 : decode cX8_order 37 = .ok (.iload_n 3, 1) := by decide +kernel
theorem dX8_order_38 : decode cX8_order 38 = .ok (.if_icmp .ge 12, 3) := by decide +kernel
theorem dX8_order_41 : decode cX8_order 41 = .ok (.aload_n 0, 1) := by decide +kernel
theorem dX8_order_42 : decode cX8_order 42 = .ok (.getfield 53, 3) := by decide +kernel
theorem dX8_order_45 : decode cX8_order 45 = .ok (.iload_n 2, 1) := by decide +kernel
theorem dX8_order_46 : decode cX8_order 46 = .ok (.iaload, 1) := by decide +kernel
theorem dX8_order_47 : decode cX8_order 47 = .ok (.goto 4, 3) := by decide +kernel
theorem dX8_order_50 : decode cX8_order 50 = .ok (.iconst (-1), 1) := by decide +kernel
theorem dX8_order_51 : decode cX8_order 51 = .ok (.ireturn, 1) := by decide +kernel
theorem dX8_lays_0 : decode cX8_lays 0 = .ok (.aload_n 0, 1) := by decide +kernel
theorem dX8_lays_1 : decode cX8_lays 1 = .ok (.getfield 56, 3) := by decide +kernel
theorem dX8_lays_4 : decode cX8_lays 4 = .ok (.aload_n 0, 1) := by decide +kernel
theorem dX8_lays_5 : decode cX8_lays 5 = .ok (.getfield 181, 3) := by decide +kernel
theorem dX8_lays_8 : decode cX8_lays 8 = .ok (.iload_n 1, 1) := by decide +kernel
theorem dX8_lays_9 : decode cX8_lays 9 = .ok (.iastore, 1) := by decide +kernel
theorem dX8_lays_10 : decode cX8_lays 10 = .ok (.aload_n 0, 1) := by decide +kernel
theorem dX8_lays_11 : decode cX8_lays 11 = .ok (.dup, 1) := by decide +kernel
theorem dX8_lays_12 : decode cX8_lays 12 = .ok (.getfield 181, 3) := by decide +kernel
theorem dX8_lays_15 : decode cX8_lays 15 = .ok (.iconst 1, 1) := by decide +kernel
theorem dX8_lays_16 : decode cX8_lays 16 = .ok (.iadd, 1) := by decide +kernel
theorem dX8_lays_17 : decode cX8_lays 17 = .ok (.putfield 181, 3) := by decide +kernel
theorem dX8_lays_20 : decode cX8_lays 20 = .ok (.return_, 1) := by decide +kernel
theorem dX8_putNumber_0 : decode cX8_putNumber 0 = .ok (.iload_n 1, 1) := by decide +kernel
theorem dX8_putNumber_1 : decode cX8_putNumber 1 = .ok (.bipush 99, 2) := by decide +kernel
theorem dX8_putNumber_3 : decode cX8_putNumber 3 = .ok (.if_icmp .le 14, 3) := by decide +kernel
theorem dX8_putNumber_6 : decode cX8_putNumber 6 = .ok (.aload_n 0, 1) := by decide +kernel
theorem dX8_putNumber_7 : decode cX8_putNumber 7 = .ok (.bipush 48, 2) := by decide +kernel
theorem dX8_putNumber_9 : decode cX8_putNumber 9 = .ok (.iload_n 1, 1) := by decide +kernel
theorem dX8_putNumber_10 : decode cX8_putNumber 10 = .ok (.bipush 100, 2) := by decide +kernel
theorem dX8_putNumber_12 : decode cX8_putNumber 12 = .ok (.idiv, 1) := by decide +kernel
theorem dX8_putNumber_13 : decode cX8_putNumber 13 = .ok (.iadd, 1) := by decide +kernel
theorem dX8_putNumber_14 : decode cX8_putNumber 14 = .ok (.invokevirtual 184, 3) := by decide +kernel
theorem dX8_putNumber_17 : decode cX8_putNumber 17 = .ok (.iload_n 1, 1) := by decide +kernel
theorem dX8_putNumber_18 : decode cX8_putNumber 18 = .ok (.bipush 9, 2) := by decide +kernel
theorem dX8_putNumber_20 : decode cX8_putNumber 20 = .ok (.if_icmp .le 17, 3) := by decide +kernel
theorem dX8_putNumber_23 : decode cX8_putNumber 23 = .ok (.aload_n 0, 1) := by decide +kernel
theorem dX8_putNumber_24 : decode cX8_putNumber 24 = .ok (.bipush 48, 2) := by decide +kernel
theorem dX8_putNumber_26 : decode cX8_putNumber 26 = .ok (.iload_n 1, 1) := by decide +kernel
theorem dX8_putNumber_27 : decode cX8_putNumber 27 = .ok (.bipush 10, 2) := by decide +kernel
theorem dX8_putNumber_29 : decode cX8_putNumber 29 = .ok (.idiv, 1) := by decide +kernel
theorem dX8_putNumber_30 : decode cX8_putNumber 30 = .ok (.bipush 10, 2) := by decide +kernel
theorem dX8_putNumber_32 : decode cX8_putNumber 32 = .ok (.irem, 1) := by decide +kernel
theorem dX8_putNumber_33 : decode cX8_putNumber 33 = .ok (.iadd, 1) := by decide +kernel
theorem dX8_putNumber_34 : decode cX8_putNumber 34 = .ok (.invokevirtual 184, 3) := by decide +kernel
theorem dX8_putNumber_37 : decode cX8_putNumber 37 = .ok (.aload_n 0, 1) := by decide +kernel
theorem dX8_putNumber_38 : decode cX8_putNumber 38 = .ok (.bipush 48, 2) := by decide +kernel
theorem dX8_putNumber_40 : decode cX8_putNumber 40 = .ok (.iload_n 1, 1) := by decide +kernel
theorem dX8_putNumber_41 : decode cX8_putNumber 41 = .ok (.bipush 10, 2) := by decide +kernel
theorem dX8_putNumber_43 : decode cX8_putNumber 43 = .ok (.irem, 1) := by decide +kernel
theorem dX8_putNumber_44 : decode cX8_putNumber 44 = .ok (.iadd, 1) := by decide +kernel
theorem dX8_putNumber_45 : decode cX8_putNumber 45 = .ok (.invokevirtual 184, 3) := by decide +kernel
theorem dX8_putNumber_48 : decode cX8_putNumber 48 = .ok (.return_, 1) := by decide +kernel
theorem dX8_beginOf_0 : decode cX8_beginOf 0 = .ok (.iconst 1, 1) := by decide +kernel
theorem dX8_beginOf_1 : decode cX8_beginOf 1 = .ok (.istore_n 2, 1) := by decide +kernel
theorem dX8_beginOf_2 : decode cX8_beginOf 2 = .ok (.iload_n 1, 1) := by decide +kernel
theorem dX8_beginOf_3 : decode cX8_beginOf 3 = .ok (.iconst 1, 1) := by decide +kernel
theorem dX8_beginOf_4 : decode cX8_beginOf 4 = .ok (.iadd, 1) := by decide +kernel
theorem dX8_beginOf_5 : decode cX8_beginOf 5 = .ok (.istore_n 3, 1) := by decide +kernel
theorem dX8_beginOf_6 : decode cX8_beginOf 6 = .ok (.iload_n 2, 1) := by decide +kernel
theorem dX8_beginOf_7 : decode cX8_beginOf 7 = .ok (.ifCond .le 45, 3) := by decide +kernel
theorem dX8_beginOf_10 : decode cX8_beginOf 10 = .ok (.iinc 3 (-1), 3) := by decide +kernel
theorem dX8_beginOf_13 : decode cX8_beginOf 13 = .ok (.iload_n 2, 1) := by decide +kernel
theorem dX8_beginOf_14 : decode cX8_beginOf 14 = .ok (.aload_n 0, 1) := by decide +kernel
theorem dX8_beginOf_15 : decode cX8_beginOf 15 = .ok (.getfield 13, 3) := by decide +kernel
theorem dX8_beginOf_18 : decode cX8_beginOf 18 = .ok (.iload_n 3, 1) := by decide +kernel
theorem dX8_beginOf_19 : decode cX8_beginOf 19 = .ok (.iaload, 1) := by decide +kernel
theorem dX8_beginOf_20 : decode cX8_beginOf 20 = .ok (.sipush 2000, 3) := by decide +kernel
theorem dX8_beginOf_23 : decode cX8_beginOf 23 = .ok (.if_icmp .ge 7, 3) := by decide +kernel
theorem dX8_beginOf_26 : decode cX8_beginOf 26 = .ok (.iconst (-1), 1) := by decide +kernel
theorem dX8_beginOf_27 : decode cX8_beginOf 27 = .ok (.goto 20, 3) := by decide +kernel
theorem dX8_beginOf_30 : decode cX8_beginOf 30 = .ok (.aload_n 0, 1) := by decide +kernel
theorem dX8_beginOf_31 : decode cX8_beginOf 31 = .ok (.getfield 13, 3) := by decide +kernel
theorem dX8_beginOf_34 : decode cX8_beginOf 34 = .ok (.iload_n 3, 1) := by decide +kernel
theorem dX8_beginOf_35 : decode cX8_beginOf 35 = .ok (.iaload, 1) := by decide +kernel
theorem dX8_beginOf_36 : decode cX8_beginOf 36 = .ok (.sipush 2033, 3) := by decide +kernel
theorem dX8_beginOf_39 : decode cX8_beginOf 39 = .ok (.if_icmp .ne 7, 3) := by decide +kernel
theorem dX8_beginOf_42 : decode cX8_beginOf 42 = .ok (.iconst 0, 1) := by decide +kernel
theorem dX8_beginOf_43 : decode cX8_beginOf 43 = .ok (.goto 4, 3) := by decide +kernel
theorem dX8_beginOf_46 : decode cX8_beginOf 46 = .ok (.iconst 1, 1) := by decide +kernel
theorem dX8_beginOf_47 : decode cX8_beginOf 47 = .ok (.iadd, 1) := by decide +kernel
theorem dX8_beginOf_48 : decode cX8_beginOf 48 = .ok (.istore_n 2, 1) := by decide +kernel
theorem dX8_beginOf_49 : decode cX8_beginOf 49 = .ok (.goto (-43), 3) := by decide +kernel
theorem dX8_beginOf_52 : decode cX8_beginOf 52 = .ok (.iload_n 3, 1) := by decide +kernel
theorem dX8_beginOf_53 : decode cX8_beginOf 53 = .ok (.ireturn, 1) := by decide +kernel
theorem dX8_layPlain_0 : decode cX8_layPlain 0 = .ok (.aload_n 0, 1) := by decide +kernel
theorem dX8_layPlain_1 : decode cX8_layPlain 1 = .ok (.iconst 0, 1) := by decide +kernel
theorem dX8_layPlain_2 : decode cX8_layPlain 2 = .ok (.putfield 181, 3) := by decide +kernel
theorem dX8_layPlain_5 : decode cX8_layPlain 5 = .ok (.iconst 1, 1) := by decide +kernel
theorem dX8_layPlain_6 : decode cX8_layPlain 6 = .ok (.istore_n 2, 1) := by decide +kernel
theorem dX8_layPlain_7 : decode cX8_layPlain 7 = .ok (.aload_n 0, 1) := by decide +kernel
theorem dX8_layPlain_8 : decode cX8_layPlain 8 = .ok (.getfield 59, 3) := by decide +kernel
theorem dX8_layPlain_11 : decode cX8_layPlain 11 = .ok (.iconst 0, 1) := by decide +kernel
theorem dX8_layPlain_12 : decode cX8_layPlain 12 = .ok (.bipush 40, 2) := by decide +kernel
theorem dX8_layPlain_14 : decode cX8_layPlain 14 = .ok (.iload_n 1, 1) := by decide +kernel
theorem dX8_layPlain_15 : decode cX8_layPlain 15 = .ok (.imul, 1) := by decide +kernel
theorem dX8_layPlain_16 : decode cX8_layPlain 16 = .ok (.aload_n 0, 1) := by decide +kernel
theorem dX8_layPlain_17 : decode cX8_layPlain 17 = .ok (.getfield 16, 3) := by decide +kernel
theorem dX8_layPlain_20 : decode cX8_layPlain 20 = .ok (.iload_n 1, 1) := by decide +kernel
theorem dX8_layPlain_21 : decode cX8_layPlain 21 = .ok (.iaload, 1) := by decide +kernel
theorem dX8_layPlain_22 : decode cX8_layPlain 22 = .ok (.iadd, 1) := by decide +kernel
theorem dX8_layPlain_23 : decode cX8_layPlain 23 = .ok (.iconst 1, 1) := by decide +kernel
theorem dX8_layPlain_24 : decode cX8_layPlain 24 = .ok (.isub, 1) := by decide +kernel
theorem dX8_layPlain_25 : decode cX8_layPlain 25 = .ok (.iastore, 1) := by decide +kernel
theorem dX8_layPlain_26 : decode cX8_layPlain 26 = .ok (.iload_n 2, 1) := by decide +kernel
theorem dX8_layPlain_27 : decode cX8_layPlain 27 = .ok (.ifCond .le 193, 3) := by decide +kernel
theorem dX8_layPlain_30 : decode cX8_layPlain 30 = .ok (.iinc 2 (-1), 3) := by decide +kernel
theorem dX8_layPlain_33 : decode cX8_layPlain 33 = .ok (.aload_n 0, 1) := by decide +kernel
theorem dX8_layPlain_34 : decode cX8_layPlain 34 = .ok (.getfield 59, 3) := by decide +kernel
theorem dX8_layPlain_37 : decode cX8_layPlain 37 = .ok (.iload_n 2, 1) := by decide +kernel
theorem dX8_layPlain_38 : decode cX8_layPlain 38 = .ok (.iaload, 1) := by decide +kernel
theorem dX8_layPlain_39 : decode cX8_layPlain 39 = .ok (.istore_n 3, 1) := by decide +kernel
theorem dX8_layPlain_40 : decode cX8_layPlain 40 = .ok (.iload_n 3, 1) := by decide +kernel
theorem dX8_layPlain_41 : decode cX8_layPlain 41 = .ok (.sipush 10000, 3) := by decide +kernel
theorem dX8_layPlain_44 : decode cX8_layPlain 44 = .ok (.if_icmp .lt 15, 3) := by decide +kernel
theorem dX8_layPlain_47 : decode cX8_layPlain 47 = .ok (.aload_n 0, 1) := by decide +kernel
theorem dX8_layPlain_48 : decode cX8_layPlain 48 = .ok (.iload_n 3, 1) := by decide +kernel
theorem dX8_layPlain_49 : decode cX8_layPlain 49 = .ok (.sipush 10000, 3) := by decide +kernel
theorem dX8_layPlain_52 : decode cX8_layPlain 52 = .ok (.isub, 1) := by decide +kernel
theorem dX8_layPlain_53 : decode cX8_layPlain 53 = .ok (.invokevirtual 184, 3) := by decide +kernel
theorem dX8_layPlain_56 : decode cX8_layPlain 56 = .ok (.goto 161, 3) := by decide +kernel
theorem dX8_layPlain_59 : decode cX8_layPlain 59 = .ok (.aload_n 0, 1) := by decide +kernel
theorem dX8_layPlain_60 : decode cX8_layPlain 60 = .ok (.getfield 13, 3) := by decide +kernel
theorem dX8_layPlain_63 : decode cX8_layPlain 63 = .ok (.iload_n 3, 1) := by decide +kernel
theorem dX8_layPlain_64 : decode cX8_layPlain 64 = .ok (.iaload, 1) := by decide +kernel
theorem dX8_layPlain_65 : decode cX8_layPlain 65 = .ok (.sipush 1000, 3) := by decide +kernel
theorem dX8_layPlain_68 : decode cX8_layPlain 68 = .ok (.if_icmp .ge 16, 3) := by decide +kernel
theorem dX8_layPlain_71 : decode cX8_layPlain 71 = .ok (.aload_n 0, 1) := by decide +kernel
theorem dX8_layPlain_72 : decode cX8_layPlain 72 = .ok (.aload_n 0, 1) := by decide +kernel
theorem dX8_layPlain_73 : decode cX8_layPlain 73 = .ok (.getfield 13, 3) := by decide +kernel
theorem dX8_layPlain_76 : decode cX8_layPlain 76 = .ok (.iload_n 3, 1) := by decide +kernel
theorem dX8_layPlain_77 : decode cX8_layPlain 77 = .ok (.iaload, 1) := by decide +kernel
theorem dX8_layPlain_78 : decode cX8_layPlain 78 = .ok (.invokevirtual 187, 3) := by decide +kernel
theorem dX8_layPlain_81 : decode cX8_layPlain 81 = .ok (.goto 136, 3) := by decide +kernel
theorem dX8_layPlain_84 : decode cX8_layPlain 84 = .ok (.aload_n 0, 1) := by decide +kernel
theorem dX8_layPlain_85 : decode cX8_layPlain 85 = .ok (.getfield 13, 3) := by decide +kernel
theorem dX8_layPlain_88 : decode cX8_layPlain 88 = .ok (.iload_n 3, 1) := by decide +kernel
theorem dX8_layPlain_89 : decode cX8_layPlain 89 = .ok (.iaload, 1) := by decide +kernel
theorem dX8_layPlain_90 : decode cX8_layPlain 90 = .ok (.sipush 2000, 3) := by decide +kernel
theorem dX8_layPlain_93 : decode cX8_layPlain 93 = .ok (.if_icmp .ge 23, 3) := by decide +kernel
theorem dX8_layPlain_96 : decode cX8_layPlain 96 = .ok (.aload_n 0, 1) := by decide +kernel
theorem dX8_layPlain_97 : decode cX8_layPlain 97 = .ok (.bipush 97, 2) := by decide +kernel
theorem dX8_layPlain_99 : decode cX8_layPlain 99 = .ok (.aload_n 0, 1) := by decide +kernel
theorem dX8_layPlain_100 : decode cX8_layPlain 100 = .ok (.getfield 13, 3) := by decide +kernel
theorem dX8_layPlain_103 : decode cX8_layPlain 103 = .ok (.iload_n 3, 1) := by decide +kernel
theorem dX8_layPlain_104 : decode cX8_layPlain 104 = .ok (.iaload, 1) := by decide +kernel
theorem dX8_layPlain_105 : decode cX8_layPlain 105 = .ok (.iadd, 1) := by decide +kernel
theorem dX8_layPlain_106 : decode cX8_layPlain 106 = .ok (.sipush 1000, 3) := by decide +kernel
theorem dX8_layPlain_109 : decode cX8_layPlain 109 = .ok (.isub, 1) := by decide +kernel
theorem dX8_layPlain_110 : decode cX8_layPlain 110 = .ok (.invokevirtual 184, 3) := by decide +kernel
theorem dX8_layPlain_113 : decode cX8_layPlain 113 = .ok (.goto 104, 3) := by decide +kernel
theorem dX8_layPlain_116 : decode cX8_layPlain 116 = .ok (.aload_n 0, 1) := by decide +kernel
theorem dX8_layPlain_117 : decode cX8_layPlain 117 = .ok (.getfield 13, 3) := by decide +kernel
theorem dX8_layPlain_120 : decode cX8_layPlain 120 = .ok (.iload_n 3, 1) := by decide +kernel
theorem dX8_layPlain_121 : decode cX8_layPlain 121 = .ok (.iaload, 1) := by decide +kernel
theorem dX8_layPlain_122 : decode cX8_layPlain 122 = .ok (.sipush 2033, 3) := by decide +kernel
theorem dX8_layPlain_125 : decode cX8_layPlain 125 = .ok (.if_icmp .ne 24, 3) := by decide +kernel
theorem dX8_layPlain_128 : decode cX8_layPlain 128 = .ok (.aload_n 0, 1) := by decide +kernel
theorem dX8_layPlain_129 : decode cX8_layPlain 129 = .ok (.bipush 33, 2) := by decide +kernel
theorem dX8_layPlain_131 : decode cX8_layPlain 131 = .ok (.invokevirtual 184, 3) := by decide +kernel
theorem dX8_layPlain_134 : decode cX8_layPlain 134 = .ok (.aload_n 0, 1) := by decide +kernel
theorem dX8_layPlain_135 : decode cX8_layPlain 135 = .ok (.getfield 59, 3) := by decide +kernel
theorem dX8_layPlain_138 : decode cX8_layPlain 138 = .ok (.iload_n 2, 1) := by decide +kernel
theorem dX8_layPlain_139 : decode cX8_layPlain 139 = .ok (.iload_n 3, 1) := by decide +kernel
theorem dX8_layPlain_140 : decode cX8_layPlain 140 = .ok (.iconst 1, 1) := by decide +kernel
theorem dX8_layPlain_141 : decode cX8_layPlain 141 = .ok (.isub, 1) := by decide +kernel
theorem dX8_layPlain_142 : decode cX8_layPlain 142 = .ok (.iastore, 1) := by decide +kernel
theorem dX8_layPlain_143 : decode cX8_layPlain 143 = .ok (.iinc 2 1, 3) := by decide +kernel
theorem dX8_layPlain_146 : decode cX8_layPlain 146 = .ok (.goto 71, 3) := by decide +kernel
theorem dX8_layPlain_149 : decode cX8_layPlain 149 = .ok (.aload_n 0, 1) := by decide +kernel
theorem dX8_layPlain_150 : decode cX8_layPlain 150 = .ok (.bipush 40, 2) := by decide +kernel
theorem dX8_layPlain_152 : decode cX8_layPlain 152 = .ok (.invokevirtual 184, 3) := by decide +kernel
theorem dX8_layPlain_155 : decode cX8_layPlain 155 = .ok (.aload_n 0, 1) := by decide +kernel
theorem dX8_layPlain_156 : decode cX8_layPlain 156 = .ok (.getfield 59, 3) := by decide +kernel
theorem dX8_layPlain_159 : decode cX8_layPlain 159 = .ok (.iload_n 2, 1) := by decide +kernel
theorem dX8_layPlain_160 : decode cX8_layPlain 160 = .ok (.sipush 10041, 3) := by decide +kernel
theorem dX8_layPlain_163 : decode cX8_layPlain 163 = .ok (.iastore, 1) := by decide +kernel
theorem dX8_layPlain_164 : decode cX8_layPlain 164 = .ok (.aload_n 0, 1) := by decide +kernel
theorem dX8_layPlain_165 : decode cX8_layPlain 165 = .ok (.getfield 59, 3) := by decide +kernel
theorem dX8_layPlain_168 : decode cX8_layPlain 168 = .ok (.iload_n 2, 1) := by decide +kernel
theorem dX8_layPlain_169 : decode cX8_layPlain 169 = .ok (.iconst 1, 1) := by decide +kernel
theorem dX8_layPlain_170 : decode cX8_layPlain 170 = .ok (.iadd, 1) := by decide +kernel
theorem dX8_layPlain_171 : decode cX8_layPlain 171 = .ok (.iload_n 3, 1) := by decide +kernel
theorem dX8_layPlain_172 : decode cX8_layPlain 172 = .ok (.iconst 1, 1) := by decide +kernel
theorem dX8_layPlain_173 : decode cX8_layPlain 173 = .ok (.isub, 1) := by decide +kernel
theorem dX8_layPlain_174 : decode cX8_layPlain 174 = .ok (.iastore, 1) := by decide +kernel
theorem dX8_layPlain_175 : decode cX8_layPlain 175 = .ok (.aload_n 0, 1) := by decide +kernel
theorem dX8_layPlain_176 : decode cX8_layPlain 176 = .ok (.getfield 59, 3) := by decide +kernel
theorem dX8_layPlain_179 : decode cX8_layPlain 179 = .ok (.iload_n 2, 1) := by decide +kernel
theorem dX8_layPlain_180 : decode cX8_layPlain 180 = .ok (.iconst 2, 1) := by decide +kernel
theorem dX8_layPlain_181 : decode cX8_layPlain 181 = .ok (.iadd, 1) := by decide +kernel
theorem dX8_layPlain_182 : decode cX8_layPlain 182 = .ok (.sipush 10000, 3) := by decide +kernel
theorem dX8_layPlain_185 : decode cX8_layPlain 185 = .ok (.aload_n 0, 1) := by decide +kernel
theorem dX8_layPlain_186 : decode cX8_layPlain 186 = .ok (.getfield 13, 3) := by decide +kernel
theorem dX8_layPlain_189 : decode cX8_layPlain 189 = .ok (.iload_n 3, 1) := by decide +kernel
theorem dX8_layPlain_190 : decode cX8_layPlain 190 = .ok (.iaload, 1) := by decide +kernel
theorem dX8_layPlain_191 : decode cX8_layPlain 191 = .ok (.iadd, 1) := by decide +kernel
theorem dX8_layPlain_192 : decode cX8_layPlain 192 = .ok (.sipush 2000, 3) := by decide +kernel
theorem dX8_layPlain_195 : decode cX8_layPlain 195 = .ok (.isub, 1) := by decide +kernel
theorem dX8_layPlain_196 : decode cX8_layPlain 196 = .ok (.iastore, 1) := by decide +kernel
theorem dX8_layPlain_197 : decode cX8_layPlain 197 = .ok (.aload_n 0, 1) := by decide +kernel
theorem dX8_layPlain_198 : decode cX8_layPlain 198 = .ok (.getfield 59, 3) := by decide +kernel
theorem dX8_layPlain_201 : decode cX8_layPlain 201 = .ok (.iload_n 2, 1) := by decide +kernel
theorem dX8_layPlain_202 : decode cX8_layPlain 202 = .ok (.iconst 3, 1) := by decide +kernel
theorem dX8_layPlain_203 : decode cX8_layPlain 203 = .ok (.iadd, 1) := by decide +kernel
theorem dX8_layPlain_204 : decode cX8_layPlain 204 = .ok (.aload_n 0, 1) := by decide +kernel
theorem dX8_layPlain_205 : decode cX8_layPlain 205 = .ok (.iload_n 3, 1) := by decide +kernel
theorem dX8_layPlain_206 : decode cX8_layPlain 206 = .ok (.iconst 1, 1) := by decide +kernel
theorem dX8_layPlain_207 : decode cX8_layPlain 207 = .ok (.isub, 1) := by decide +kernel
theorem dX8_layPlain_208 : decode cX8_layPlain 208 = .ok (.invokevirtual 190, 3) := by decide +kernel
theorem dX8_layPlain_211 : decode cX8_layPlain 211 = .ok (.iconst 1, 1) := by decide +kernel
theorem dX8_layPlain_212 : decode cX8_layPlain 212 = .ok (.isub, 1) := by decide +kernel
theorem dX8_layPlain_213 : decode cX8_layPlain 213 = .ok (.iastore, 1) := by decide +kernel
theorem dX8_layPlain_214 : decode cX8_layPlain 214 = .ok (.iinc 2 4, 3) := by decide +kernel
theorem dX8_layPlain_217 : decode cX8_layPlain 217 = .ok (.goto (-191), 3) := by decide +kernel
theorem dX8_layPlain_220 : decode cX8_layPlain 220 = .ok (.return_, 1) := by decide +kernel
theorem dX8_plain_0 : decode cX8_plain 0 = .ok (.aload_n 0, 1) := by decide +kernel
theorem dX8_plain_1 : decode cX8_plain 1 = .ok (.aload_n 0, 1) := by decide +kernel
theorem dX8_plain_2 : decode cX8_plain 2 = .ok (.iload_n 1, 1) := by decide +kernel
theorem dX8_plain_3 : decode cX8_plain 3 = .ok (.invokevirtual 172, 3) := by decide +kernel
theorem dX8_plain_6 : decode cX8_plain 6 = .ok (.ifCond .eq 18, 3) := by decide +kernel
theorem dX8_plain_9 : decode cX8_plain 9 = .ok (.iload_n 2, 1) := by decide +kernel
theorem dX8_plain_10 : decode cX8_plain 10 = .ok (.invokestatic 149, 3) := by decide +kernel
theorem dX8_plain_13 : decode cX8_plain 13 = .ok (.ifCond .eq 11, 3) := by decide +kernel
theorem dX8_plain_16 : decode cX8_plain 16 = .ok (.iload_n 3, 1) := by decide +kernel
theorem dX8_plain_17 : decode cX8_plain 17 = .ok (.ifCond .lt 7, 3) := by decide +kernel
theorem dX8_plain_20 : decode cX8_plain 20 = .ok (.iconst 0, 1) := by decide +kernel
theorem dX8_plain_21 : decode cX8_plain 21 = .ok (.goto 4, 3) := by decide +kernel
theorem dX8_plain_24 : decode cX8_plain 24 = .ok (.iconst 1, 1) := by decide +kernel
theorem dX8_plain_25 : decode cX8_plain 25 = .ok (.putfield 66, 3) := by decide +kernel
theorem dX8_plain_28 : decode cX8_plain 28 = .ok (.aload_n 0, 1) := by decide +kernel
theorem dX8_plain_29 : decode cX8_plain 29 = .ok (.getfield 66, 3) := by decide +kernel
theorem dX8_plain_32 : decode cX8_plain 32 = .ok (.ifCond .le 5, 3) := by decide +kernel
theorem dX8_plain_35 : decode cX8_plain 35 = .ok (.iconst 0, 1) := by decide +kernel
theorem dX8_plain_36 : decode cX8_plain 36 = .ok (.ireturn, 1) := by decide +kernel
theorem dX8_plain_37 : decode cX8_plain 37 = .ok (.bipush 10, 2) := by decide +kernel
theorem dX8_plain_39 : decode cX8_plain 39 = .ok (.iload_n 1, 1) := by decide +kernel
theorem dX8_plain_40 : decode cX8_plain 40 = .ok (.iconst 1, 1) := by decide +kernel
theorem dX8_plain_41 : decode cX8_plain 41 = .ok (.iadd, 1) := by decide +kernel
theorem dX8_plain_42 : decode cX8_plain 42 = .ok (.imul, 1) := by decide +kernel
theorem dX8_plain_43 : decode cX8_plain 43 = .ok (.iload_n 2, 1) := by decide +kernel
theorem dX8_plain_44 : decode cX8_plain 44 = .ok (.iadd, 1) := by decide +kernel
theorem dX8_plain_45 : decode cX8_plain 45 = .ok (.istore 4, 2) := by decide +kernel
theorem dX8_plain_47 : decode cX8_plain 47 = .ok (.aload_n 0, 1) := by decide +kernel
theorem dX8_plain_48 : decode cX8_plain 48 = .ok (.getfield 16, 3) := by decide +kernel
theorem dX8_plain_51 : decode cX8_plain 51 = .ok (.iload 4, 2) := by decide +kernel
theorem dX8_plain_53 : decode cX8_plain 53 = .ok (.iaload, 1) := by decide +kernel
theorem dX8_plain_54 : decode cX8_plain 54 = .ok (.ifCond .ne 5, 3) := by decide +kernel
theorem dX8_plain_57 : decode cX8_plain 57 = .ok (.iconst (-1), 1) := by decide +kernel
theorem dX8_plain_58 : decode cX8_plain 58 = .ok (.ireturn, 1) := by decide +kernel
theorem dX8_plain_59 : decode cX8_plain 59 = .ok (.aload_n 0, 1) := by decide +kernel
theorem dX8_plain_60 : decode cX8_plain 60 = .ok (.iload 4, 2) := by decide +kernel
theorem dX8_plain_62 : decode cX8_plain 62 = .ok (.invokevirtual 193, 3) := by decide +kernel
theorem dX8_plain_65 : decode cX8_plain 65 = .ok (.iload_n 3, 1) := by decide +kernel
theorem dX8_plain_66 : decode cX8_plain 66 = .ok (.aload_n 0, 1) := by decide +kernel
theorem dX8_plain_67 : decode cX8_plain 67 = .ok (.getfield 181, 3) := by decide +kernel
theorem dX8_plain_70 : decode cX8_plain 70 = .ok (.if_icmp .ge 12, 3) := by decide +kernel
theorem dX8_plain_73 : decode cX8_plain 73 = .ok (.aload_n 0, 1) := by decide +kernel
theorem dX8_plain_74 : decode cX8_plain 74 = .ok (.getfield 56, 3) := by decide +kernel
theorem dX8_plain_77 : decode cX8_plain 77 = .ok (.iload_n 3, 1) := by decide +kernel
theorem dX8_plain_78 : decode cX8_plain 78 = .ok (.iaload, 1) := by decide +kernel
theorem dX8_plain_79 : decode cX8_plain 79 = .ok (.goto 4, 3) := by decide +kernel
theorem dX8_plain_82 : decode cX8_plain 82 = .ok (.iconst (-1), 1) := by decide +kernel
theorem dX8_plain_83 : decode cX8_plain 83 = .ok (.ireturn, 1) := by decide +kernel
theorem dX8_isAnswer_0 : decode cX8_isAnswer 0 = .ok (.iload_n 1, 1) := by decide +kernel
theorem dX8_isAnswer_1 : decode cX8_isAnswer 1 = .ok (.iconst 0, 1) := by decide +kernel
theorem dX8_isAnswer_2 : decode cX8_isAnswer 2 = .ok (.aload_n 0, 1) := by decide +kernel
theorem dX8_isAnswer_3 : decode cX8_isAnswer 3 = .ok (.getfield 165, 3) := by decide +kernel
theorem dX8_isAnswer_6 : decode cX8_isAnswer 6 = .ok (.iconst 1, 1) := by decide +kernel
theorem dX8_isAnswer_7 : decode cX8_isAnswer 7 = .ok (.isub, 1) := by decide +kernel
theorem dX8_isAnswer_8 : decode cX8_isAnswer 8 = .ok (.invokestatic 69, 3) := by decide +kernel
theorem dX8_isAnswer_11 : decode cX8_isAnswer 11 = .ok (.ireturn, 1) := by decide +kernel
theorem dX8_begin_0 : decode cX8_begin 0 = .ok (.aload_n 0, 1) := by decide +kernel
theorem dX8_begin_1 : decode cX8_begin 1 = .ok (.aload_n 0, 1) := by decide +kernel
theorem dX8_begin_2 : decode cX8_begin 2 = .ok (.getfield 162, 3) := by decide +kernel
theorem dX8_begin_5 : decode cX8_begin 5 = .ok (.ifCond .eq 12, 3) := by decide +kernel
theorem dX8_begin_8 : decode cX8_begin 8 = .ok (.aload_n 0, 1) := by decide +kernel
theorem dX8_begin_9 : decode cX8_begin 9 = .ok (.getfield 165, 3) := by decide +kernel
theorem dX8_begin_12 : decode cX8_begin 12 = .ok (.bipush 20, 2) := by decide +kernel
theorem dX8_begin_14 : decode cX8_begin 14 = .ok (.if_icmp .ne 7, 3) := by decide +kernel
theorem dX8_begin_17 : decode cX8_begin 17 = .ok (.iconst 1, 1) := by decide +kernel
theorem dX8_begin_18 : decode cX8_begin 18 = .ok (.goto 4, 3) := by decide +kernel
theorem dX8_begin_21 : decode cX8_begin 21 = .ok (.iconst 0, 1) := by decide +kernel
theorem dX8_begin_22 : decode cX8_begin 22 = .ok (.putfield 66, 3) := by decide +kernel
theorem dX8_begin_25 : decode cX8_begin 25 = .ok (.aload_n 0, 1) := by decide +kernel
theorem dX8_begin_26 : decode cX8_begin 26 = .ok (.getfield 66, 3) := by decide +kernel
theorem dX8_begin_29 : decode cX8_begin 29 = .ok (.ifCond .le 5, 3) := by decide +kernel
theorem dX8_begin_32 : decode cX8_begin 32 = .ok (.iconst 0, 1) := by decide +kernel
theorem dX8_begin_33 : decode cX8_begin 33 = .ok (.ireturn, 1) := by decide +kernel
theorem dX8_begin_34 : decode cX8_begin 34 = .ok (.aload_n 0, 1) := by decide +kernel
theorem dX8_begin_35 : decode cX8_begin 35 = .ok (.getfield 25, 3) := by decide +kernel
theorem dX8_begin_38 : decode cX8_begin 38 = .ok (.aload_n 0, 1) := by decide +kernel
theorem dX8_begin_39 : decode cX8_begin 39 = .ok (.getfield 165, 3) := by decide +kernel
theorem dX8_begin_42 : decode cX8_begin 42 = .ok (.aload_n 0, 1) := by decide +kernel
theorem dX8_begin_43 : decode cX8_begin 43 = .ok (.getfield 162, 3) := by decide +kernel
theorem dX8_begin_46 : decode cX8_begin 46 = .ok (.iconst 1, 1) := by decide +kernel
theorem dX8_begin_47 : decode cX8_begin 47 = .ok (.isub, 1) := by decide +kernel
theorem dX8_begin_48 : decode cX8_begin 48 = .ok (.iastore, 1) := by decide +kernel
theorem dX8_begin_49 : decode cX8_begin 49 = .ok (.aload_n 0, 1) := by decide +kernel
theorem dX8_begin_50 : decode cX8_begin 50 = .ok (.dup, 1) := by decide +kernel
theorem dX8_begin_51 : decode cX8_begin 51 = .ok (.getfield 165, 3) := by decide +kernel
theorem dX8_begin_54 : decode cX8_begin 54 = .ok (.iconst 1, 1) := by decide +kernel
theorem dX8_begin_55 : decode cX8_begin 55 = .ok (.iadd, 1) := by decide +kernel
theorem dX8_begin_56 : decode cX8_begin 56 = .ok (.putfield 165, 3) := by decide +kernel
theorem dX8_begin_59 : decode cX8_begin 59 = .ok (.aload_n 0, 1) := by decide +kernel
theorem dX8_begin_60 : decode cX8_begin 60 = .ok (.getfield 165, 3) := by decide +kernel
theorem dX8_begin_63 : decode cX8_begin 63 = .ok (.iconst 1, 1) := by decide +kernel
theorem dX8_begin_64 : decode cX8_begin 64 = .ok (.isub, 1) := by decide +kernel
theorem dX8_begin_65 : decode cX8_begin 65 = .ok (.ireturn, 1) := by decide +kernel
theorem dX8_canPut_0 : decode cX8_canPut 0 = .ok (.aload_n 0, 1) := by decide +kernel
theorem dX8_canPut_1 : decode cX8_canPut 1 = .ok (.getfield 25, 3) := by decide +kernel
theorem dX8_canPut_4 : decode cX8_canPut 4 = .ok (.iload_n 1, 1) := by decide +kernel
theorem dX8_canPut_5 : decode cX8_canPut 5 = .ok (.iaload, 1) := by decide +kernel
theorem dX8_canPut_6 : decode cX8_canPut 6 = .ok (.istore_n 3, 1) := by decide +kernel
theorem dX8_canPut_7 : decode cX8_canPut 7 = .ok (.aload_n 0, 1) := by decide +kernel
theorem dX8_canPut_8 : decode cX8_canPut 8 = .ok (.iload_n 3, 1) := by decide +kernel
theorem dX8_canPut_9 : decode cX8_canPut 9 = .ok (.iload_n 2, 1) := by decide +kernel
theorem dX8_canPut_10 : decode cX8_canPut 10 = .ok (.invokevirtual 155, 3) := by decide +kernel
theorem dX8_canPut_13 : decode cX8_canPut 13 = .ok (.ifCond .eq 16, 3) := by decide +kernel
theorem dX8_canPut_16 : decode cX8_canPut 16 = .ok (.aload_n 0, 1) := by decide +kernel
theorem dX8_canPut_17 : decode cX8_canPut 17 = .ok (.iload_n 3, 1) := by decide +kernel
theorem dX8_canPut_18 : decode cX8_canPut 18 = .ok (.iload_n 2, 1) := by decide +kernel
theorem dX8_canPut_19 : decode cX8_canPut 19 = .ok (.invokevirtual 175, 3) := by decide +kernel
theorem dX8_canPut_22 : decode cX8_canPut 22 = .ok (.ifCond .ne 7, 3) := by decide +kernel
theorem dX8_canPut_25 : decode cX8_canPut 25 = .ok (.iconst 1, 1) := by decide +kernel
theorem dX8_canPut_26 : decode cX8_canPut 26 = .ok (.goto 4, 3) := by decide +kernel
theorem dX8_canPut_29 : decode cX8_canPut 29 = .ok (.iconst 0, 1) := by decide +kernel
theorem dX8_canPut_30 : decode cX8_canPut 30 = .ok (.ireturn, 1) := by decide +kernel
theorem dX8_isRight_0 : decode cX8_isRight 0 = .ok (.aload_n 0, 1) := by decide +kernel
theorem dX8_isRight_1 : decode cX8_isRight 1 = .ok (.aload_n 0, 1) := by decide +kernel
theorem dX8_isRight_2 : decode cX8_isRight 2 = .ok (.getfield 25, 3) := by decide +kernel
theorem dX8_isRight_5 : decode cX8_isRight 5 = .ok (.iload_n 1, 1) := by decide +kernel
theorem dX8_isRight_6 : decode cX8_isRight 6 = .ok (.iaload, 1) := by decide +kernel
theorem dX8_isRight_7 : decode cX8_isRight 7 = .ok (.iload_n 2, 1) := by decide +kernel
theorem dX8_isRight_8 : decode cX8_isRight 8 = .ok (.invokevirtual 155, 3) := by decide +kernel
theorem dX8_isRight_11 : decode cX8_isRight 11 = .ok (.istore 4, 2) := by decide +kernel
theorem dX8_isRight_13 : decode cX8_isRight 13 = .ok (.iload 4, 2) := by decide +kernel
theorem dX8_isRight_15 : decode cX8_isRight 15 = .ok (.iconst 1, 1) := by decide +kernel
theorem dX8_isRight_16 : decode cX8_isRight 16 = .ok (.if_icmp .ne 16, 3) := by decide +kernel
theorem dX8_isRight_19 : decode cX8_isRight 19 = .ok (.iload_n 3, 1) := by decide +kernel
theorem dX8_isRight_20 : decode cX8_isRight 20 = .ok (.sipush (-999), 3) := by decide +kernel
theorem dX8_isRight_23 : decode cX8_isRight 23 = .ok (.sipush 999, 3) := by decide +kernel
theorem dX8_isRight_26 : decode cX8_isRight 26 = .ok (.invokestatic 69, 3) := by decide +kernel
theorem dX8_isRight_29 : decode cX8_isRight 29 = .ok (.goto 25, 3) := by decide +kernel
theorem dX8_isRight_32 : decode cX8_isRight 32 = .ok (.iload 4, 2) := by decide +kernel
theorem dX8_isRight_34 : decode cX8_isRight 34 = .ok (.iconst 2, 1) := by decide +kernel
theorem dX8_isRight_35 : decode cX8_isRight 35 = .ok (.if_icmp .ne 12, 3) := by decide +kernel
theorem dX8_isRight_38 : decode cX8_isRight 38 = .ok (.iload_n 3, 1) := by decide +kernel
theorem dX8_isRight_39 : decode cX8_isRight 39 = .ok (.iconst 0, 1) := by decide +kernel
theorem dX8_isRight_40 : decode cX8_isRight 40 = .ok (.iconst 1, 1) := by decide +kernel
theorem dX8_isRight_41 : decode cX8_isRight 41 = .ok (.invokestatic 69, 3) := by decide +kernel
theorem dX8_isRight_44 : decode cX8_isRight 44 = .ok (.goto 10, 3) := by decide +kernel
theorem dX8_isRight_47 : decode cX8_isRight 47 = .ok (.iload_n 3, 1) := by decide +kernel
theorem dX8_isRight_48 : decode cX8_isRight 48 = .ok (.iconst 0, 1) := by decide +kernel
theorem dX8_isRight_49 : decode cX8_isRight 49 = .ok (.bipush 9, 2) := by decide +kernel
theorem dX8_isRight_51 : decode cX8_isRight 51 = .ok (.invokestatic 69, 3) := by decide +kernel
theorem dX8_isRight_54 : decode cX8_isRight 54 = .ok (.ireturn, 1) := by decide +kernel
theorem dX8_lacking_0 : decode cX8_lacking 0 = .ok (.iconst 0, 1) := by decide +kernel
theorem dX8_lacking_1 : decode cX8_lacking 1 = .ok (.istore_n 2, 1) := by decide +kernel
theorem dX8_lacking_2 : decode cX8_lacking 2 = .ok (.iconst 0, 1) := by decide +kernel
theorem dX8_lacking_3 : decode cX8_lacking 3 = .ok (.istore_n 3, 1) := by decide +kernel
theorem dX8_lacking_4 : decode cX8_lacking 4 = .ok (.iload_n 3, 1) := by decide +kernel
theorem dX8_lacking_5 : decode cX8_lacking 5 = .ok (.bipush 6, 2) := by decide +kernel
theorem dX8_lacking_7 : decode cX8_lacking 7 = .ok (.if_icmp .ge 40, 3) := by decide +kernel
theorem dX8_lacking_10 : decode cX8_lacking 10 = .ok (.iload_n 2, 1) := by decide +kernel
theorem dX8_lacking_11 : decode cX8_lacking 11 = .ok (.aload_n 0, 1) := by decide +kernel
theorem dX8_lacking_12 : decode cX8_lacking 12 = .ok (.iload_n 1, 1) := by decide +kernel
theorem dX8_lacking_13 : decode cX8_lacking 13 = .ok (.iload_n 3, 1) := by decide +kernel
theorem dX8_lacking_14 : decode cX8_lacking 14 = .ok (.invokevirtual 196, 3) := by decide +kernel
theorem dX8_lacking_17 : decode cX8_lacking 17 = .ok (.ifCond .eq 21, 3) := by decide +kernel
theorem dX8_lacking_20 : decode cX8_lacking 20 = .ok (.aload_n 0, 1) := by decide +kernel
theorem dX8_lacking_21 : decode cX8_lacking 21 = .ok (.getfield 31, 3) := by decide +kernel
theorem dX8_lacking_24 : decode cX8_lacking 24 = .ok (.bipush 6, 2) := by decide +kernel
theorem dX8_lacking_26 : decode cX8_lacking 26 = .ok (.iload_n 1, 1) := by decide +kernel
theorem dX8_lacking_27 : decode cX8_lacking 27 = .ok (.imul, 1) := by decide +kernel
theorem dX8_lacking_28 : decode cX8_lacking 28 = .ok (.iload_n 3, 1) := by decide +kernel
theorem dX8_lacking_29 : decode cX8_lacking 29 = .ok (.iadd, 1) := by decide +kernel
theorem dX8_lacking_30 : decode cX8_lacking 30 = .ok (.baload, 1) := by decide +kernel
theorem dX8_lacking_31 : decode cX8_lacking 31 = .ok (.ifCond .ne 7, 3) := by decide +kernel
theorem dX8_lacking_34 : decode cX8_lacking 34 = .ok (.iconst 1, 1) := by decide +kernel
theorem dX8_lacking_35 : decode cX8_lacking 35 = .ok (.goto 4, 3) := by decide +kernel
theorem dX8_lacking_38 : decode cX8_lacking 38 = .ok (.iconst 0, 1) := by decide +kernel
theorem dX8_lacking_39 : decode cX8_lacking 39 = .ok (.iadd, 1) := by decide +kernel
theorem dX8_lacking_40 : decode cX8_lacking 40 = .ok (.istore_n 2, 1) := by decide +kernel
theorem dX8_lacking_41 : decode cX8_lacking 41 = .ok (.iinc 3 1, 3) := by decide +kernel
theorem dX8_lacking_44 : decode cX8_lacking 44 = .ok (.goto (-40), 3) := by decide +kernel
theorem dX8_lacking_47 : decode cX8_lacking 47 = .ok (.iload_n 2, 1) := by decide +kernel
theorem dX8_lacking_48 : decode cX8_lacking 48 = .ok (.ireturn, 1) := by decide +kernel
theorem dX8_areOne_0 : decode cX8_areOne 0 = .ok (.aload_n 0, 1) := by decide +kernel
theorem dX8_areOne_1 : decode cX8_areOne 1 = .ok (.iload_n 1, 1) := by decide +kernel
theorem dX8_areOne_2 : decode cX8_areOne 2 = .ok (.invokevirtual 199, 3) := by decide +kernel
theorem dX8_areOne_5 : decode cX8_areOne 5 = .ok (.ifCond .eq 14, 3) := by decide +kernel
theorem dX8_areOne_8 : decode cX8_areOne 8 = .ok (.iload_n 2, 1) := by decide +kernel
theorem dX8_areOne_9 : decode cX8_areOne 9 = .ok (.invokestatic 139, 3) := by decide +kernel
theorem dX8_areOne_12 : decode cX8_areOne 12 = .ok (.ifCond .eq 7, 3) := by decide +kernel
theorem dX8_areOne_15 : decode cX8_areOne 15 = .ok (.iconst 1, 1) := by decide +kernel
theorem dX8_areOne_16 : decode cX8_areOne 16 = .ok (.goto 4, 3) := by decide +kernel
theorem dX8_areOne_19 : decode cX8_areOne 19 = .ok (.iconst 0, 1) := by decide +kernel
theorem dX8_areOne_20 : decode cX8_areOne 20 = .ok (.ireturn, 1) := by decide +kernel
theorem dX8_put_0 : decode cX8_put 0 = .ok (.aload_n 0, 1) := by decide +kernel
theorem dX8_put_1 : decode cX8_put 1 = .ok (.aload_n 0, 1) := by decide +kernel
theorem dX8_put_2 : decode cX8_put 2 = .ok (.iload_n 1, 1) := by decide +kernel
theorem dX8_put_3 : decode cX8_put 3 = .ok (.iload_n 2, 1) := by decide +kernel
theorem dX8_put_4 : decode cX8_put 4 = .ok (.invokevirtual 202, 3) := by decide +kernel
theorem dX8_put_7 : decode cX8_put 7 = .ok (.ifCond .ne 7, 3) := by decide +kernel
theorem dX8_put_10 : decode cX8_put 10 = .ok (.iconst 1, 1) := by decide +kernel
theorem dX8_put_11 : decode cX8_put 11 = .ok (.goto 40, 3) := by decide +kernel
theorem dX8_put_14 : decode cX8_put 14 = .ok (.aload_n 0, 1) := by decide +kernel
theorem dX8_put_15 : decode cX8_put 15 = .ok (.getfield 22, 3) := by decide +kernel
theorem dX8_put_18 : decode cX8_put 18 = .ok (.iload_n 1, 1) := by decide +kernel
theorem dX8_put_19 : decode cX8_put 19 = .ok (.iaload, 1) := by decide +kernel
theorem dX8_put_20 : decode cX8_put 20 = .ok (.ifCond .ne 12, 3) := by decide +kernel
theorem dX8_put_23 : decode cX8_put 23 = .ok (.aload_n 0, 1) := by decide +kernel
theorem dX8_put_24 : decode cX8_put 24 = .ok (.iload_n 1, 1) := by decide +kernel
theorem dX8_put_25 : decode cX8_put 25 = .ok (.iload_n 2, 1) := by decide +kernel
theorem dX8_put_26 : decode cX8_put 26 = .ok (.invokevirtual 196, 3) := by decide +kernel
theorem dX8_put_29 : decode cX8_put 29 = .ok (.ifCond .ne 7, 3) := by decide +kernel
theorem dX8_put_32 : decode cX8_put 32 = .ok (.iconst 2, 1) := by decide +kernel
theorem dX8_put_33 : decode cX8_put 33 = .ok (.goto 18, 3) := by decide +kernel
theorem dX8_put_36 : decode cX8_put 36 = .ok (.aload_n 0, 1) := by decide +kernel
theorem dX8_put_37 : decode cX8_put 37 = .ok (.iload_n 1, 1) := by decide +kernel
theorem dX8_put_38 : decode cX8_put 38 = .ok (.iload_n 2, 1) := by decide +kernel
theorem dX8_put_39 : decode cX8_put 39 = .ok (.iload_n 3, 1) := by decide +kernel
theorem dX8_put_40 : decode cX8_put 40 = .ok (.invokevirtual 205, 3) := by decide +kernel
theorem dX8_put_43 : decode cX8_put 43 = .ok (.ifCond .ne 7, 3) := by decide +kernel
theorem dX8_put_46 : decode cX8_put 46 = .ok (.iconst 3, 1) := by decide +kernel
theorem dX8_put_47 : decode cX8_put 47 = .ok (.goto 4, 3) := by decide +kernel
theorem dX8_put_50 : decode cX8_put 50 = .ok (.iconst 0, 1) := by decide +kernel
theorem dX8_put_51 : decode cX8_put 51 = .ok (.putfield 66, 3) := by decide +kernel
theorem dX8_put_54 : decode cX8_put 54 = .ok (.aload_n 0, 1) := by decide +kernel
theorem dX8_put_55 : decode cX8_put 55 = .ok (.getfield 66, 3) := by decide +kernel
theorem dX8_put_58 : decode cX8_put 58 = .ok (.ifCond .le 5, 3) := by decide +kernel
theorem dX8_put_61 : decode cX8_put 61 = .ok (.iconst 0, 1) := by decide +kernel
theorem dX8_put_62 : decode cX8_put 62 = .ok (.ireturn, 1) := by decide +kernel
theorem dX8_put_63 : decode cX8_put 63 = .ok (.aload_n 0, 1) := by decide +kernel
theorem dX8_put_64 : decode cX8_put 64 = .ok (.getfield 28, 3) := by decide +kernel
theorem dX8_put_67 : decode cX8_put 67 = .ok (.bipush 6, 2) := by decide +kernel
theorem dX8_put_69 : decode cX8_put 69 = .ok (.iload_n 1, 1) := by decide +kernel
theorem dX8_put_70 : decode cX8_put 70 = .ok (.imul, 1) := by decide +kernel
theorem dX8_put_71 : decode cX8_put 71 = .ok (.iload_n 2, 1) := by decide +kernel
theorem dX8_put_72 : decode cX8_put 72 = .ok (.iadd, 1) := by decide +kernel
theorem dX8_put_73 : decode cX8_put 73 = .ok (.iload_n 3, 1) := by decide +kernel
theorem dX8_put_74 : decode cX8_put 74 = .ok (.iastore, 1) := by decide +kernel
theorem dX8_put_75 : decode cX8_put 75 = .ok (.aload_n 0, 1) := by decide +kernel
theorem dX8_put_76 : decode cX8_put 76 = .ok (.getfield 31, 3) := by decide +kernel
theorem dX8_put_79 : decode cX8_put 79 = .ok (.bipush 6, 2) := by decide +kernel
theorem dX8_put_81 : decode cX8_put 81 = .ok (.iload_n 1, 1) := by decide +kernel
theorem dX8_put_82 : decode cX8_put 82 = .ok (.imul, 1) := by decide +kernel
theorem dX8_put_83 : decode cX8_put 83 = .ok (.iload_n 2, 1) := by decide +kernel
theorem dX8_put_84 : decode cX8_put 84 = .ok (.iadd, 1) := by decide +kernel
theorem dX8_put_85 : decode cX8_put 85 = .ok (.iconst 1, 1) := by decide +kernel
theorem dX8_put_86 : decode cX8_put 86 = .ok (.bastore, 1) := by decide +kernel
theorem dX8_put_87 : decode cX8_put 87 = .ok (.aload_n 0, 1) := by decide +kernel
theorem dX8_put_88 : decode cX8_put 88 = .ok (.iload_n 1, 1) := by decide +kernel
theorem dX8_put_89 : decode cX8_put 89 = .ok (.invokevirtual 208, 3) := by decide +kernel
theorem dX8_put_92 : decode cX8_put 92 = .ok (.ireturn, 1) := by decide +kernel
theorem dX8_compute_0 : decode cX8_compute 0 = .ok (.aload_n 0, 1) := by decide +kernel
theorem dX8_compute_1 : decode cX8_compute 1 = .ok (.aload_n 0, 1) := by decide +kernel
theorem dX8_compute_2 : decode cX8_compute 2 = .ok (.getfield 25, 3) := by decide +kernel
theorem dX8_compute_5 : decode cX8_compute 5 = .ok (.iload_n 1, 1) := by decide +kernel
theorem dX8_compute_6 : decode cX8_compute 6 = .ok (.iaload, 1) := by decide +kernel
theorem dX8_compute_7 : decode cX8_compute 7 = .ok (.invokevirtual 178, 3) := by decide +kernel
theorem dX8_compute_10 : decode cX8_compute 10 = .ok (.istore_n 2, 1) := by decide +kernel
theorem dX8_compute_11 : decode cX8_compute 11 = .ok (.iconst 0, 1) := by decide +kernel
theorem dX8_compute_12 : decode cX8_compute 12 = .ok (.istore_n 3, 1) := by decide +kernel
theorem dX8_compute_13 : decode cX8_compute 13 = .ok (.iload_n 3, 1) := by decide +kernel
theorem dX8_compute_14 : decode cX8_compute 14 = .ok (.iload_n 2, 1) := by decide +kernel
theorem dX8_compute_15 : decode cX8_compute 15 = .ok (.if_icmp .ge 53, 3) := by decide +kernel
theorem dX8_compute_18 : decode cX8_compute 18 = .ok (.aload_n 0, 1) := by decide +kernel
theorem dX8_compute_19 : decode cX8_compute 19 = .ok (.getfield 28, 3) := by decide +kernel
theorem dX8_compute_22 : decode cX8_compute 22 = .ok (.bipush 6, 2) := by decide +kernel
theorem dX8_compute_24 : decode cX8_compute 24 = .ok (.iload_n 1, 1) := by decide +kernel
theorem dX8_compute_25 : decode cX8_compute 25 = .ok (.imul, 1) := by decide +kernel
theorem dX8_compute_26 : decode cX8_compute 26 = .ok (.aload_n 0, 1) := by decide +kernel
theorem dX8_compute_27 : decode cX8_compute 27 = .ok (.getfield 53, 3) := by decide +kernel
theorem dX8_compute_30 : decode cX8_compute 30 = .ok (.iload_n 3, 1) := by decide +kernel
theorem dX8_compute_31 : decode cX8_compute 31 = .ok (.iaload, 1) := by decide +kernel
theorem dX8_compute_32 : decode cX8_compute 32 = .ok (.iadd, 1) := by decide +kernel
theorem dX8_compute_33 : decode cX8_compute 33 = .ok (.aload_n 0, 1) := by decide +kernel
theorem dX8_compute_34 : decode cX8_compute 34 = .ok (.iload_n 1, 1) := by decide +kernel
theorem dX8_compute_35 : decode cX8_compute 35 = .ok (.aload_n 0, 1) := by decide +kernel
theorem dX8_compute_36 : decode cX8_compute 36 = .ok (.getfield 53, 3) := by decide +kernel
theorem dX8_compute_39 : decode cX8_compute 39 = .ok (.iload_n 3, 1) := by decide +kernel
theorem dX8_compute_40 : decode cX8_compute 40 = .ok (.iaload, 1) := by decide +kernel
theorem dX8_compute_41 : decode cX8_compute 41 = .ok (.invokevirtual 211, 3) := by decide +kernel
theorem dX8_compute_44 : decode cX8_compute 44 = .ok (.iastore, 1) := by decide +kernel
theorem dX8_compute_45 : decode cX8_compute 45 = .ok (.aload_n 0, 1) := by decide +kernel
theorem dX8_compute_46 : decode cX8_compute 46 = .ok (.getfield 31, 3) := by decide +kernel
theorem dX8_compute_49 : decode cX8_compute 49 = .ok (.bipush 6, 2) := by decide +kernel
theorem dX8_compute_51 : decode cX8_compute 51 = .ok (.iload_n 1, 1) := by decide +kernel
theorem dX8_compute_52 : decode cX8_compute 52 = .ok (.imul, 1) := by decide +kernel
theorem dX8_compute_53 : decode cX8_compute 53 = .ok (.aload_n 0, 1) := by decide +kernel
theorem dX8_compute_54 : decode cX8_compute 54 = .ok (.getfield 53, 3) := by decide +kernel
theorem dX8_compute_57 : decode cX8_compute 57 = .ok (.iload_n 3, 1) := by decide +kernel
theorem dX8_compute_58 : decode cX8_compute 58 = .ok (.iaload, 1) := by decide +kernel
theorem dX8_compute_59 : decode cX8_compute 59 = .ok (.iadd, 1) := by decide +kernel
theorem dX8_compute_60 : decode cX8_compute 60 = .ok (.iconst 1, 1) := by decide +kernel
theorem dX8_compute_61 : decode cX8_compute 61 = .ok (.bastore, 1) := by decide +kernel
theorem dX8_compute_62 : decode cX8_compute 62 = .ok (.iinc 3 1, 3) := by decide +kernel
theorem dX8_compute_65 : decode cX8_compute 65 = .ok (.goto (-52), 3) := by decide +kernel
theorem dX8_compute_68 : decode cX8_compute 68 = .ok (.return_, 1) := by decide +kernel
theorem dX8_refusing_0 : decode cX8_refusing 0 = .ok (.bipush 6, 2) := by decide +kernel
theorem dX8_refusing_2 : decode cX8_refusing 2 = .ok (.istore_n 2, 1) := by decide +kernel
theorem dX8_refusing_3 : decode cX8_refusing 3 = .ok (.iload_n 2, 1) := by decide +kernel
theorem dX8_refusing_4 : decode cX8_refusing 4 = .ok (.bipush 10, 2) := by decide +kernel
theorem dX8_refusing_6 : decode cX8_refusing 6 = .ok (.if_icmp .ge 41, 3) := by decide +kernel
theorem dX8_refusing_9 : decode cX8_refusing 9 = .ok (.aload_n 0, 1) := by decide +kernel
theorem dX8_refusing_10 : decode cX8_refusing 10 = .ok (.getfield 16, 3) := by decide +kernel
theorem dX8_refusing_13 : decode cX8_refusing 13 = .ok (.bipush 10, 2) := by decide +kernel
theorem dX8_refusing_15 : decode cX8_refusing 15 = .ok (.aload_n 0, 1) := by decide +kernel
theorem dX8_refusing_16 : decode cX8_refusing 16 = .ok (.getfield 25, 3) := by decide +kernel
theorem dX8_refusing_19 : decode cX8_refusing 19 = .ok (.iload_n 1, 1) := by decide +kernel
theorem dX8_refusing_20 : decode cX8_refusing 20 = .ok (.iaload, 1) := by decide +kernel
theorem dX8_refusing_21 : decode cX8_refusing 21 = .ok (.iconst 1, 1) := by decide +kernel
theorem dX8_refusing_22 : decode cX8_refusing 22 = .ok (.iadd, 1) := by decide +kernel
theorem dX8_refusing_23 : decode cX8_refusing 23 = .ok (.imul, 1) := by decide +kernel
theorem dX8_refusing_24 : decode cX8_refusing 24 = .ok (.iload_n 2, 1) := by decide +kernel
theorem dX8_refusing_25 : decode cX8_refusing 25 = .ok (.iadd, 1) := by decide +kernel
theorem dX8_refusing_26 : decode cX8_refusing 26 = .ok (.iaload, 1) := by decide +kernel
theorem dX8_refusing_27 : decode cX8_refusing 27 = .ok (.ifCond .le 14, 3) := by decide +kernel
theorem dX8_refusing_30 : decode cX8_refusing 30 = .ok (.aload_n 0, 1) := by decide +kernel
theorem dX8_refusing_31 : decode cX8_refusing 31 = .ok (.iload_n 1, 1) := by decide +kernel
theorem dX8_refusing_32 : decode cX8_refusing 32 = .ok (.iload_n 2, 1) := by decide +kernel
theorem dX8_refusing_33 : decode cX8_refusing 33 = .ok (.invokevirtual 211, 3) := by decide +kernel
theorem dX8_refusing_36 : decode cX8_refusing 36 = .ok (.ifCond .ne 5, 3) := by decide +kernel
theorem dX8_refusing_39 : decode cX8_refusing 39 = .ok (.iload_n 2, 1) := by decide +kernel
theorem dX8_refusing_40 : decode cX8_refusing 40 = .ok (.ireturn, 1) := by decide +kernel
theorem dX8_refusing_41 : decode cX8_refusing 41 = .ok (.iinc 2 1, 3) := by decide +kernel
theorem dX8_refusing_44 : decode cX8_refusing 44 = .ok (.goto (-41), 3) := by decide +kernel
theorem dX8_refusing_47 : decode cX8_refusing 47 = .ok (.iconst (-1), 1) := by decide +kernel
theorem dX8_refusing_48 : decode cX8_refusing 48 = .ok (.ireturn, 1) := by decide +kernel
theorem dX8_judge_0 : decode cX8_judge 0 = .ok (.aload_n 0, 1) := by decide +kernel
theorem dX8_judge_1 : decode cX8_judge 1 = .ok (.iload_n 1, 1) := by decide +kernel
theorem dX8_judge_2 : decode cX8_judge 2 = .ok (.invokevirtual 214, 3) := by decide +kernel
theorem dX8_judge_5 : decode cX8_judge 5 = .ok (.aload_n 0, 1) := by decide +kernel
theorem dX8_judge_6 : decode cX8_judge 6 = .ok (.getfield 22, 3) := by decide +kernel
theorem dX8_judge_9 : decode cX8_judge 9 = .ok (.iload_n 1, 1) := by decide +kernel
theorem dX8_judge_10 : decode cX8_judge 10 = .ok (.aload_n 0, 1) := by decide +kernel
theorem dX8_judge_11 : decode cX8_judge 11 = .ok (.iload_n 1, 1) := by decide +kernel
theorem dX8_judge_12 : decode cX8_judge 12 = .ok (.invokevirtual 217, 3) := by decide +kernel
theorem dX8_judge_15 : decode cX8_judge 15 = .ok (.iconst (-1), 1) := by decide +kernel
theorem dX8_judge_16 : decode cX8_judge 16 = .ok (.if_icmp .eq 7, 3) := by decide +kernel
theorem dX8_judge_19 : decode cX8_judge 19 = .ok (.iconst 2, 1) := by decide +kernel
theorem dX8_judge_20 : decode cX8_judge 20 = .ok (.goto 17, 3) := by decide +kernel
theorem dX8_judge_23 : decode cX8_judge 23 = .ok (.aload_n 0, 1) := by decide +kernel
theorem dX8_judge_24 : decode cX8_judge 24 = .ok (.getfield 35, 3) := by decide +kernel
theorem dX8_judge_27 : decode cX8_judge 27 = .ok (.iload_n 1, 1) := by decide +kernel
theorem dX8_judge_28 : decode cX8_judge 28 = .ok (.iaload, 1) := by decide +kernel
theorem dX8_judge_29 : decode cX8_judge 29 = .ok (.ifCond .le 7, 3) := by decide +kernel
theorem dX8_judge_32 : decode cX8_judge 32 = .ok (.iconst 3, 1) := by decide +kernel
theorem dX8_judge_33 : decode cX8_judge 33 = .ok (.goto 4, 3) := by decide +kernel
theorem dX8_judge_36 : decode cX8_judge 36 = .ok (.iconst 1, 1) := by decide +kernel
theorem dX8_judge_37 : decode cX8_judge 37 = .ok (.iastore, 1) := by decide +kernel
theorem dX8_judge_38 : decode cX8_judge 38 = .ok (.aload_n 0, 1) := by decide +kernel
theorem dX8_judge_39 : decode cX8_judge 39 = .ok (.getfield 22, 3) := by decide +kernel
theorem dX8_judge_42 : decode cX8_judge 42 = .ok (.iload_n 1, 1) := by decide +kernel
theorem dX8_judge_43 : decode cX8_judge 43 = .ok (.iaload, 1) := by decide +kernel
theorem dX8_judge_44 : decode cX8_judge 44 = .ok (.ireturn, 1) := by decide +kernel
theorem dX8_handIn_0 : decode cX8_handIn 0 = .ok (.aload_n 0, 1) := by decide +kernel
theorem dX8_handIn_1 : decode cX8_handIn 1 = .ok (.aload_n 0, 1) := by decide +kernel
theorem dX8_handIn_2 : decode cX8_handIn 2 = .ok (.iload_n 1, 1) := by decide +kernel
theorem dX8_handIn_3 : decode cX8_handIn 3 = .ok (.invokevirtual 199, 3) := by decide +kernel
theorem dX8_handIn_6 : decode cX8_handIn 6 = .ok (.ifCond .ne 7, 3) := by decide +kernel
theorem dX8_handIn_9 : decode cX8_handIn 9 = .ok (.iconst 1, 1) := by decide +kernel
theorem dX8_handIn_10 : decode cX8_handIn 10 = .ok (.goto 25, 3) := by decide +kernel
theorem dX8_handIn_13 : decode cX8_handIn 13 = .ok (.aload_n 0, 1) := by decide +kernel
theorem dX8_handIn_14 : decode cX8_handIn 14 = .ok (.getfield 22, 3) := by decide +kernel
theorem dX8_handIn_17 : decode cX8_handIn 17 = .ok (.iload_n 1, 1) := by decide +kernel
theorem dX8_handIn_18 : decode cX8_handIn 18 = .ok (.iaload, 1) := by decide +kernel
theorem dX8_handIn_19 : decode cX8_handIn 19 = .ok (.ifCond .ne 11, 3) := by decide +kernel
theorem dX8_handIn_22 : decode cX8_handIn 22 = .ok (.aload_n 0, 1) := by decide +kernel
theorem dX8_handIn_23 : decode cX8_handIn 23 = .ok (.iload_n 1, 1) := by decide +kernel
theorem dX8_handIn_24 : decode cX8_handIn 24 = .ok (.invokevirtual 208, 3) := by decide +kernel
theorem dX8_handIn_27 : decode cX8_handIn 27 = .ok (.ifCond .le 7, 3) := by decide +kernel
theorem dX8_handIn_30 : decode cX8_handIn 30 = .ok (.iconst 2, 1) := by decide +kernel
theorem dX8_handIn_31 : decode cX8_handIn 31 = .ok (.goto 4, 3) := by decide +kernel
theorem dX8_handIn_34 : decode cX8_handIn 34 = .ok (.iconst 0, 1) := by decide +kernel
theorem dX8_handIn_35 : decode cX8_handIn 35 = .ok (.putfield 66, 3) := by decide +kernel
theorem dX8_handIn_38 : decode cX8_handIn 38 = .ok (.aload_n 0, 1) := by decide +kernel
theorem dX8_handIn_39 : decode cX8_handIn 39 = .ok (.getfield 66, 3) := by decide +kernel
theorem dX8_handIn_42 : decode cX8_handIn 42 = .ok (.ifCond .ne 11, 3) := by decide +kernel
theorem dX8_handIn_45 : decode cX8_handIn 45 = .ok (.aload_n 0, 1) := by decide +kernel
theorem dX8_handIn_46 : decode cX8_handIn 46 = .ok (.iload_n 1, 1) := by decide +kernel
theorem dX8_handIn_47 : decode cX8_handIn 47 = .ok (.invokevirtual 220, 3) := by decide +kernel
theorem dX8_handIn_50 : decode cX8_handIn 50 = .ok (.goto 4, 3) := by decide +kernel
theorem dX8_handIn_53 : decode cX8_handIn 53 = .ok (.iconst 0, 1) := by decide +kernel
theorem dX8_handIn_54 : decode cX8_handIn 54 = .ok (.ireturn, 1) := by decide +kernel
theorem dX8_answers_0 : decode cX8_answers 0 = .ok (.aload_n 0, 1) := by decide +kernel
theorem dX8_answers_1 : decode cX8_answers 1 = .ok (.iconst 0, 1) := by decide +kernel
theorem dX8_answers_2 : decode cX8_answers 2 = .ok (.putfield 66, 3) := by decide +kernel
theorem dX8_answers_5 : decode cX8_answers 5 = .ok (.aload_n 0, 1) := by decide +kernel
theorem dX8_answers_6 : decode cX8_answers 6 = .ok (.getfield 165, 3) := by decide +kernel
theorem dX8_answers_9 : decode cX8_answers 9 = .ok (.ireturn, 1) := by decide +kernel
theorem dX8_asksFor_0 : decode cX8_asksFor 0 = .ok (.aload_n 0, 1) := by decide +kernel
theorem dX8_asksFor_1 : decode cX8_asksFor 1 = .ok (.aload_n 0, 1) := by decide +kernel
theorem dX8_asksFor_2 : decode cX8_asksFor 2 = .ok (.iload_n 1, 1) := by decide +kernel
theorem dX8_asksFor_3 : decode cX8_asksFor 3 = .ok (.invokevirtual 199, 3) := by decide +kernel
theorem dX8_asksFor_6 : decode cX8_asksFor 6 = .ok (.ifCond .eq 7, 3) := by decide +kernel
theorem dX8_asksFor_9 : decode cX8_asksFor 9 = .ok (.iconst 0, 1) := by decide +kernel
theorem dX8_asksFor_10 : decode cX8_asksFor 10 = .ok (.goto 4, 3) := by decide +kernel
theorem dX8_asksFor_13 : decode cX8_asksFor 13 = .ok (.iconst 1, 1) := by decide +kernel
theorem dX8_asksFor_14 : decode cX8_asksFor 14 = .ok (.putfield 66, 3) := by decide +kernel
theorem dX8_asksFor_17 : decode cX8_asksFor 17 = .ok (.aload_n 0, 1) := by decide +kernel
theorem dX8_asksFor_18 : decode cX8_asksFor 18 = .ok (.getfield 66, 3) := by decide +kernel
theorem dX8_asksFor_21 : decode cX8_asksFor 21 = .ok (.ifCond .ne 7, 3) := by decide +kernel
theorem dX8_asksFor_24 : decode cX8_asksFor 24 = .ok (.iconst 1, 1) := by decide +kernel
theorem dX8_asksFor_25 : decode cX8_asksFor 25 = .ok (.goto 4, 3) := by decide +kernel
theorem dX8_asksFor_28 : decode cX8_asksFor 28 = .ok (.iconst 0, 1) := by decide +kernel
theorem dX8_asksFor_29 : decode cX8_asksFor 29 = .ok (.ireturn, 1) := by decide +kernel
theorem dX8_stateOf_0 : decode cX8_stateOf 0 = .ok (.aload_n 0, 1) := by decide +kernel
theorem dX8_stateOf_1 : decode cX8_stateOf 1 = .ok (.iload_n 1, 1) := by decide +kernel
theorem dX8_stateOf_2 : decode cX8_stateOf 2 = .ok (.invokevirtual 223, 3) := by decide +kernel
theorem dX8_stateOf_5 : decode cX8_stateOf 5 = .ok (.ifCond .eq 12, 3) := by decide +kernel
theorem dX8_stateOf_8 : decode cX8_stateOf 8 = .ok (.aload_n 0, 1) := by decide +kernel
theorem dX8_stateOf_9 : decode cX8_stateOf 9 = .ok (.getfield 22, 3) := by decide +kernel
theorem dX8_stateOf_12 : decode cX8_stateOf 12 = .ok (.iload_n 1, 1) := by decide +kernel
theorem dX8_stateOf_13 : decode cX8_stateOf 13 = .ok (.iaload, 1) := by decide +kernel
theorem dX8_stateOf_14 : decode cX8_stateOf 14 = .ok (.goto 4, 3) := by decide +kernel
theorem dX8_stateOf_17 : decode cX8_stateOf 17 = .ok (.iconst 0, 1) := by decide +kernel
theorem dX8_stateOf_18 : decode cX8_stateOf 18 = .ok (.ireturn, 1) := by decide +kernel
theorem dX8_versionOf_0 : decode cX8_versionOf 0 = .ok (.aload_n 0, 1) := by decide +kernel
theorem dX8_versionOf_1 : decode cX8_versionOf 1 = .ok (.iload_n 1, 1) := by decide +kernel
theorem dX8_versionOf_2 : decode cX8_versionOf 2 = .ok (.invokevirtual 223, 3) := by decide +kernel
theorem dX8_versionOf_5 : decode cX8_versionOf 5 = .ok (.ifCond .eq 12, 3) := by decide +kernel
theorem dX8_versionOf_8 : decode cX8_versionOf 8 = .ok (.aload_n 0, 1) := by decide +kernel
theorem dX8_versionOf_9 : decode cX8_versionOf 9 = .ok (.getfield 25, 3) := by decide +kernel
theorem dX8_versionOf_12 : decode cX8_versionOf 12 = .ok (.iload_n 1, 1) := by decide +kernel
theorem dX8_versionOf_13 : decode cX8_versionOf 13 = .ok (.iaload, 1) := by decide +kernel
theorem dX8_versionOf_14 : decode cX8_versionOf 14 = .ok (.goto 4, 3) := by decide +kernel
theorem dX8_versionOf_17 : decode cX8_versionOf 17 = .ok (.iconst 0, 1) := by decide +kernel
theorem dX8_versionOf_18 : decode cX8_versionOf 18 = .ok (.ireturn, 1) := by decide +kernel
theorem dX8_value_0 : decode cX8_value 0 = .ok (.aload_n 0, 1) := by decide +kernel
theorem dX8_value_1 : decode cX8_value 1 = .ok (.aload_n 0, 1) := by decide +kernel
theorem dX8_value_2 : decode cX8_value 2 = .ok (.iload_n 1, 1) := by decide +kernel
theorem dX8_value_3 : decode cX8_value 3 = .ok (.iload_n 2, 1) := by decide +kernel
theorem dX8_value_4 : decode cX8_value 4 = .ok (.invokevirtual 202, 3) := by decide +kernel
theorem dX8_value_7 : decode cX8_value 7 = .ok (.ifCond .ne 7, 3) := by decide +kernel
theorem dX8_value_10 : decode cX8_value 10 = .ok (.iconst 1, 1) := by decide +kernel
theorem dX8_value_11 : decode cX8_value 11 = .ok (.goto 22, 3) := by decide +kernel
theorem dX8_value_14 : decode cX8_value 14 = .ok (.aload_n 0, 1) := by decide +kernel
theorem dX8_value_15 : decode cX8_value 15 = .ok (.getfield 31, 3) := by decide +kernel
theorem dX8_value_18 : decode cX8_value 18 = .ok (.bipush 6, 2) := by decide +kernel
theorem dX8_value_20 : decode cX8_value 20 = .ok (.iload_n 1, 1) := by decide +kernel
theorem dX8_value_21 : decode cX8_value 21 = .ok (.imul, 1) := by decide +kernel
theorem dX8_value_22 : decode cX8_value 22 = .ok (.iload_n 2, 1) := by decide +kernel
theorem dX8_value_23 : decode cX8_value 23 = .ok (.iadd, 1) := by decide +kernel
theorem dX8_value_24 : decode cX8_value 24 = .ok (.baload, 1) := by decide +kernel
theorem dX8_value_25 : decode cX8_value 25 = .ok (.ifCond .ne 7, 3) := by decide +kernel
theorem dX8_value_28 : decode cX8_value 28 = .ok (.iconst 2, 1) := by decide +kernel
theorem dX8_value_29 : decode cX8_value 29 = .ok (.goto 4, 3) := by decide +kernel
theorem dX8_value_32 : decode cX8_value 32 = .ok (.iconst 0, 1) := by decide +kernel
theorem dX8_value_33 : decode cX8_value 33 = .ok (.putfield 66, 3) := by decide +kernel
theorem dX8_value_36 : decode cX8_value 36 = .ok (.aload_n 0, 1) := by decide +kernel
theorem dX8_value_37 : decode cX8_value 37 = .ok (.getfield 66, 3) := by decide +kernel
theorem dX8_value_40 : decode cX8_value 40 = .ok (.ifCond .ne 17, 3) := by decide +kernel
theorem dX8_value_43 : decode cX8_value 43 = .ok (.aload_n 0, 1) := by decide +kernel
theorem dX8_value_44 : decode cX8_value 44 = .ok (.getfield 28, 3) := by decide +kernel
theorem dX8_value_47 : decode cX8_value 47 = .ok (.bipush 6, 2) := by decide +kernel
theorem dX8_value_49 : decode cX8_value 49 = .ok (.iload_n 1, 1) := by decide +kernel
theorem dX8_value_50 : decode cX8_value 50 = .ok (.imul, 1) := by decide +kernel
theorem dX8_value_51 : decode cX8_value 51 = .ok (.iload_n 2, 1) := by decide +kernel
theorem dX8_value_52 : decode cX8_value 52 = .ok (.iadd, 1) := by decide +kernel
theorem dX8_value_53 : decode cX8_value 53 = .ok (.iaload, 1) := by decide +kernel
theorem dX8_value_54 : decode cX8_value 54 = .ok (.goto 4, 3) := by decide +kernel
theorem dX8_value_57 : decode cX8_value 57 = .ok (.iconst 0, 1) := by decide +kernel
theorem dX8_value_58 : decode cX8_value 58 = .ok (.ireturn, 1) := by decide +kernel
theorem dX8_refusal_0 : decode cX8_refusal 0 = .ok (.aload_n 0, 1) := by decide +kernel
theorem dX8_refusal_1 : decode cX8_refusal 1 = .ok (.aload_n 0, 1) := by decide +kernel
theorem dX8_refusal_2 : decode cX8_refusal 2 = .ok (.iload_n 1, 1) := by decide +kernel
theorem dX8_refusal_3 : decode cX8_refusal 3 = .ok (.invokevirtual 199, 3) := by decide +kernel
theorem dX8_refusal_6 : decode cX8_refusal 6 = .ok (.ifCond .ne 7, 3) := by decide +kernel
theorem dX8_refusal_9 : decode cX8_refusal 9 = .ok (.iconst 1, 1) := by decide +kernel
theorem dX8_refusal_10 : decode cX8_refusal 10 = .ok (.goto 17, 3) := by decide +kernel
theorem dX8_refusal_13 : decode cX8_refusal 13 = .ok (.aload_n 0, 1) := by decide +kernel
theorem dX8_refusal_14 : decode cX8_refusal 14 = .ok (.getfield 22, 3) := by decide +kernel
theorem dX8_refusal_17 : decode cX8_refusal 17 = .ok (.iload_n 1, 1) := by decide +kernel
theorem dX8_refusal_18 : decode cX8_refusal 18 = .ok (.iaload, 1) := by decide +kernel
theorem dX8_refusal_19 : decode cX8_refusal 19 = .ok (.ifCond .ne 7, 3) := by decide +kernel
theorem dX8_refusal_22 : decode cX8_refusal 22 = .ok (.iconst 2, 1) := by decide +kernel
theorem dX8_refusal_23 : decode cX8_refusal 23 = .ok (.goto 4, 3) := by decide +kernel
theorem dX8_refusal_26 : decode cX8_refusal 26 = .ok (.iconst 0, 1) := by decide +kernel
theorem dX8_refusal_27 : decode cX8_refusal 27 = .ok (.putfield 66, 3) := by decide +kernel
theorem dX8_refusal_30 : decode cX8_refusal 30 = .ok (.aload_n 0, 1) := by decide +kernel
theorem dX8_refusal_31 : decode cX8_refusal 31 = .ok (.getfield 66, 3) := by decide +kernel
theorem dX8_refusal_34 : decode cX8_refusal 34 = .ok (.ifCond .ne 11, 3) := by decide +kernel
theorem dX8_refusal_37 : decode cX8_refusal 37 = .ok (.aload_n 0, 1) := by decide +kernel
theorem dX8_refusal_38 : decode cX8_refusal 38 = .ok (.iload_n 1, 1) := by decide +kernel
theorem dX8_refusal_39 : decode cX8_refusal 39 = .ok (.invokevirtual 217, 3) := by decide +kernel
theorem dX8_refusal_42 : decode cX8_refusal 42 = .ok (.goto 4, 3) := by decide +kernel
theorem dX8_refusal_45 : decode cX8_refusal 45 = .ok (.iconst 0, 1) := by decide +kernel
theorem dX8_refusal_46 : decode cX8_refusal 46 = .ok (.ireturn, 1) := by decide +kernel
theorem dX8_counted_0 : decode cX8_counted 0 = .ok (.aload_n 0, 1) := by decide +kernel
theorem dX8_counted_1 : decode cX8_counted 1 = .ok (.iconst 0, 1) := by decide +kernel
theorem dX8_counted_2 : decode cX8_counted 2 = .ok (.putfield 66, 3) := by decide +kernel
theorem dX8_counted_5 : decode cX8_counted 5 = .ok (.iconst 0, 1) := by decide +kernel
theorem dX8_counted_6 : decode cX8_counted 6 = .ok (.istore_n 1, 1) := by decide +kernel
theorem dX8_counted_7 : decode cX8_counted 7 = .ok (.iconst 0, 1) := by decide +kernel
theorem dX8_counted_8 : decode cX8_counted 8 = .ok (.istore_n 2, 1) := by decide +kernel
theorem dX8_counted_9 : decode cX8_counted 9 = .ok (.iload_n 2, 1) := by decide +kernel
theorem dX8_counted_10 : decode cX8_counted 10 = .ok (.aload_n 0, 1) := by decide +kernel
theorem dX8_counted_11 : decode cX8_counted 11 = .ok (.getfield 165, 3) := by decide +kernel
theorem dX8_counted_14 : decode cX8_counted 14 = .ok (.if_icmp .ge 27, 3) := by decide +kernel
theorem dX8_counted_17 : decode cX8_counted 17 = .ok (.iload_n 1, 1) := by decide +kernel
theorem dX8_counted_18 : decode cX8_counted 18 = .ok (.aload_n 0, 1) := by decide +kernel
theorem dX8_counted_19 : decode cX8_counted 19 = .ok (.getfield 22, 3) := by decide +kernel
theorem dX8_counted_22 : decode cX8_counted 22 = .ok (.iload_n 2, 1) := by decide +kernel
theorem dX8_counted_23 : decode cX8_counted 23 = .ok (.iaload, 1) := by decide +kernel
theorem dX8_counted_24 : decode cX8_counted 24 = .ok (.iconst 1, 1) := by decide +kernel
theorem dX8_counted_25 : decode cX8_counted 25 = .ok (.if_icmp .ne 7, 3) := by decide +kernel
theorem dX8_counted_28 : decode cX8_counted 28 = .ok (.iconst 1, 1) := by decide +kernel
theorem dX8_counted_29 : decode cX8_counted 29 = .ok (.goto 4, 3) := by decide +kernel
theorem dX8_counted_32 : decode cX8_counted 32 = .ok (.iconst 0, 1) := by decide +kernel
theorem dX8_counted_33 : decode cX8_counted 33 = .ok (.iadd, 1) := by decide +kernel
theorem dX8_counted_34 : decode cX8_counted 34 = .ok (.istore_n 1, 1) := by decide +kernel
theorem dX8_counted_35 : decode cX8_counted 35 = .ok (.iinc 2 1, 3) := by decide +kernel
theorem dX8_counted_38 : decode cX8_counted 38 = .ok (.goto (-29), 3) := by decide +kernel
theorem dX8_counted_41 : decode cX8_counted 41 = .ok (.iload_n 1, 1) := by decide +kernel
theorem dX8_counted_42 : decode cX8_counted 42 = .ok (.ireturn, 1) := by decide +kernel
theorem dX8_doubt_0 : decode cX8_doubt 0 = .ok (.aload_n 0, 1) := by decide +kernel
theorem dX8_doubt_1 : decode cX8_doubt 1 = .ok (.aload_n 0, 1) := by decide +kernel
theorem dX8_doubt_2 : decode cX8_doubt 2 = .ok (.iload_n 1, 1) := by decide +kernel
theorem dX8_doubt_3 : decode cX8_doubt 3 = .ok (.iload_n 2, 1) := by decide +kernel
theorem dX8_doubt_4 : decode cX8_doubt 4 = .ok (.invokevirtual 202, 3) := by decide +kernel
theorem dX8_doubt_7 : decode cX8_doubt 7 = .ok (.ifCond .ne 7, 3) := by decide +kernel
theorem dX8_doubt_10 : decode cX8_doubt 10 = .ok (.iconst 1, 1) := by decide +kernel
theorem dX8_doubt_11 : decode cX8_doubt 11 = .ok (.goto 42, 3) := by decide +kernel
theorem dX8_doubt_14 : decode cX8_doubt 14 = .ok (.aload_n 0, 1) := by decide +kernel
theorem dX8_doubt_15 : decode cX8_doubt 15 = .ok (.getfield 22, 3) := by decide +kernel
theorem dX8_doubt_18 : decode cX8_doubt 18 = .ok (.iload_n 1, 1) := by decide +kernel
theorem dX8_doubt_19 : decode cX8_doubt 19 = .ok (.iaload, 1) := by decide +kernel
theorem dX8_doubt_20 : decode cX8_doubt 20 = .ok (.iconst 1, 1) := by decide +kernel
theorem dX8_doubt_21 : decode cX8_doubt 21 = .ok (.if_icmp .eq 13, 3) := by decide +kernel
theorem dX8_doubt_24 : decode cX8_doubt 24 = .ok (.aload_n 0, 1) := by decide +kernel
theorem dX8_doubt_25 : decode cX8_doubt 25 = .ok (.getfield 22, 3) := by decide +kernel
theorem dX8_doubt_28 : decode cX8_doubt 28 = .ok (.iload_n 1, 1) := by decide +kernel
theorem dX8_doubt_29 : decode cX8_doubt 29 = .ok (.iaload, 1) := by decide +kernel
theorem dX8_doubt_30 : decode cX8_doubt 30 = .ok (.iconst 3, 1) := by decide +kernel
theorem dX8_doubt_31 : decode cX8_doubt 31 = .ok (.if_icmp .ne 17, 3) := by decide +kernel
theorem dX8_doubt_34 : decode cX8_doubt 34 = .ok (.aload_n 0, 1) := by decide +kernel
theorem dX8_doubt_35 : decode cX8_doubt 35 = .ok (.aload_n 0, 1) := by decide +kernel
theorem dX8_doubt_36 : decode cX8_doubt 36 = .ok (.getfield 25, 3) := by decide +kernel
theorem dX8_doubt_39 : decode cX8_doubt 39 = .ok (.iload_n 1, 1) := by decide +kernel
theorem dX8_doubt_40 : decode cX8_doubt 40 = .ok (.iaload, 1) := by decide +kernel
theorem dX8_doubt_41 : decode cX8_doubt 41 = .ok (.iload_n 2, 1) := by decide +kernel
theorem dX8_doubt_42 : decode cX8_doubt 42 = .ok (.invokevirtual 155, 3) := by decide +kernel
theorem dX8_doubt_45 : decode cX8_doubt 45 = .ok (.ifCond .ne 7, 3) := by decide +kernel
theorem dX8_doubt_48 : decode cX8_doubt 48 = .ok (.iconst 2, 1) := by decide +kernel
theorem dX8_doubt_49 : decode cX8_doubt 49 = .ok (.goto 4, 3) := by decide +kernel
theorem dX8_doubt_52 : decode cX8_doubt 52 = .ok (.iconst 0, 1) := by decide +kernel
theorem dX8_doubt_53 : decode cX8_doubt 53 = .ok (.putfield 66, 3) := by decide +kernel
theorem dX8_doubt_56 : decode cX8_doubt 56 = .ok (.aload_n 0, 1) := by decide +kernel
theorem dX8_doubt_57 : decode cX8_doubt 57 = .ok (.getfield 66, 3) := by decide +kernel
theorem dX8_doubt_60 : decode cX8_doubt 60 = .ok (.ifCond .le 5, 3) := by decide +kernel
theorem dX8_doubt_63 : decode cX8_doubt 63 = .ok (.iconst 0, 1) := by decide +kernel
theorem dX8_doubt_64 : decode cX8_doubt 64 = .ok (.ireturn, 1) := by decide +kernel
theorem dX8_doubt_65 : decode cX8_doubt 65 = .ok (.aload_n 0, 1) := by decide +kernel
theorem dX8_doubt_66 : decode cX8_doubt 66 = .ok (.getfield 35, 3) := by decide +kernel
theorem dX8_doubt_69 : decode cX8_doubt 69 = .ok (.iload_n 1, 1) := by decide +kernel
theorem dX8_doubt_70 : decode cX8_doubt 70 = .ok (.iaload, 1) := by decide +kernel
theorem dX8_doubt_71 : decode cX8_doubt 71 = .ok (.iload_n 2, 1) := by decide +kernel
theorem dX8_doubt_72 : decode cX8_doubt 72 = .ok (.ishr, 1) := by decide +kernel
theorem dX8_doubt_73 : decode cX8_doubt 73 = .ok (.iconst 1, 1) := by decide +kernel
theorem dX8_doubt_74 : decode cX8_doubt 74 = .ok (.iand, 1) := by decide +kernel
theorem dX8_doubt_75 : decode cX8_doubt 75 = .ok (.iconst 1, 1) := by decide +kernel
theorem dX8_doubt_76 : decode cX8_doubt 76 = .ok (.if_icmp .ne 7, 3) := by decide +kernel
theorem dX8_doubt_79 : decode cX8_doubt 79 = .ok (.iconst 1, 1) := by decide +kernel
theorem dX8_doubt_80 : decode cX8_doubt 80 = .ok (.goto 4, 3) := by decide +kernel
theorem dX8_doubt_83 : decode cX8_doubt 83 = .ok (.iconst 0, 1) := by decide +kernel
theorem dX8_doubt_84 : decode cX8_doubt 84 = .ok (.istore_n 3, 1) := by decide +kernel
theorem dX8_doubt_85 : decode cX8_doubt 85 = .ok (.aload_n 0, 1) := by decide +kernel
theorem dX8_doubt_86 : decode cX8_doubt 86 = .ok (.getfield 35, 3) := by decide +kernel
theorem dX8_doubt_89 : decode cX8_doubt 89 = .ok (.iload_n 1, 1) := by decide +kernel
theorem dX8_doubt_90 : decode cX8_doubt 90 = .ok (.dup2, 1) := by decide +kernel
theorem dX8_doubt_91 : decode cX8_doubt 91 = .ok (.iaload, 1) := by decide +kernel
theorem dX8_doubt_92 : decode cX8_doubt 92 = .ok (.iconst 1, 1) := by decide +kernel
theorem dX8_doubt_93 : decode cX8_doubt 93 = .ok (.iload_n 2, 1) := by decide +kernel
theorem dX8_doubt_94 : decode cX8_doubt 94 = .ok (.ishl, 1) := by decide +kernel
theorem dX8_doubt_95 : decode cX8_doubt 95 = .ok (.ior, 1) := by decide +kernel
theorem dX8_doubt_96 : decode cX8_doubt 96 = .ok (.iastore, 1) := by decide +kernel
theorem dX8_doubt_97 : decode cX8_doubt 97 = .ok (.aload_n 0, 1) := by decide +kernel
theorem dX8_doubt_98 : decode cX8_doubt 98 = .ok (.getfield 22, 3) := by decide +kernel
theorem dX8_doubt_101 : decode cX8_doubt 101 = .ok (.iload_n 1, 1) := by decide +kernel
theorem dX8_doubt_102 : decode cX8_doubt 102 = .ok (.iconst 3, 1) := by decide +kernel
theorem dX8_doubt_103 : decode cX8_doubt 103 = .ok (.iastore, 1) := by decide +kernel
theorem dX8_doubt_104 : decode cX8_doubt 104 = .ok (.iload_n 3, 1) := by decide +kernel
theorem dX8_doubt_105 : decode cX8_doubt 105 = .ok (.ireturn, 1) := by decide +kernel
theorem dX8_settle_0 : decode cX8_settle 0 = .ok (.aload_n 0, 1) := by decide +kernel
theorem dX8_settle_1 : decode cX8_settle 1 = .ok (.aload_n 0, 1) := by decide +kernel
theorem dX8_settle_2 : decode cX8_settle 2 = .ok (.iload_n 1, 1) := by decide +kernel
theorem dX8_settle_3 : decode cX8_settle 3 = .ok (.iload_n 2, 1) := by decide +kernel
theorem dX8_settle_4 : decode cX8_settle 4 = .ok (.invokevirtual 202, 3) := by decide +kernel
theorem dX8_settle_7 : decode cX8_settle 7 = .ok (.ifCond .ne 7, 3) := by decide +kernel
theorem dX8_settle_10 : decode cX8_settle 10 = .ok (.iconst 1, 1) := by decide +kernel
theorem dX8_settle_11 : decode cX8_settle 11 = .ok (.goto 31, 3) := by decide +kernel
theorem dX8_settle_14 : decode cX8_settle 14 = .ok (.aload_n 0, 1) := by decide +kernel
theorem dX8_settle_15 : decode cX8_settle 15 = .ok (.getfield 22, 3) := by decide +kernel
theorem dX8_settle_18 : decode cX8_settle 18 = .ok (.iload_n 1, 1) := by decide +kernel
theorem dX8_settle_19 : decode cX8_settle 19 = .ok (.iaload, 1) := by decide +kernel
theorem dX8_settle_20 : decode cX8_settle 20 = .ok (.iconst 3, 1) := by decide +kernel
theorem dX8_settle_21 : decode cX8_settle 21 = .ok (.if_icmp .ne 16, 3) := by decide +kernel
theorem dX8_settle_24 : decode cX8_settle 24 = .ok (.aload_n 0, 1) := by decide +kernel
theorem dX8_settle_25 : decode cX8_settle 25 = .ok (.getfield 35, 3) := by decide +kernel
theorem dX8_settle_28 : decode cX8_settle 28 = .ok (.iload_n 1, 1) := by decide +kernel
theorem dX8_settle_29 : decode cX8_settle 29 = .ok (.iaload, 1) := by decide +kernel
theorem dX8_settle_30 : decode cX8_settle 30 = .ok (.iload_n 2, 1) := by decide +kernel
theorem dX8_settle_31 : decode cX8_settle 31 = .ok (.ishr, 1) := by decide +kernel
theorem dX8_settle_32 : decode cX8_settle 32 = .ok (.iconst 1, 1) := by decide +kernel
theorem dX8_settle_33 : decode cX8_settle 33 = .ok (.iand, 1) := by decide +kernel
theorem dX8_settle_34 : decode cX8_settle 34 = .ok (.ifCond .ne 7, 3) := by decide +kernel
theorem dX8_settle_37 : decode cX8_settle 37 = .ok (.iconst 2, 1) := by decide +kernel
theorem dX8_settle_38 : decode cX8_settle 38 = .ok (.goto 4, 3) := by decide +kernel
theorem dX8_settle_41 : decode cX8_settle 41 = .ok (.iconst 0, 1) := by decide +kernel
theorem dX8_settle_42 : decode cX8_settle 42 = .ok (.putfield 66, 3) := by decide +kernel
theorem dX8_settle_45 : decode cX8_settle 45 = .ok (.aload_n 0, 1) := by decide +kernel
theorem dX8_settle_46 : decode cX8_settle 46 = .ok (.getfield 66, 3) := by decide +kernel
theorem dX8_settle_49 : decode cX8_settle 49 = .ok (.ifCond .le 5, 3) := by decide +kernel
theorem dX8_settle_52 : decode cX8_settle 52 = .ok (.iconst 0, 1) := by decide +kernel
theorem dX8_settle_53 : decode cX8_settle 53 = .ok (.ireturn, 1) := by decide +kernel
theorem dX8_settle_54 : decode cX8_settle 54 = .ok (.iload_n 3, 1) := by decide +kernel
theorem dX8_settle_55 : decode cX8_settle 55 = .ok (.ifCond .eq 40, 3) := by decide +kernel
theorem dX8_settle_58 : decode cX8_settle 58 = .ok (.aload_n 0, 1) := by decide +kernel
theorem dX8_settle_59 : decode cX8_settle 59 = .ok (.getfield 35, 3) := by decide +kernel
theorem dX8_settle_62 : decode cX8_settle 62 = .ok (.iload_n 1, 1) := by decide +kernel
theorem dX8_settle_63 : decode cX8_settle 63 = .ok (.dup2, 1) := by decide +kernel
theorem dX8_settle_64 : decode cX8_settle 64 = .ok (.iaload, 1) := by decide +kernel
theorem dX8_settle_65 : decode cX8_settle 65 = .ok (.iconst 1, 1) := by decide +kernel
theorem dX8_settle_66 : decode cX8_settle 66 = .ok (.iload_n 2, 1) := by decide +kernel
theorem dX8_settle_67 : decode cX8_settle 67 = .ok (.ishl, 1) := by decide +kernel
