theorem dX7_setFormula_5 : decode cX7_setFormula 5 = .ok (.getfield 10, 3) := by decide +kernel
theorem dX7_setFormula_8 : decode cX7_setFormula 8 = .ok (.invokevirtual 58, 3) := by decide +kernel
theorem dX7_setFormula_11 : decode cX7_setFormula 11 = .ok (.iconst (-1), 1) := by decide +kernel
theorem dX7_setFormula_12 : decode cX7_setFormula 12 = .ok (.if_icmp .eq 13, 3) := by decide +kernel
theorem dX7_setFormula_15 : decode cX7_setFormula 15 = .ok (.new 75, 3) := by decide +kernel
theorem dX7_setFormula_18 : decode cX7_setFormula 18 = .ok (.dup, 1) := by decide +kernel
theorem dX7_setFormula_19 : decode cX7_setFormula 19 = .ok (.ldc 61, 2) := by decide +kernel
theorem dX7_setFormula_21 : decode cX7_setFormula 21 = .ok (.invokespecial 79, 3) := by decide +kernel
theorem dX7_setFormula_24 : decode cX7_setFormula 24 = .ok (.athrow, 1) := by decide +kernel
theorem dX7_setFormula_25 : decode cX7_setFormula 25 = .ok (.aload_n 0, 1) := by decide +kernel
theorem dX7_setFormula_26 : decode cX7_setFormula 26 = .ok (.getfield 10, 3) := by decide +kernel
theorem dX7_setFormula_29 : decode cX7_setFormula 29 = .ok (.invokevirtual 63, 3) := by decide +kernel
theorem dX7_setFormula_32 : decode cX7_setFormula 32 = .ok (.astore_n 2, 1) := by decide +kernel
theorem dX7_setFormula_33 : decode cX7_setFormula 33 = .ok (.aload_n 0, 1) := by decide +kernel
theorem dX7_setFormula_34 : decode cX7_setFormula 34 = .ok (.getfield 19, 3) := by decide +kernel
theorem dX7_setFormula_37 : decode cX7_setFormula 37 = .ok (.iload_n 1, 1) := by decide +kernel
theorem dX7_setFormula_38 : decode cX7_setFormula 38 = .ok (.aload_n 2, 1) := by decide +kernel
theorem dX7_setFormula_39 : decode cX7_setFormula 39 = .ok (.invokevirtual 90, 3) := by decide +kernel
theorem dX7_setFormula_42 : decode cX7_setFormula 42 = .ok (.ifCond .eq 13, 3) := by decide +kernel
theorem dX7_setFormula_45 : decode cX7_setFormula 45 = .ok (.new 44, 3) := by decide +kernel
theorem dX7_setFormula_48 : decode cX7_setFormula 48 = .ok (.dup, 1) := by decide +kernel
theorem dX7_setFormula_49 : decode cX7_setFormula 49 = .ok (.ldc 94, 2) := by decide +kernel
theorem dX7_setFormula_51 : decode cX7_setFormula 51 = .ok (.invokespecial 48, 3) := by decide +kernel
theorem dX7_setFormula_54 : decode cX7_setFormula 54 = .ok (.athrow, 1) := by decide +kernel
theorem dX7_setFormula_55 : decode cX7_setFormula 55 = .ok (.aload_n 0, 1) := by decide +kernel
theorem dX7_setFormula_56 : decode cX7_setFormula 56 = .ok (.getfield 19, 3) := by decide +kernel
theorem dX7_setFormula_59 : decode cX7_setFormula 59 = .ok (.iload_n 1, 1) := by decide +kernel
theorem dX7_setFormula_60 : decode cX7_setFormula 60 = .ok (.aload_n 2, 1) := by decide +kernel
theorem dX7_setFormula_61 : decode cX7_setFormula 61 = .ok (.invokevirtual 96, 3) := by decide +kernel
theorem dX7_setFormula_64 : decode cX7_setFormula 64 = .ok (.ifCond .eq 13, 3) := by decide +kernel
theorem dX7_setFormula_67 : decode cX7_setFormula 67 = .ok (.new 44, 3) := by decide +kernel
theorem dX7_setFormula_70 : decode cX7_setFormula 70 = .ok (.dup, 1) := by decide +kernel
theorem dX7_setFormula_71 : decode cX7_setFormula 71 = .ok (.ldc 99, 2) := by decide +kernel
theorem dX7_setFormula_73 : decode cX7_setFormula 73 = .ok (.invokespecial 48, 3) := by decide +kernel
theorem dX7_setFormula_76 : decode cX7_setFormula 76 = .ok (.athrow, 1) := by decide +kernel
theorem dX7_setFormula_77 : decode cX7_setFormula 77 = .ok (.aload_n 0, 1) := by decide +kernel
theorem dX7_setFormula_78 : decode cX7_setFormula 78 = .ok (.getfield 19, 3) := by decide +kernel
theorem dX7_setFormula_81 : decode cX7_setFormula 81 = .ok (.iload_n 1, 1) := by decide +kernel
theorem dX7_setFormula_82 : decode cX7_setFormula 82 = .ok (.aload_n 2, 1) := by decide +kernel
theorem dX7_setFormula_83 : decode cX7_setFormula 83 = .ok (.invokevirtual 101, 3) := by decide +kernel
theorem dX7_setFormula_86 : decode cX7_setFormula 86 = .ok (.aload_n 0, 1) := by decide +kernel
theorem dX7_setFormula_87 : decode cX7_setFormula 87 = .ok (.getfield 19, 3) := by decide +kernel
theorem dX7_setFormula_90 : decode cX7_setFormula 90 = .ok (.invokevirtual 105, 3) := by decide +kernel
theorem dX7_setFormula_93 : decode cX7_setFormula 93 = .ok (.ireturn, 1) := by decide +kernel
theorem dX7_dropFormula_0 : decode cX7_dropFormula 0 = .ok (.iload_n 1, 1) := by decide +kernel
theorem dX7_dropFormula_1 : decode cX7_dropFormula 1 = .ok (.invokestatic 87, 3) := by decide +kernel
theorem dX7_dropFormula_4 : decode cX7_dropFormula 4 = .ok (.aload_n 0, 1) := by decide +kernel
theorem dX7_dropFormula_5 : decode cX7_dropFormula 5 = .ok (.getfield 19, 3) := by decide +kernel
theorem dX7_dropFormula_8 : decode cX7_dropFormula 8 = .ok (.iload_n 1, 1) := by decide +kernel
theorem dX7_dropFormula_9 : decode cX7_dropFormula 9 = .ok (.invokevirtual 108, 3) := by decide +kernel
theorem dX7_dropFormula_12 : decode cX7_dropFormula 12 = .ok (.ifnull 7, 3) := by decide +kernel
theorem dX7_dropFormula_15 : decode cX7_dropFormula 15 = .ok (.iconst 1, 1) := by decide +kernel
theorem dX7_dropFormula_16 : decode cX7_dropFormula 16 = .ok (.goto 4, 3) := by decide +kernel
theorem dX7_dropFormula_19 : decode cX7_dropFormula 19 = .ok (.iconst 0, 1) := by decide +kernel
theorem dX7_dropFormula_20 : decode cX7_dropFormula 20 = .ok (.istore_n 2, 1) := by decide +kernel
theorem dX7_dropFormula_21 : decode cX7_dropFormula 21 = .ok (.aload_n 0, 1) := by decide +kernel
theorem dX7_dropFormula_22 : decode cX7_dropFormula 22 = .ok (.getfield 19, 3) := by decide +kernel
theorem dX7_dropFormula_25 : decode cX7_dropFormula 25 = .ok (.iload_n 1, 1) := by decide +kernel
theorem dX7_dropFormula_26 : decode cX7_dropFormula 26 = .ok (.aconst_null, 1) := by decide +kernel
theorem dX7_dropFormula_27 : decode cX7_dropFormula 27 = .ok (.invokevirtual 101, 3) := by decide +kernel
theorem dX7_dropFormula_30 : decode cX7_dropFormula 30 = .ok (.iload_n 2, 1) := by decide +kernel
theorem dX7_dropFormula_31 : decode cX7_dropFormula 31 = .ok (.ireturn, 1) := by decide +kernel
theorem dX7_isBroken_0 : decode cX7_isBroken 0 = .ok (.iload_n 1, 1) := by decide +kernel
theorem dX7_isBroken_1 : decode cX7_isBroken 1 = .ok (.invokestatic 87, 3) := by decide +kernel
theorem dX7_isBroken_4 : decode cX7_isBroken 4 = .ok (.aload_n 0, 1) := by decide +kernel
theorem dX7_isBroken_5 : decode cX7_isBroken 5 = .ok (.getfield 19, 3) := by decide +kernel
theorem dX7_isBroken_8 : decode cX7_isBroken 8 = .ok (.iload_n 1, 1) := by decide +kernel
theorem dX7_isBroken_9 : decode cX7_isBroken 9 = .ok (.invokevirtual 112, 3) := by decide +kernel
theorem dX7_isBroken_12 : decode cX7_isBroken 12 = .ok (.ireturn, 1) := by decide +kernel
theorem dX7_publish_0 : decode cX7_publish 0 = .ok (.aload_n 0, 1) := by decide +kernel
theorem dX7_publish_1 : decode cX7_publish 1 = .ok (.getfield 27, 3) := by decide +kernel
theorem dX7_publish_4 : decode cX7_publish 4 = .ok (.bipush 10, 2) := by decide +kernel
theorem dX7_publish_6 : decode cX7_publish 6 = .ok (.if_icmp .lt 13, 3) := by decide +kernel
theorem dX7_publish_9 : decode cX7_publish 9 = .ok (.new 44, 3) := by decide +kernel
theorem dX7_publish_12 : decode cX7_publish 12 = .ok (.dup, 1) := by decide +kernel
theorem dX7_publish_13 : decode cX7_publish 13 = .ok (.ldc 116, 2) := by decide +kernel
theorem dX7_publish_15 : decode cX7_publish 15 = .ok (.invokespecial 48, 3) := by decide +kernel
theorem dX7_publish_18 : decode cX7_publish 18 = .ok (.athrow, 1) := by decide +kernel
theorem dX7_publish_19 : decode cX7_publish 19 = .ok (.aload_n 0, 1) := by decide +kernel
theorem dX7_publish_20 : decode cX7_publish 20 = .ok (.getfield 19, 3) := by decide +kernel
theorem dX7_publish_23 : decode cX7_publish 23 = .ok (.invokevirtual 118, 3) := by decide +kernel
theorem dX7_publish_26 : decode cX7_publish 26 = .ok (.astore_n 1, 1) := by decide +kernel
theorem dX7_publish_27 : decode cX7_publish 27 = .ok (.aload_n 0, 1) := by decide +kernel
theorem dX7_publish_28 : decode cX7_publish 28 = .ok (.getfield 19, 3) := by decide +kernel
theorem dX7_publish_31 : decode cX7_publish 31 = .ok (.invokevirtual 122, 3) := by decide +kernel
theorem dX7_publish_34 : decode cX7_publish 34 = .ok (.astore_n 2, 1) := by decide +kernel
theorem dX7_publish_35 : decode cX7_publish 35 = .ok (.aload_n 0, 1) := by decide +kernel
theorem dX7_publish_36 : decode cX7_publish 36 = .ok (.getfield 23, 3) := by decide +kernel
theorem dX7_publish_39 : decode cX7_publish 39 = .ok (.aload_n 0, 1) := by decide +kernel
theorem dX7_publish_40 : decode cX7_publish 40 = .ok (.getfield 27, 3) := by decide +kernel
theorem dX7_publish_43 : decode cX7_publish 43 = .ok (.aload_n 2, 1) := by decide +kernel
theorem dX7_publish_44 : decode cX7_publish 44 = .ok (.aastore, 1) := by decide +kernel
theorem dX7_publish_45 : decode cX7_publish 45 = .ok (.aload_n 0, 1) := by decide +kernel
theorem dX7_publish_46 : decode cX7_publish 46 = .ok (.dup, 1) := by decide +kernel
theorem dX7_publish_47 : decode cX7_publish 47 = .ok (.getfield 27, 3) := by decide +kernel
theorem dX7_publish_50 : decode cX7_publish 50 = .ok (.iconst 1, 1) := by decide +kernel
theorem dX7_publish_51 : decode cX7_publish 51 = .ok (.iadd, 1) := by decide +kernel
theorem dX7_publish_52 : decode cX7_publish 52 = .ok (.putfield 27, 3) := by decide +kernel
theorem dX7_publish_55 : decode cX7_publish 55 = .ok (.iconst 0, 1) := by decide +kernel
theorem dX7_publish_56 : decode cX7_publish 56 = .ok (.istore_n 3, 1) := by decide +kernel
theorem dX7_publish_57 : decode cX7_publish 57 = .ok (.iload_n 3, 1) := by decide +kernel
theorem dX7_publish_58 : decode cX7_publish 58 = .ok (.aload_n 0, 1) := by decide +kernel
theorem dX7_publish_59 : decode cX7_publish 59 = .ok (.getfield 37, 3) := by decide +kernel
theorem dX7_publish_62 : decode cX7_publish 62 = .ok (.if_icmp .ge 35, 3) := by decide +kernel
theorem dX7_publish_65 : decode cX7_publish 65 = .ok (.iload_n 3, 1) := by decide +kernel
theorem dX7_publish_66 : decode cX7_publish 66 = .ok (.bipush 20, 2) := by decide +kernel
theorem dX7_publish_68 : decode cX7_publish 68 = .ok (.if_icmp .ge 29, 3) := by decide +kernel
theorem dX7_publish_71 : decode cX7_publish 71 = .ok (.aload_n 0, 1) := by decide +kernel
theorem dX7_publish_72 : decode cX7_publish 72 = .ok (.getfield 33, 3) := by decide +kernel
theorem dX7_publish_75 : decode cX7_publish 75 = .ok (.iload_n 3, 1) := by decide +kernel
theorem dX7_publish_76 : decode cX7_publish 76 = .ok (.aaload, 1) := by decide +kernel
theorem dX7_publish_77 : decode cX7_publish 77 = .ok (.astore 4, 2) := by decide +kernel
theorem dX7_publish_79 : decode cX7_publish 79 = .ok (.aload 4, 2) := by decide +kernel
theorem dX7_publish_81 : decode cX7_publish 81 = .ok (.ifnull 10, 3) := by decide +kernel
theorem dX7_publish_84 : decode cX7_publish 84 = .ok (.aload 4, 2) := by decide +kernel
theorem dX7_publish_86 : decode cX7_publish 86 = .ok (.aload_n 2, 1) := by decide +kernel
theorem dX7_publish_87 : decode cX7_publish 87 = .ok (.aload_n 1, 1) := by decide +kernel
theorem dX7_publish_88 : decode cX7_publish 88 = .ok (.invokevirtual 126, 3) := by decide +kernel
theorem dX7_publish_91 : decode cX7_publish 91 = .ok (.iinc 3 1, 3) := by decide +kernel
theorem dX7_publish_94 : decode cX7_publish 94 = .ok (.goto (-37), 3) := by decide +kernel
theorem dX7_publish_97 : decode cX7_publish 97 = .ok (.aload_n 0, 1) := by decide +kernel
theorem dX7_publish_98 : decode cX7_publish 98 = .ok (.getfield 27, 3) := by decide +kernel
theorem dX7_publish_101 : decode cX7_publish 101 = .ok (.iconst 1, 1) := by decide +kernel
theorem dX7_publish_102 : decode cX7_publish 102 = .ok (.isub, 1) := by decide +kernel
theorem dX7_publish_103 : decode cX7_publish 103 = .ok (.ireturn, 1) := by decide +kernel
theorem dX7_versions_0 : decode cX7_versions 0 = .ok (.aload_n 0, 1) := by decide +kernel
theorem dX7_versions_1 : decode cX7_versions 1 = .ok (.getfield 27, 3) := by decide +kernel
theorem dX7_versions_4 : decode cX7_versions 4 = .ok (.ireturn, 1) := by decide +kernel
theorem dX7_typeIn_0 : decode cX7_typeIn 0 = .ok (.aload_n 0, 1) := by decide +kernel
theorem dX7_typeIn_1 : decode cX7_typeIn 1 = .ok (.iload_n 1, 1) := by decide +kernel
theorem dX7_typeIn_2 : decode cX7_typeIn 2 = .ok (.invokevirtual 130, 3) := by decide +kernel
theorem dX7_typeIn_5 : decode cX7_typeIn 5 = .ok (.astore_n 3, 1) := by decide +kernel
theorem dX7_typeIn_6 : decode cX7_typeIn 6 = .ok (.iload_n 2, 1) := by decide +kernel
theorem dX7_typeIn_7 : decode cX7_typeIn 7 = .ok (.invokestatic 71, 3) := by decide +kernel
theorem dX7_typeIn_10 : decode cX7_typeIn 10 = .ok (.aload_n 3, 1) := by decide +kernel
theorem dX7_typeIn_11 : decode cX7_typeIn 11 = .ok (.iload_n 2, 1) := by decide +kernel
theorem dX7_typeIn_12 : decode cX7_typeIn 12 = .ok (.invokevirtual 134, 3) := by decide +kernel
theorem dX7_typeIn_15 : decode cX7_typeIn 15 = .ok (.ireturn, 1) := by decide +kernel
theorem dX7_order_0 : decode cX7_order 0 = .ok (.aload_n 0, 1) := by decide +kernel
theorem dX7_order_1 : decode cX7_order 1 = .ok (.iload_n 1, 1) := by decide +kernel
theorem dX7_order_2 : decode cX7_order 2 = .ok (.invokevirtual 130, 3) := by decide +kernel
theorem dX7_order_5 : decode cX7_order 5 = .ok (.astore_n 3, 1) := by decide +kernel
theorem dX7_order_6 : decode cX7_order 6 = .ok (.iload_n 2, 1) := by decide +kernel
theorem dX7_order_7 : decode cX7_order 7 = .ok (.invokestatic 138, 3) := by decide +kernel
theorem dX7_order_10 : decode cX7_order 10 = .ok (.aload_n 3, 1) := by decide +kernel
theorem dX7_order_11 : decode cX7_order 11 = .ok (.iload_n 2, 1) := by decide +kernel
theorem dX7_order_12 : decode cX7_order 12 = .ok (.invokevirtual 141, 3) := by decide +kernel
theorem dX7_order_15 : decode cX7_order 15 = .ok (.ireturn, 1) := by decide +kernel
theorem dX7_plain_0 : decode cX7_plain 0 = .ok (.aload_n 0, 1) := by decide +kernel
theorem dX7_plain_1 : decode cX7_plain 1 = .ok (.iload_n 1, 1) := by decide +kernel
theorem dX7_plain_2 : decode cX7_plain 2 = .ok (.invokevirtual 130, 3) := by decide +kernel
theorem dX7_plain_5 : decode cX7_plain 5 = .ok (.astore 4, 2) := by decide +kernel
theorem dX7_plain_7 : decode cX7_plain 7 = .ok (.iload_n 2, 1) := by decide +kernel
theorem dX7_plain_8 : decode cX7_plain 8 = .ok (.invokestatic 87, 3) := by decide +kernel
theorem dX7_plain_11 : decode cX7_plain 11 = .ok (.iload_n 3, 1) := by decide +kernel
theorem dX7_plain_12 : decode cX7_plain 12 = .ok (.invokestatic 138, 3) := by decide +kernel
theorem dX7_plain_15 : decode cX7_plain 15 = .ok (.aload 4, 2) := by decide +kernel
theorem dX7_plain_17 : decode cX7_plain 17 = .ok (.iload_n 2, 1) := by decide +kernel
theorem dX7_plain_18 : decode cX7_plain 18 = .ok (.invokevirtual 108, 3) := by decide +kernel
theorem dX7_plain_21 : decode cX7_plain 21 = .ok (.astore 5, 2) := by decide +kernel
theorem dX7_plain_23 : decode cX7_plain 23 = .ok (.aload 5, 2) := by decide +kernel
theorem dX7_plain_25 : decode cX7_plain 25 = .ok (.ifnonnull 7, 3) := by decide +kernel
theorem dX7_plain_28 : decode cX7_plain 28 = .ok (.iconst (-1), 1) := by decide +kernel
theorem dX7_plain_29 : decode cX7_plain 29 = .ok (.goto 9, 3) := by decide +kernel
theorem dX7_plain_32 : decode cX7_plain 32 = .ok (.aload 5, 2) := by decide +kernel
theorem dX7_plain_34 : decode cX7_plain 34 = .ok (.iload_n 3, 1) := by decide +kernel
theorem dX7_plain_35 : decode cX7_plain 35 = .ok (.invokevirtual 144, 3) := by decide +kernel
theorem dX7_plain_38 : decode cX7_plain 38 = .ok (.ireturn, 1) := by decide +kernel
theorem dX7_begin_0 : decode cX7_begin 0 = .ok (.aload_n 0, 1) := by decide +kernel
theorem dX7_begin_1 : decode cX7_begin 1 = .ok (.getfield 27, 3) := by decide +kernel
theorem dX7_begin_4 : decode cX7_begin 4 = .ok (.ifCond .eq 12, 3) := by decide +kernel
theorem dX7_begin_7 : decode cX7_begin 7 = .ok (.aload_n 0, 1) := by decide +kernel
theorem dX7_begin_8 : decode cX7_begin 8 = .ok (.getfield 37, 3) := by decide +kernel
theorem dX7_begin_11 : decode cX7_begin 11 = .ok (.bipush 20, 2) := by decide +kernel
theorem dX7_begin_13 : decode cX7_begin 13 = .ok (.if_icmp .lt 13, 3) := by decide +kernel
theorem dX7_begin_16 : decode cX7_begin 16 = .ok (.new 44, 3) := by decide +kernel
theorem dX7_begin_19 : decode cX7_begin 19 = .ok (.dup, 1) := by decide +kernel
theorem dX7_begin_20 : decode cX7_begin 20 = .ok (.ldc 149, 2) := by decide +kernel
theorem dX7_begin_22 : decode cX7_begin 22 = .ok (.invokespecial 48, 3) := by decide +kernel
theorem dX7_begin_25 : decode cX7_begin 25 = .ok (.athrow, 1) := by decide +kernel
theorem dX7_begin_26 : decode cX7_begin 26 = .ok (.aload_n 0, 1) := by decide +kernel
theorem dX7_begin_27 : decode cX7_begin 27 = .ok (.getfield 27, 3) := by decide +kernel
theorem dX7_begin_30 : decode cX7_begin 30 = .ok (.iconst 1, 1) := by decide +kernel
theorem dX7_begin_31 : decode cX7_begin 31 = .ok (.isub, 1) := by decide +kernel
theorem dX7_begin_32 : decode cX7_begin 32 = .ok (.istore_n 1, 1) := by decide +kernel
theorem dX7_begin_33 : decode cX7_begin 33 = .ok (.aload_n 0, 1) := by decide +kernel
theorem dX7_begin_34 : decode cX7_begin 34 = .ok (.getfield 33, 3) := by decide +kernel
theorem dX7_begin_37 : decode cX7_begin 37 = .ok (.aload_n 0, 1) := by decide +kernel
theorem dX7_begin_38 : decode cX7_begin 38 = .ok (.getfield 37, 3) := by decide +kernel
theorem dX7_begin_41 : decode cX7_begin 41 = .ok (.new 31, 3) := by decide +kernel
theorem dX7_begin_44 : decode cX7_begin 44 = .ok (.dup, 1) := by decide +kernel
theorem dX7_begin_45 : decode cX7_begin 45 = .ok (.iload_n 1, 1) := by decide +kernel
theorem dX7_begin_46 : decode cX7_begin 46 = .ok (.aload_n 0, 1) := by decide +kernel
theorem dX7_begin_47 : decode cX7_begin 47 = .ok (.iload_n 1, 1) := by decide +kernel
theorem dX7_begin_48 : decode cX7_begin 48 = .ok (.invokevirtual 130, 3) := by decide +kernel
theorem dX7_begin_51 : decode cX7_begin 51 = .ok (.invokespecial 151, 3) := by decide +kernel
theorem dX7_begin_54 : decode cX7_begin 54 = .ok (.aastore, 1) := by decide +kernel
theorem dX7_begin_55 : decode cX7_begin 55 = .ok (.aload_n 0, 1) := by decide +kernel
theorem dX7_begin_56 : decode cX7_begin 56 = .ok (.dup, 1) := by decide +kernel
theorem dX7_begin_57 : decode cX7_begin 57 = .ok (.getfield 37, 3) := by decide +kernel
theorem dX7_begin_60 : decode cX7_begin 60 = .ok (.iconst 1, 1) := by decide +kernel
theorem dX7_begin_61 : decode cX7_begin 61 = .ok (.iadd, 1) := by decide +kernel
theorem dX7_begin_62 : decode cX7_begin 62 = .ok (.putfield 37, 3) := by decide +kernel
theorem dX7_begin_65 : decode cX7_begin 65 = .ok (.aload_n 0, 1) := by decide +kernel
theorem dX7_begin_66 : decode cX7_begin 66 = .ok (.getfield 37, 3) := by decide +kernel
theorem dX7_begin_69 : decode cX7_begin 69 = .ok (.iconst 1, 1) := by decide +kernel
theorem dX7_begin_70 : decode cX7_begin 70 = .ok (.isub, 1) := by decide +kernel
theorem dX7_begin_71 : decode cX7_begin 71 = .ok (.ireturn, 1) := by decide +kernel
theorem dX7_put_0 : decode cX7_put 0 = .ok (.aload_n 0, 1) := by decide +kernel
theorem dX7_put_1 : decode cX7_put 1 = .ok (.iload_n 1, 1) := by decide +kernel
theorem dX7_put_2 : decode cX7_put 2 = .ok (.invokevirtual 154, 3) := by decide +kernel
theorem dX7_put_5 : decode cX7_put 5 = .ok (.astore 4, 2) := by decide +kernel
theorem dX7_put_7 : decode cX7_put 7 = .ok (.iload_n 2, 1) := by decide +kernel
theorem dX7_put_8 : decode cX7_put 8 = .ok (.invokestatic 71, 3) := by decide +kernel
theorem dX7_put_11 : decode cX7_put 11 = .ok (.aload 4, 2) := by decide +kernel
theorem dX7_put_13 : decode cX7_put 13 = .ok (.invokevirtual 158, 3) := by decide +kernel
theorem dX7_put_16 : decode cX7_put 16 = .ok (.ifCond .ne 12, 3) := by decide +kernel
theorem dX7_put_19 : decode cX7_put 19 = .ok (.aload 4, 2) := by decide +kernel
theorem dX7_put_21 : decode cX7_put 21 = .ok (.iload_n 2, 1) := by decide +kernel
theorem dX7_put_22 : decode cX7_put 22 = .ok (.invokevirtual 161, 3) := by decide +kernel
theorem dX7_put_25 : decode cX7_put 25 = .ok (.ifCond .ne 13, 3) := by decide +kernel
theorem dX7_put_28 : decode cX7_put 28 = .ok (.new 44, 3) := by decide +kernel
theorem dX7_put_31 : decode cX7_put 31 = .ok (.dup, 1) := by decide +kernel
theorem dX7_put_32 : decode cX7_put 32 = .ok (.ldc 164, 2) := by decide +kernel
theorem dX7_put_34 : decode cX7_put 34 = .ok (.invokespecial 48, 3) := by decide +kernel
theorem dX7_put_37 : decode cX7_put 37 = .ok (.athrow, 1) := by decide +kernel
theorem dX7_put_38 : decode cX7_put 38 = .ok (.aload 4, 2) := by decide +kernel
theorem dX7_put_40 : decode cX7_put 40 = .ok (.iload_n 2, 1) := by decide +kernel
theorem dX7_put_41 : decode cX7_put 41 = .ok (.iload_n 3, 1) := by decide +kernel
theorem dX7_put_42 : decode cX7_put 42 = .ok (.invokevirtual 166, 3) := by decide +kernel
theorem dX7_put_45 : decode cX7_put 45 = .ok (.ifCond .ne 13, 3) := by decide +kernel
theorem dX7_put_48 : decode cX7_put 48 = .ok (.new 75, 3) := by decide +kernel
theorem dX7_put_51 : decode cX7_put 51 = .ok (.dup, 1) := by decide +kernel
theorem dX7_put_52 : decode cX7_put 52 = .ok (.ldc 170, 2) := by decide +kernel
theorem dX7_put_54 : decode cX7_put 54 = .ok (.invokespecial 79, 3) := by decide +kernel
theorem dX7_put_57 : decode cX7_put 57 = .ok (.athrow, 1) := by decide +kernel
theorem dX7_put_58 : decode cX7_put 58 = .ok (.aload 4, 2) := by decide +kernel
theorem dX7_put_60 : decode cX7_put 60 = .ok (.iload_n 2, 1) := by decide +kernel
theorem dX7_put_61 : decode cX7_put 61 = .ok (.iload_n 3, 1) := by decide +kernel
theorem dX7_put_62 : decode cX7_put 62 = .ok (.invokevirtual 172, 3) := by decide +kernel
theorem dX7_put_65 : decode cX7_put 65 = .ok (.aload 4, 2) := by decide +kernel
theorem dX7_put_67 : decode cX7_put 67 = .ok (.invokevirtual 175, 3) := by decide +kernel
theorem dX7_put_70 : decode cX7_put 70 = .ok (.ireturn, 1) := by decide +kernel
theorem dX7_handIn_0 : decode cX7_handIn 0 = .ok (.aload_n 0, 1) := by decide +kernel
theorem dX7_handIn_1 : decode cX7_handIn 1 = .ok (.iload_n 1, 1) := by decide +kernel
theorem dX7_handIn_2 : decode cX7_handIn 2 = .ok (.invokevirtual 154, 3) := by decide +kernel
theorem dX7_handIn_5 : decode cX7_handIn 5 = .ok (.astore_n 2, 1) := by decide +kernel
theorem dX7_handIn_6 : decode cX7_handIn 6 = .ok (.aload_n 2, 1) := by decide +kernel
theorem dX7_handIn_7 : decode cX7_handIn 7 = .ok (.invokevirtual 158, 3) := by decide +kernel
theorem dX7_handIn_10 : decode cX7_handIn 10 = .ok (.ifCond .ne 10, 3) := by decide +kernel
theorem dX7_handIn_13 : decode cX7_handIn 13 = .ok (.aload_n 2, 1) := by decide +kernel
theorem dX7_handIn_14 : decode cX7_handIn 14 = .ok (.invokevirtual 175, 3) := by decide +kernel
theorem dX7_handIn_17 : decode cX7_handIn 17 = .ok (.ifCond .le 13, 3) := by decide +kernel
theorem dX7_handIn_20 : decode cX7_handIn 20 = .ok (.new 44, 3) := by decide +kernel
theorem dX7_handIn_23 : decode cX7_handIn 23 = .ok (.dup, 1) := by decide +kernel
theorem dX7_handIn_24 : decode cX7_handIn 24 = .ok (.ldc 178, 2) := by decide +kernel
theorem dX7_handIn_26 : decode cX7_handIn 26 = .ok (.invokespecial 48, 3) := by decide +kernel
theorem dX7_handIn_29 : decode cX7_handIn 29 = .ok (.athrow, 1) := by decide +kernel
theorem dX7_handIn_30 : decode cX7_handIn 30 = .ok (.aload_n 2, 1) := by decide +kernel
theorem dX7_handIn_31 : decode cX7_handIn 31 = .ok (.invokevirtual 180, 3) := by decide +kernel
theorem dX7_handIn_34 : decode cX7_handIn 34 = .ok (.aload_n 2, 1) := by decide +kernel
theorem dX7_handIn_35 : decode cX7_handIn 35 = .ok (.invokevirtual 158, 3) := by decide +kernel
theorem dX7_handIn_38 : decode cX7_handIn 38 = .ok (.ireturn, 1) := by decide +kernel
theorem dX7_answers_0 : decode cX7_answers 0 = .ok (.aload_n 0, 1) := by decide +kernel
theorem dX7_answers_1 : decode cX7_answers 1 = .ok (.getfield 37, 3) := by decide +kernel
theorem dX7_answers_4 : decode cX7_answers 4 = .ok (.ireturn, 1) := by decide +kernel
theorem dX7_stateOf_0 : decode cX7_stateOf 0 = .ok (.aload_n 0, 1) := by decide +kernel
theorem dX7_stateOf_1 : decode cX7_stateOf 1 = .ok (.iload_n 1, 1) := by decide +kernel
theorem dX7_stateOf_2 : decode cX7_stateOf 2 = .ok (.invokevirtual 154, 3) := by decide +kernel
theorem dX7_stateOf_5 : decode cX7_stateOf 5 = .ok (.invokevirtual 158, 3) := by decide +kernel
theorem dX7_stateOf_8 : decode cX7_stateOf 8 = .ok (.ireturn, 1) := by decide +kernel
theorem dX7_versionOf_0 : decode cX7_versionOf 0 = .ok (.aload_n 0, 1) := by decide +kernel
theorem dX7_versionOf_1 : decode cX7_versionOf 1 = .ok (.iload_n 1, 1) := by decide +kernel
theorem dX7_versionOf_2 : decode cX7_versionOf 2 = .ok (.invokevirtual 154, 3) := by decide +kernel
theorem dX7_versionOf_5 : decode cX7_versionOf 5 = .ok (.invokevirtual 183, 3) := by decide +kernel
theorem dX7_versionOf_8 : decode cX7_versionOf 8 = .ok (.ireturn, 1) := by decide +kernel
theorem dX7_value_0 : decode cX7_value 0 = .ok (.aload_n 0, 1) := by decide +kernel
theorem dX7_value_1 : decode cX7_value 1 = .ok (.iload_n 1, 1) := by decide +kernel
theorem dX7_value_2 : decode cX7_value 2 = .ok (.invokevirtual 154, 3) := by decide +kernel
theorem dX7_value_5 : decode cX7_value 5 = .ok (.astore_n 3, 1) := by decide +kernel
theorem dX7_value_6 : decode cX7_value 6 = .ok (.iload_n 2, 1) := by decide +kernel
theorem dX7_value_7 : decode cX7_value 7 = .ok (.invokestatic 71, 3) := by decide +kernel
theorem dX7_value_10 : decode cX7_value 10 = .ok (.aload_n 3, 1) := by decide +kernel
theorem dX7_value_11 : decode cX7_value 11 = .ok (.iload_n 2, 1) := by decide +kernel
theorem dX7_value_12 : decode cX7_value 12 = .ok (.invokevirtual 186, 3) := by decide +kernel
theorem dX7_value_15 : decode cX7_value 15 = .ok (.ifCond .ne 13, 3) := by decide +kernel
theorem dX7_value_18 : decode cX7_value 18 = .ok (.new 44, 3) := by decide +kernel
theorem dX7_value_21 : decode cX7_value 21 = .ok (.dup, 1) := by decide +kernel
theorem dX7_value_22 : decode cX7_value 22 = .ok (.ldc 189, 2) := by decide +kernel
theorem dX7_value_24 : decode cX7_value 24 = .ok (.invokespecial 48, 3) := by decide +kernel
theorem dX7_value_27 : decode cX7_value 27 = .ok (.athrow, 1) := by decide +kernel
theorem dX7_value_28 : decode cX7_value 28 = .ok (.aload_n 3, 1) := by decide +kernel
theorem dX7_value_29 : decode cX7_value 29 = .ok (.iload_n 2, 1) := by decide +kernel
theorem dX7_value_30 : decode cX7_value 30 = .ok (.invokevirtual 191, 3) := by decide +kernel
theorem dX7_value_33 : decode cX7_value 33 = .ok (.ireturn, 1) := by decide +kernel
theorem dX7_refusal_0 : decode cX7_refusal 0 = .ok (.aload_n 0, 1) := by decide +kernel
theorem dX7_refusal_1 : decode cX7_refusal 1 = .ok (.iload_n 1, 1) := by decide +kernel
theorem dX7_refusal_2 : decode cX7_refusal 2 = .ok (.invokevirtual 154, 3) := by decide +kernel
theorem dX7_refusal_5 : decode cX7_refusal 5 = .ok (.astore_n 2, 1) := by decide +kernel
theorem dX7_refusal_6 : decode cX7_refusal 6 = .ok (.aload_n 2, 1) := by decide +kernel
theorem dX7_refusal_7 : decode cX7_refusal 7 = .ok (.invokevirtual 158, 3) := by decide +kernel
theorem dX7_refusal_10 : decode cX7_refusal 10 = .ok (.ifCond .ne 13, 3) := by decide +kernel
theorem dX7_refusal_13 : decode cX7_refusal 13 = .ok (.new 44, 3) := by decide +kernel
theorem dX7_refusal_16 : decode cX7_refusal 16 = .ok (.dup, 1) := by decide +kernel
theorem dX7_refusal_17 : decode cX7_refusal 17 = .ok (.ldc 194, 2) := by decide +kernel
theorem dX7_refusal_19 : decode cX7_refusal 19 = .ok (.invokespecial 48, 3) := by decide +kernel
theorem dX7_refusal_22 : decode cX7_refusal 22 = .ok (.athrow, 1) := by decide +kernel
theorem dX7_refusal_23 : decode cX7_refusal 23 = .ok (.aload_n 2, 1) := by decide +kernel
theorem dX7_refusal_24 : decode cX7_refusal 24 = .ok (.invokevirtual 196, 3) := by decide +kernel
theorem dX7_refusal_27 : decode cX7_refusal 27 = .ok (.ireturn, 1) := by decide +kernel
theorem dX7_counted_0 : decode cX7_counted 0 = .ok (.iconst 0, 1) := by decide +kernel
theorem dX7_counted_1 : decode cX7_counted 1 = .ok (.istore_n 1, 1) := by decide +kernel
theorem dX7_counted_2 : decode cX7_counted 2 = .ok (.iconst 0, 1) := by decide +kernel
theorem dX7_counted_3 : decode cX7_counted 3 = .ok (.istore_n 2, 1) := by decide +kernel
theorem dX7_counted_4 : decode cX7_counted 4 = .ok (.iload_n 2, 1) := by decide +kernel
theorem dX7_counted_5 : decode cX7_counted 5 = .ok (.aload_n 0, 1) := by decide +kernel
theorem dX7_counted_6 : decode cX7_counted 6 = .ok (.getfield 37, 3) := by decide +kernel
theorem dX7_counted_9 : decode cX7_counted 9 = .ok (.if_icmp .ge 37, 3) := by decide +kernel
theorem dX7_counted_12 : decode cX7_counted 12 = .ok (.iload_n 2, 1) := by decide +kernel
theorem dX7_counted_13 : decode cX7_counted 13 = .ok (.bipush 20, 2) := by decide +kernel
theorem dX7_counted_15 : decode cX7_counted 15 = .ok (.if_icmp .ge 31, 3) := by decide +kernel
theorem dX7_counted_18 : decode cX7_counted 18 = .ok (.aload_n 0, 1) := by decide +kernel
theorem dX7_counted_19 : decode cX7_counted 19 = .ok (.getfield 33, 3) := by decide +kernel
theorem dX7_counted_22 : decode cX7_counted 22 = .ok (.iload_n 2, 1) := by decide +kernel
theorem dX7_counted_23 : decode cX7_counted 23 = .ok (.aaload, 1) := by decide +kernel
theorem dX7_counted_24 : decode cX7_counted 24 = .ok (.astore_n 3, 1) := by decide +kernel
theorem dX7_counted_25 : decode cX7_counted 25 = .ok (.aload_n 3, 1) := by decide +kernel
theorem dX7_counted_26 : decode cX7_counted 26 = .ok (.ifnull 14, 3) := by decide +kernel
theorem dX7_counted_29 : decode cX7_counted 29 = .ok (.aload_n 3, 1) := by decide +kernel
theorem dX7_counted_30 : decode cX7_counted 30 = .ok (.invokevirtual 158, 3) := by decide +kernel
theorem dX7_counted_33 : decode cX7_counted 33 = .ok (.iconst 1, 1) := by decide +kernel
theorem dX7_counted_34 : decode cX7_counted 34 = .ok (.if_icmp .ne 6, 3) := by decide +kernel
theorem dX7_counted_37 : decode cX7_counted 37 = .ok (.iinc 1 1, 3) := by decide +kernel
theorem dX7_counted_40 : decode cX7_counted 40 = .ok (.iinc 2 1, 3) := by decide +kernel
theorem dX7_counted_43 : decode cX7_counted 43 = .ok (.goto (-39), 3) := by decide +kernel
theorem dX7_counted_46 : decode cX7_counted 46 = .ok (.iload_n 1, 1) := by decide +kernel
theorem dX7_counted_47 : decode cX7_counted 47 = .ok (.ireturn, 1) := by decide +kernel
theorem dX7_doubt_0 : decode cX7_doubt 0 = .ok (.aload_n 0, 1) := by decide +kernel
theorem dX7_doubt_1 : decode cX7_doubt 1 = .ok (.iload_n 1, 1) := by decide +kernel
theorem dX7_doubt_2 : decode cX7_doubt 2 = .ok (.invokevirtual 154, 3) := by decide +kernel
theorem dX7_doubt_5 : decode cX7_doubt 5 = .ok (.astore_n 3, 1) := by decide +kernel
theorem dX7_doubt_6 : decode cX7_doubt 6 = .ok (.iload_n 2, 1) := by decide +kernel
theorem dX7_doubt_7 : decode cX7_doubt 7 = .ok (.invokestatic 71, 3) := by decide +kernel
theorem dX7_doubt_10 : decode cX7_doubt 10 = .ok (.aload_n 3, 1) := by decide +kernel
theorem dX7_doubt_11 : decode cX7_doubt 11 = .ok (.invokevirtual 199, 3) := by decide +kernel
theorem dX7_doubt_14 : decode cX7_doubt 14 = .ok (.ifCond .eq 11, 3) := by decide +kernel
theorem dX7_doubt_17 : decode cX7_doubt 17 = .ok (.aload_n 3, 1) := by decide +kernel
theorem dX7_doubt_18 : decode cX7_doubt 18 = .ok (.iload_n 2, 1) := by decide +kernel
theorem dX7_doubt_19 : decode cX7_doubt 19 = .ok (.invokevirtual 203, 3) := by decide +kernel
theorem dX7_doubt_22 : decode cX7_doubt 22 = .ok (.ifCond .ne 13, 3) := by decide +kernel
theorem dX7_doubt_25 : decode cX7_doubt 25 = .ok (.new 44, 3) := by decide +kernel
theorem dX7_doubt_28 : decode cX7_doubt 28 = .ok (.dup, 1) := by decide +kernel
theorem dX7_doubt_29 : decode cX7_doubt 29 = .ok (.ldc 206, 2) := by decide +kernel
theorem dX7_doubt_31 : decode cX7_doubt 31 = .ok (.invokespecial 48, 3) := by decide +kernel
theorem dX7_doubt_34 : decode cX7_doubt 34 = .ok (.athrow, 1) := by decide +kernel
theorem dX7_doubt_35 : decode cX7_doubt 35 = .ok (.aload_n 3, 1) := by decide +kernel
theorem dX7_doubt_36 : decode cX7_doubt 36 = .ok (.iload_n 2, 1) := by decide +kernel
theorem dX7_doubt_37 : decode cX7_doubt 37 = .ok (.invokevirtual 208, 3) := by decide +kernel
theorem dX7_doubt_40 : decode cX7_doubt 40 = .ok (.istore 4, 2) := by decide +kernel
theorem dX7_doubt_42 : decode cX7_doubt 42 = .ok (.aload_n 3, 1) := by decide +kernel
theorem dX7_doubt_43 : decode cX7_doubt 43 = .ok (.iconst 1, 1) := by decide +kernel
theorem dX7_doubt_44 : decode cX7_doubt 44 = .ok (.iload_n 2, 1) := by decide +kernel
theorem dX7_doubt_45 : decode cX7_doubt 45 = .ok (.ishl, 1) := by decide +kernel
theorem dX7_doubt_46 : decode cX7_doubt 46 = .ok (.invokevirtual 211, 3) := by decide +kernel
theorem dX7_doubt_49 : decode cX7_doubt 49 = .ok (.iload 4, 2) := by decide +kernel
theorem dX7_doubt_51 : decode cX7_doubt 51 = .ok (.ireturn, 1) := by decide +kernel
theorem dX7_settle_0 : decode cX7_settle 0 = .ok (.aload_n 0, 1) := by decide +kernel
theorem dX7_settle_1 : decode cX7_settle 1 = .ok (.iload_n 1, 1) := by decide +kernel
theorem dX7_settle_2 : decode cX7_settle 2 = .ok (.invokevirtual 154, 3) := by decide +kernel
theorem dX7_settle_5 : decode cX7_settle 5 = .ok (.astore 4, 2) := by decide +kernel
theorem dX7_settle_7 : decode cX7_settle 7 = .ok (.iload_n 2, 1) := by decide +kernel
theorem dX7_settle_8 : decode cX7_settle 8 = .ok (.invokestatic 71, 3) := by decide +kernel
theorem dX7_settle_11 : decode cX7_settle 11 = .ok (.aload 4, 2) := by decide +kernel
theorem dX7_settle_13 : decode cX7_settle 13 = .ok (.invokevirtual 158, 3) := by decide +kernel
theorem dX7_settle_16 : decode cX7_settle 16 = .ok (.iconst 3, 1) := by decide +kernel
theorem dX7_settle_17 : decode cX7_settle 17 = .ok (.if_icmp .ne 12, 3) := by decide +kernel
theorem dX7_settle_20 : decode cX7_settle 20 = .ok (.aload 4, 2) := by decide +kernel
theorem dX7_settle_22 : decode cX7_settle 22 = .ok (.iload_n 2, 1) := by decide +kernel
theorem dX7_settle_23 : decode cX7_settle 23 = .ok (.invokevirtual 208, 3) := by decide +kernel
theorem dX7_settle_26 : decode cX7_settle 26 = .ok (.ifCond .ne 13, 3) := by decide +kernel
theorem dX7_settle_29 : decode cX7_settle 29 = .ok (.new 44, 3) := by decide +kernel
theorem dX7_settle_32 : decode cX7_settle 32 = .ok (.dup, 1) := by decide +kernel
theorem dX7_settle_33 : decode cX7_settle 33 = .ok (.ldc 214, 2) := by decide +kernel
theorem dX7_settle_35 : decode cX7_settle 35 = .ok (.invokespecial 48, 3) := by decide +kernel
theorem dX7_settle_38 : decode cX7_settle 38 = .ok (.athrow, 1) := by decide +kernel
theorem dX7_settle_39 : decode cX7_settle 39 = .ok (.iload_n 3, 1) := by decide +kernel
theorem dX7_settle_40 : decode cX7_settle 40 = .ok (.ifCond .eq 12, 3) := by decide +kernel
theorem dX7_settle_43 : decode cX7_settle 43 = .ok (.aload 4, 2) := by decide +kernel
theorem dX7_settle_45 : decode cX7_settle 45 = .ok (.iload_n 2, 1) := by decide +kernel
theorem dX7_settle_46 : decode cX7_settle 46 = .ok (.invokevirtual 216, 3) := by decide +kernel
theorem dX7_settle_49 : decode cX7_settle 49 = .ok (.goto 8, 3) := by decide +kernel
theorem dX7_settle_52 : decode cX7_settle 52 = .ok (.aload 4, 2) := by decide +kernel
theorem dX7_settle_54 : decode cX7_settle 54 = .ok (.invokevirtual 219, 3) := by decide +kernel
theorem dX7_settle_57 : decode cX7_settle 57 = .ok (.aload 4, 2) := by decide +kernel
theorem dX7_settle_59 : decode cX7_settle 59 = .ok (.invokevirtual 158, 3) := by decide +kernel
theorem dX7_settle_62 : decode cX7_settle 62 = .ok (.ireturn, 1) := by decide +kernel
theorem dX7_amend_0 : decode cX7_amend 0 = .ok (.aload_n 0, 1) := by decide +kernel
theorem dX7_amend_1 : decode cX7_amend 1 = .ok (.iload_n 1, 1) := by decide +kernel
theorem dX7_amend_2 : decode cX7_amend 2 = .ok (.invokevirtual 154, 3) := by decide +kernel
theorem dX7_amend_5 : decode cX7_amend 5 = .ok (.astore 4, 2) := by decide +kernel
theorem dX7_amend_7 : decode cX7_amend 7 = .ok (.iload_n 2, 1) := by decide +kernel
theorem dX7_amend_8 : decode cX7_amend 8 = .ok (.invokestatic 71, 3) := by decide +kernel
theorem dX7_amend_11 : decode cX7_amend 11 = .ok (.aload 4, 2) := by decide +kernel
theorem dX7_amend_13 : decode cX7_amend 13 = .ok (.invokevirtual 158, 3) := by decide +kernel
theorem dX7_amend_16 : decode cX7_amend 16 = .ok (.iconst 3, 1) := by decide +kernel
theorem dX7_amend_17 : decode cX7_amend 17 = .ok (.if_icmp .ne 12, 3) := by decide +kernel
theorem dX7_amend_20 : decode cX7_amend 20 = .ok (.aload 4, 2) := by decide +kernel
theorem dX7_amend_22 : decode cX7_amend 22 = .ok (.iload_n 2, 1) := by decide +kernel
theorem dX7_amend_23 : decode cX7_amend 23 = .ok (.invokevirtual 161, 3) := by decide +kernel
theorem dX7_amend_26 : decode cX7_amend 26 = .ok (.ifCond .ne 13, 3) := by decide +kernel
theorem dX7_amend_29 : decode cX7_amend 29 = .ok (.new 44, 3) := by decide +kernel
theorem dX7_amend_32 : decode cX7_amend 32 = .ok (.dup, 1) := by decide +kernel
theorem dX7_amend_33 : decode cX7_amend 33 = .ok (.ldc 222, 2) := by decide +kernel
theorem dX7_amend_35 : decode cX7_amend 35 = .ok (.invokespecial 48, 3) := by decide +kernel
theorem dX7_amend_38 : decode cX7_amend 38 = .ok (.athrow, 1) := by decide +kernel
theorem dX7_amend_39 : decode cX7_amend 39 = .ok (.aload 4, 2) := by decide +kernel
theorem dX7_amend_41 : decode cX7_amend 41 = .ok (.iload_n 2, 1) := by decide +kernel
theorem dX7_amend_42 : decode cX7_amend 42 = .ok (.iload_n 3, 1) := by decide +kernel
theorem dX7_amend_43 : decode cX7_amend 43 = .ok (.invokevirtual 166, 3) := by decide +kernel
theorem dX7_amend_46 : decode cX7_amend 46 = .ok (.ifCond .ne 13, 3) := by decide +kernel
theorem dX7_amend_49 : decode cX7_amend 49 = .ok (.new 75, 3) := by decide +kernel
theorem dX7_amend_52 : decode cX7_amend 52 = .ok (.dup, 1) := by decide +kernel
theorem dX7_amend_53 : decode cX7_amend 53 = .ok (.ldc 170, 2) := by decide +kernel
theorem dX7_amend_55 : decode cX7_amend 55 = .ok (.invokespecial 79, 3) := by decide +kernel
theorem dX7_amend_58 : decode cX7_amend 58 = .ok (.athrow, 1) := by decide +kernel
theorem dX7_amend_59 : decode cX7_amend 59 = .ok (.aload 4, 2) := by decide +kernel
theorem dX7_amend_61 : decode cX7_amend 61 = .ok (.iload_n 2, 1) := by decide +kernel
theorem dX7_amend_62 : decode cX7_amend 62 = .ok (.iload_n 3, 1) := by decide +kernel
theorem dX7_amend_63 : decode cX7_amend 63 = .ok (.invokevirtual 172, 3) := by decide +kernel
theorem dX7_amend_66 : decode cX7_amend 66 = .ok (.aload 4, 2) := by decide +kernel
theorem dX7_amend_68 : decode cX7_amend 68 = .ok (.iload_n 2, 1) := by decide +kernel
theorem dX7_amend_69 : decode cX7_amend 69 = .ok (.invokevirtual 216, 3) := by decide +kernel
theorem dX7_amend_72 : decode cX7_amend 72 = .ok (.aload 4, 2) := by decide +kernel
theorem dX7_amend_74 : decode cX7_amend 74 = .ok (.invokevirtual 180, 3) := by decide +kernel
theorem dX7_amend_77 : decode cX7_amend 77 = .ok (.aload 4, 2) := by decide +kernel
theorem dX7_amend_79 : decode cX7_amend 79 = .ok (.invokevirtual 158, 3) := by decide +kernel
theorem dX7_amend_82 : decode cX7_amend 82 = .ok (.ireturn, 1) := by decide +kernel
theorem dX7_doubts_0 : decode cX7_doubts 0 = .ok (.aload_n 0, 1) := by decide +kernel
theorem dX7_doubts_1 : decode cX7_doubts 1 = .ok (.iload_n 1, 1) := by decide +kernel
theorem dX7_doubts_2 : decode cX7_doubts 2 = .ok (.invokevirtual 154, 3) := by decide +kernel
theorem dX7_doubts_5 : decode cX7_doubts 5 = .ok (.invokevirtual 224, 3) := by decide +kernel
theorem dX7_doubts_8 : decode cX7_doubts 8 = .ok (.ireturn, 1) := by decide +kernel
theorem dX7_requireField_0 : decode cX7_requireField 0 = .ok (.iload_n 0, 1) := by decide +kernel
theorem dX7_requireField_1 : decode cX7_requireField 1 = .ok (.ifCond .lt 9, 3) := by decide +kernel
theorem dX7_requireField_4 : decode cX7_requireField 4 = .ok (.iload_n 0, 1) := by decide +kernel
theorem dX7_requireField_5 : decode cX7_requireField 5 = .ok (.bipush 6, 2) := by decide +kernel
theorem dX7_requireField_7 : decode cX7_requireField 7 = .ok (.if_icmp .lt 13, 3) := by decide +kernel
theorem dX7_requireField_10 : decode cX7_requireField 10 = .ok (.new 227, 3) := by decide +kernel
theorem dX7_requireField_13 : decode cX7_requireField 13 = .ok (.dup, 1) := by decide +kernel
theorem dX7_requireField_14 : decode cX7_requireField 14 = .ok (.ldc 229, 2) := by decide +kernel
theorem dX7_requireField_16 : decode cX7_requireField 16 = .ok (.invokespecial 231, 3) := by decide +kernel
theorem dX7_requireField_19 : decode cX7_requireField 19 = .ok (.athrow, 1) := by decide +kernel
theorem dX7_requireField_20 : decode cX7_requireField 20 = .ok (.return_, 1) := by decide +kernel
theorem dX7_requireFormula_0 : decode cX7_requireFormula 0 = .ok (.iload_n 0, 1) := by decide +kernel
theorem dX7_requireFormula_1 : decode cX7_requireFormula 1 = .ok (.ifCond .lt 9, 3) := by decide +kernel
theorem dX7_requireFormula_4 : decode cX7_requireFormula 4 = .ok (.iload_n 0, 1) := by decide +kernel
theorem dX7_requireFormula_5 : decode cX7_requireFormula 5 = .ok (.bipush 10, 2) := by decide +kernel
theorem dX7_requireFormula_7 : decode cX7_requireFormula 7 = .ok (.if_icmp .lt 13, 3) := by decide +kernel
theorem dX7_requireFormula_10 : decode cX7_requireFormula 10 = .ok (.new 227, 3) := by decide +kernel
theorem dX7_requireFormula_13 : decode cX7_requireFormula 13 = .ok (.dup, 1) := by decide +kernel
theorem dX7_requireFormula_14 : decode cX7_requireFormula 14 = .ok (.ldc 232, 2) := by decide +kernel
theorem dX7_requireFormula_16 : decode cX7_requireFormula 16 = .ok (.invokespecial 231, 3) := by decide +kernel
theorem dX7_requireFormula_19 : decode cX7_requireFormula 19 = .ok (.athrow, 1) := by decide +kernel
theorem dX7_requireFormula_20 : decode cX7_requireFormula 20 = .ok (.return_, 1) := by decide +kernel
theorem dX7_requirePlace_0 : decode cX7_requirePlace 0 = .ok (.iload_n 0, 1) := by decide +kernel
theorem dX7_requirePlace_1 : decode cX7_requirePlace 1 = .ok (.ifCond .ge 13, 3) := by decide +kernel
theorem dX7_requirePlace_4 : decode cX7_requirePlace 4 = .ok (.new 227, 3) := by decide +kernel
theorem dX7_requirePlace_7 : decode cX7_requirePlace 7 = .ok (.dup, 1) := by decide +kernel
theorem dX7_requirePlace_8 : decode cX7_requirePlace 8 = .ok (.ldc 234, 2) := by decide +kernel
theorem dX7_requirePlace_10 : decode cX7_requirePlace 10 = .ok (.invokespecial 231, 3) := by decide +kernel
theorem dX7_requirePlace_13 : decode cX7_requirePlace 13 = .ok (.athrow, 1) := by decide +kernel
theorem dX7_requirePlace_14 : decode cX7_requirePlace 14 = .ok (.return_, 1) := by decide +kernel
theorem dX7_requireVersion_0 : decode cX7_requireVersion 0 = .ok (.iload_n 1, 1) := by decide +kernel
theorem dX7_requireVersion_1 : decode cX7_requireVersion 1 = .ok (.ifCond .lt 26, 3) := by decide +kernel
theorem dX7_requireVersion_4 : decode cX7_requireVersion 4 = .ok (.iload_n 1, 1) := by decide +kernel
theorem dX7_requireVersion_5 : decode cX7_requireVersion 5 = .ok (.aload_n 0, 1) := by decide +kernel
theorem dX7_requireVersion_6 : decode cX7_requireVersion 6 = .ok (.getfield 27, 3) := by decide +kernel
theorem dX7_requireVersion_9 : decode cX7_requireVersion 9 = .ok (.if_icmp .ge 18, 3) := by decide +kernel
theorem dX7_requireVersion_12 : decode cX7_requireVersion 12 = .ok (.iload_n 1, 1) := by decide +kernel
theorem dX7_requireVersion_13 : decode cX7_requireVersion 13 = .ok (.bipush 10, 2) := by decide +kernel
theorem dX7_requireVersion_15 : decode cX7_requireVersion 15 = .ok (.if_icmp .ge 12, 3) := by decide +kernel
theorem dX7_requireVersion_18 : decode cX7_requireVersion 18 = .ok (.aload_n 0, 1) := by decide +kernel
theorem dX7_requireVersion_19 : decode cX7_requireVersion 19 = .ok (.getfield 23, 3) := by decide +kernel
theorem dX7_requireVersion_22 : decode cX7_requireVersion 22 = .ok (.iload_n 1, 1) := by decide +kernel
theorem dX7_requireVersion_23 : decode cX7_requireVersion 23 = .ok (.aaload, 1) := by decide +kernel
theorem dX7_requireVersion_24 : decode cX7_requireVersion 24 = .ok (.goto 4, 3) := by decide +kernel
theorem dX7_requireVersion_27 : decode cX7_requireVersion 27 = .ok (.aconst_null, 1) := by decide +kernel
theorem dX7_requireVersion_28 : decode cX7_requireVersion 28 = .ok (.astore_n 2, 1) := by decide +kernel
theorem dX7_requireVersion_29 : decode cX7_requireVersion 29 = .ok (.aload_n 2, 1) := by decide +kernel
theorem dX7_requireVersion_30 : decode cX7_requireVersion 30 = .ok (.ifnonnull 13, 3) := by decide +kernel
theorem dX7_requireVersion_33 : decode cX7_requireVersion 33 = .ok (.new 227, 3) := by decide +kernel
theorem dX7_requireVersion_36 : decode cX7_requireVersion 36 = .ok (.dup, 1) := by decide +kernel
theorem dX7_requireVersion_37 : decode cX7_requireVersion 37 = .ok (.ldc 236, 2) := by decide +kernel
theorem dX7_requireVersion_39 : decode cX7_requireVersion 39 = .ok (.invokespecial 231, 3) := by decide +kernel
theorem dX7_requireVersion_42 : decode cX7_requireVersion 42 = .ok (.athrow, 1) := by decide +kernel
theorem dX7_requireVersion_43 : decode cX7_requireVersion 43 = .ok (.aload_n 2, 1) := by decide +kernel
theorem dX7_requireVersion_44 : decode cX7_requireVersion 44 = .ok (.areturn, 1) := by decide +kernel
theorem dX7_requireAnswer_0 : decode cX7_requireAnswer 0 = .ok (.iload_n 1, 1) := by decide +kernel
theorem dX7_requireAnswer_1 : decode cX7_requireAnswer 1 = .ok (.ifCond .lt 26, 3) := by decide +kernel
theorem dX7_requireAnswer_4 : decode cX7_requireAnswer 4 = .ok (.iload_n 1, 1) := by decide +kernel
theorem dX7_requireAnswer_5 : decode cX7_requireAnswer 5 = .ok (.aload_n 0, 1) := by decide +kernel
theorem dX7_requireAnswer_6 : decode cX7_requireAnswer 6 = .ok (.getfield 37, 3) := by decide +kernel
theorem dX7_requireAnswer_9 : decode cX7_requireAnswer 9 = .ok (.if_icmp .ge 18, 3) := by decide +kernel
theorem dX7_requireAnswer_12 : decode cX7_requireAnswer 12 = .ok (.iload_n 1, 1) := by decide +kernel
theorem dX7_requireAnswer_13 : decode cX7_requireAnswer 13 = .ok (.bipush 20, 2) := by decide +kernel
theorem dX7_requireAnswer_15 : decode cX7_requireAnswer 15 = .ok (.if_icmp .ge 12, 3) := by decide +kernel
theorem dX7_requireAnswer_18 : decode cX7_requireAnswer 18 = .ok (.aload_n 0, 1) := by decide +kernel
theorem dX7_requireAnswer_19 : decode cX7_requireAnswer 19 = .ok (.getfield 33, 3) := by decide +kernel
theorem dX7_requireAnswer_22 : decode cX7_requireAnswer 22 = .ok (.iload_n 1, 1) := by decide +kernel
theorem dX7_requireAnswer_23 : decode cX7_requireAnswer 23 = .ok (.aaload, 1) := by decide +kernel
theorem dX7_requireAnswer_24 : decode cX7_requireAnswer 24 = .ok (.goto 4, 3) := by decide +kernel
theorem dX7_requireAnswer_27 : decode cX7_requireAnswer 27 = .ok (.aconst_null, 1) := by decide +kernel
theorem dX7_requireAnswer_28 : decode cX7_requireAnswer 28 = .ok (.astore_n 2, 1) := by decide +kernel
theorem dX7_requireAnswer_29 : decode cX7_requireAnswer 29 = .ok (.aload_n 2, 1) := by decide +kernel
theorem dX7_requireAnswer_30 : decode cX7_requireAnswer 30 = .ok (.ifnonnull 13, 3) := by decide +kernel
theorem dX7_requireAnswer_33 : decode cX7_requireAnswer 33 = .ok (.new 227, 3) := by decide +kernel
theorem dX7_requireAnswer_36 : decode cX7_requireAnswer 36 = .ok (.dup, 1) := by decide +kernel
theorem dX7_requireAnswer_37 : decode cX7_requireAnswer 37 = .ok (.ldc 238, 2) := by decide +kernel
theorem dX7_requireAnswer_39 : decode cX7_requireAnswer 39 = .ok (.invokespecial 231, 3) := by decide +kernel
theorem dX7_requireAnswer_42 : decode cX7_requireAnswer 42 = .ok (.athrow, 1) := by decide +kernel
theorem dX7_requireAnswer_43 : decode cX7_requireAnswer 43 = .ok (.aload_n 2, 1) := by decide +kernel
theorem dX7_requireAnswer_44 : decode cX7_requireAnswer 44 = .ok (.areturn, 1) := by decide +kernel
theorem dX7_isIn_0 : decode cX7_isIn 0 = .ok (.iload_n 0, 1) := by decide +kernel
theorem dX7_isIn_1 : decode cX7_isIn 1 = .ok (.iload_n 1, 1) := by decide +kernel
theorem dX7_isIn_2 : decode cX7_isIn 2 = .ok (.ishr, 1) := by decide +kernel
theorem dX7_isIn_3 : decode cX7_isIn 3 = .ok (.iconst 1, 1) := by decide +kernel
theorem dX7_isIn_4 : decode cX7_isIn 4 = .ok (.iand, 1) := by decide +kernel
theorem dX7_isIn_5 : decode cX7_isIn 5 = .ok (.iconst 1, 1) := by decide +kernel
theorem dX7_isIn_6 : decode cX7_isIn 6 = .ok (.if_icmp .ne 7, 3) := by decide +kernel
theorem dX7_isIn_9 : decode cX7_isIn 9 = .ok (.iconst 1, 1) := by decide +kernel
theorem dX7_isIn_10 : decode cX7_isIn 10 = .ok (.goto 4, 3) := by decide +kernel
theorem dX7_isIn_13 : decode cX7_isIn 13 = .ok (.iconst 0, 1) := by decide +kernel
theorem dX7_isIn_14 : decode cX7_isIn 14 = .ok (.ireturn, 1) := by decide +kernel
theorem dX8_init_0 : decode cX8_init 0 = .ok (.aload_n 0, 1) := by decide +kernel
theorem dX8_init_1 : decode cX8_init 1 = .ok (.invokespecial 1, 3) := by decide +kernel
theorem dX8_init_4 : decode cX8_init 4 = .ok (.aload_n 0, 1) := by decide +kernel
theorem dX8_init_5 : decode cX8_init 5 = .ok (.bipush 40, 2) := by decide +kernel
theorem dX8_init_7 : decode cX8_init 7 = .ok (.newarray .int, 2) := by decide +kernel
theorem dX8_init_9 : decode cX8_init 9 = .ok (.putfield 7, 3) := by decide +kernel
theorem dX8_init_12 : decode cX8_init 12 = .ok (.aload_n 0, 1) := by decide +kernel
theorem dX8_init_13 : decode cX8_init 13 = .ok (.sipush 4400, 3) := by decide +kernel
theorem dX8_init_16 : decode cX8_init 16 = .ok (.newarray .int, 2) := by decide +kernel
theorem dX8_init_18 : decode cX8_init 18 = .ok (.putfield 13, 3) := by decide +kernel
theorem dX8_init_21 : decode cX8_init 21 = .ok (.aload_n 0, 1) := by decide +kernel
theorem dX8_init_22 : decode cX8_init 22 = .ok (.bipush 110, 2) := by decide +kernel
theorem dX8_init_24 : decode cX8_init 24 = .ok (.newarray .int, 2) := by decide +kernel
theorem dX8_init_26 : decode cX8_init 26 = .ok (.putfield 16, 3) := by decide +kernel
theorem dX8_init_29 : decode cX8_init 29 = .ok (.aload_n 0, 1) := by decide +kernel
theorem dX8_init_30 : decode cX8_init 30 = .ok (.bipush 66, 2) := by decide +kernel
theorem dX8_init_32 : decode cX8_init 32 = .ok (.newarray .int, 2) := by decide +kernel
theorem dX8_init_34 : decode cX8_init 34 = .ok (.putfield 19, 3) := by decide +kernel
theorem dX8_init_37 : decode cX8_init 37 = .ok (.aload_n 0, 1) := by decide +kernel
theorem dX8_init_38 : decode cX8_init 38 = .ok (.bipush 20, 2) := by decide +kernel
theorem dX8_init_40 : decode cX8_init 40 = .ok (.newarray .int, 2) := by decide +kernel
theorem dX8_init_42 : decode cX8_init 42 = .ok (.putfield 22, 3) := by decide +kernel
theorem dX8_init_45 : decode cX8_init 45 = .ok (.aload_n 0, 1) := by decide +kernel
theorem dX8_init_46 : decode cX8_init 46 = .ok (.bipush 20, 2) := by decide +kernel
theorem dX8_init_48 : decode cX8_init 48 = .ok (.newarray .int, 2) := by decide +kernel
theorem dX8_init_50 : decode cX8_init 50 = .ok (.putfield 25, 3) := by decide +kernel
theorem dX8_init_53 : decode cX8_init 53 = .ok (.aload_n 0, 1) := by decide +kernel
theorem dX8_init_54 : decode cX8_init 54 = .ok (.bipush 120, 2) := by decide +kernel
theorem dX8_init_56 : decode cX8_init 56 = .ok (.newarray .int, 2) := by decide +kernel
theorem dX8_init_58 : decode cX8_init 58 = .ok (.putfield 28, 3) := by decide +kernel
theorem dX8_init_61 : decode cX8_init 61 = .ok (.aload_n 0, 1) := by decide +kernel
theorem dX8_init_62 : decode cX8_init 62 = .ok (.bipush 120, 2) := by decide +kernel
theorem dX8_init_64 : decode cX8_init 64 = .ok (.newarray .boolean, 2) := by decide +kernel
theorem dX8_init_66 : decode cX8_init 66 = .ok (.putfield 31, 3) := by decide +kernel
theorem dX8_init_69 : decode cX8_init 69 = .ok (.aload_n 0, 1) := by decide +kernel
theorem dX8_init_70 : decode cX8_init 70 = .ok (.bipush 20, 2) := by decide +kernel
theorem dX8_init_72 : decode cX8_init 72 = .ok (.newarray .int, 2) := by decide +kernel
theorem dX8_init_74 : decode cX8_init 74 = .ok (.putfield 35, 3) := by decide +kernel
theorem dX8_init_77 : decode cX8_init 77 = .ok (.aload_n 0, 1) := by decide +kernel
theorem dX8_init_78 : decode cX8_init 78 = .ok (.bipush 8, 2) := by decide +kernel
theorem dX8_init_80 : decode cX8_init 80 = .ok (.newarray .int, 2) := by decide +kernel
theorem dX8_init_82 : decode cX8_init 82 = .ok (.putfield 38, 3) := by decide +kernel
theorem dX8_init_85 : decode cX8_init 85 = .ok (.aload_n 0, 1) := by decide +kernel
theorem dX8_init_86 : decode cX8_init 86 = .ok (.bipush 8, 2) := by decide +kernel
theorem dX8_init_88 : decode cX8_init 88 = .ok (.newarray .boolean, 2) := by decide +kernel
theorem dX8_init_90 : decode cX8_init 90 = .ok (.putfield 41, 3) := by decide +kernel
theorem dX8_init_93 : decode cX8_init 93 = .ok (.aload_n 0, 1) := by decide +kernel
theorem dX8_init_94 : decode cX8_init 94 = .ok (.bipush 40, 2) := by decide +kernel
theorem dX8_init_96 : decode cX8_init 96 = .ok (.newarray .int, 2) := by decide +kernel
theorem dX8_init_98 : decode cX8_init 98 = .ok (.putfield 44, 3) := by decide +kernel
theorem dX8_init_101 : decode cX8_init 101 = .ok (.aload_n 0, 1) := by decide +kernel
theorem dX8_init_102 : decode cX8_init 102 = .ok (.bipush 40, 2) := by decide +kernel
theorem dX8_init_104 : decode cX8_init 104 = .ok (.newarray .int, 2) := by decide +kernel
theorem dX8_init_106 : decode cX8_init 106 = .ok (.putfield 47, 3) := by decide +kernel
theorem dX8_init_109 : decode cX8_init 109 = .ok (.aload_n 0, 1) := by decide +kernel
theorem dX8_init_110 : decode cX8_init 110 = .ok (.bipush 40, 2) := by decide +kernel
theorem dX8_init_112 : decode cX8_init 112 = .ok (.newarray .int, 2) := by decide +kernel
theorem dX8_init_114 : decode cX8_init 114 = .ok (.putfield 50, 3) := by decide +kernel
theorem dX8_init_117 : decode cX8_init 117 = .ok (.aload_n 0, 1) := by decide +kernel
theorem dX8_init_118 : decode cX8_init 118 = .ok (.bipush 6, 2) := by decide +kernel
theorem dX8_init_120 : decode cX8_init 120 = .ok (.newarray .int, 2) := by decide +kernel
theorem dX8_init_122 : decode cX8_init 122 = .ok (.putfield 53, 3) := by decide +kernel
theorem dX8_init_125 : decode cX8_init 125 = .ok (.aload_n 0, 1) := by decide +kernel
theorem dX8_init_126 : decode cX8_init 126 = .ok (.sipush 200, 3) := by decide +kernel
theorem dX8_init_129 : decode cX8_init 129 = .ok (.newarray .int, 2) := by decide +kernel
theorem dX8_init_131 : decode cX8_init 131 = .ok (.putfield 56, 3) := by decide +kernel
theorem dX8_init_134 : decode cX8_init 134 = .ok (.aload_n 0, 1) := by decide +kernel
theorem dX8_init_135 : decode cX8_init 135 = .ok (.sipush 200, 3) := by decide +kernel
theorem dX8_init_138 : decode cX8_init 138 = .ok (.newarray .int, 2) := by decide +kernel
theorem dX8_init_140 : decode cX8_init 140 = .ok (.putfield 59, 3) := by decide +kernel
theorem dX8_init_143 : decode cX8_init 143 = .ok (.aload_n 0, 1) := by decide +kernel
theorem dX8_init_144 : decode cX8_init 144 = .ok (.iconst 0, 1) := by decide +kernel
theorem dX8_init_145 : decode cX8_init 145 = .ok (.putfield 62, 3) := by decide +kernel
theorem dX8_init_148 : decode cX8_init 148 = .ok (.return_, 1) := by decide +kernel
theorem dX8_thrown_0 : decode cX8_thrown 0 = .ok (.aload_n 0, 1) := by decide +kernel
theorem dX8_thrown_1 : decode cX8_thrown 1 = .ok (.getfield 66, 3) := by decide +kernel
theorem dX8_thrown_4 : decode cX8_thrown 4 = .ok (.ireturn, 1) := by decide +kernel
theorem dX8_in_0 : decode cX8_in 0 = .ok (.iload_n 0, 1) := by decide +kernel
theorem dX8_in_1 : decode cX8_in 1 = .ok (.iload_n 1, 1) := by decide +kernel
theorem dX8_in_2 : decode cX8_in 2 = .ok (.if_icmp .lt 12, 3) := by decide +kernel
theorem dX8_in_5 : decode cX8_in 5 = .ok (.iload_n 0, 1) := by decide +kernel
theorem dX8_in_6 : decode cX8_in 6 = .ok (.iload_n 2, 1) := by decide +kernel
theorem dX8_in_7 : decode cX8_in 7 = .ok (.if_icmp .gt 7, 3) := by decide +kernel
theorem dX8_in_10 : decode cX8_in 10 = .ok (.iconst 1, 1) := by decide +kernel
theorem dX8_in_11 : decode cX8_in 11 = .ok (.goto 4, 3) := by decide +kernel
theorem dX8_in_14 : decode cX8_in 14 = .ok (.iconst 0, 1) := by decide +kernel
theorem dX8_in_15 : decode cX8_in 15 = .ok (.ireturn, 1) := by decide +kernel
theorem dX8_isField_0 : decode cX8_isField 0 = .ok (.iload_n 0, 1) := by decide +kernel
theorem dX8_isField_1 : decode cX8_isField 1 = .ok (.iconst 0, 1) := by decide +kernel
theorem dX8_isField_2 : decode cX8_isField 2 = .ok (.iconst 5, 1) := by decide +kernel
theorem dX8_isField_3 : decode cX8_isField 3 = .ok (.invokestatic 69, 3) := by decide +kernel
theorem dX8_isField_6 : decode cX8_isField 6 = .ok (.ireturn, 1) := by decide +kernel
theorem dX8_isFormula_0 : decode cX8_isFormula 0 = .ok (.iload_n 0, 1) := by decide +kernel
theorem dX8_isFormula_1 : decode cX8_isFormula 1 = .ok (.iconst 0, 1) := by decide +kernel
theorem dX8_isFormula_2 : decode cX8_isFormula 2 = .ok (.bipush 9, 2) := by decide +kernel
theorem dX8_isFormula_4 : decode cX8_isFormula 4 = .ok (.invokestatic 69, 3) := by decide +kernel
theorem dX8_isFormula_7 : decode cX8_isFormula 7 = .ok (.ireturn, 1) := by decide +kernel
theorem dX8_endFactor_0 : decode cX8_endFactor 0 = .ok (.aload_n 0, 1) := by decide +kernel
theorem dX8_endFactor_1 : decode cX8_endFactor 1 = .ok (.getfield 73, 3) := by decide +kernel
theorem dX8_endFactor_4 : decode cX8_endFactor 4 = .ok (.ifCond .le 32, 3) := by decide +kernel
theorem dX8_endFactor_7 : decode cX8_endFactor 7 = .ok (.aload_n 0, 1) := by decide +kernel
theorem dX8_endFactor_8 : decode cX8_endFactor 8 = .ok (.getfield 38, 3) := by decide +kernel
theorem dX8_endFactor_11 : decode cX8_endFactor 11 = .ok (.aload_n 0, 1) := by decide +kernel
theorem dX8_endFactor_12 : decode cX8_endFactor 12 = .ok (.getfield 73, 3) := by decide +kernel
theorem dX8_endFactor_15 : decode cX8_endFactor 15 = .ok (.iconst 1, 1) := by decide +kernel
theorem dX8_endFactor_16 : decode cX8_endFactor 16 = .ok (.isub, 1) := by decide +kernel
theorem dX8_endFactor_17 : decode cX8_endFactor 17 = .ok (.iaload, 1) := by decide +kernel
theorem dX8_endFactor_18 : decode cX8_endFactor 18 = .ok (.bipush 33, 2) := by decide +kernel
theorem dX8_endFactor_20 : decode cX8_endFactor 20 = .ok (.if_icmp .ne 16, 3) := by decide +kernel
theorem dX8_endFactor_23 : decode cX8_endFactor 23 = .ok (.aload_n 0, 1) := by decide +kernel
theorem dX8_endFactor_24 : decode cX8_endFactor 24 = .ok (.dup, 1) := by decide +kernel
theorem dX8_endFactor_25 : decode cX8_endFactor 25 = .ok (.getfield 73, 3) := by decide +kernel
theorem dX8_endFactor_28 : decode cX8_endFactor 28 = .ok (.iconst 1, 1) := by decide +kernel
theorem dX8_endFactor_29 : decode cX8_endFactor 29 = .ok (.isub, 1) := by decide +kernel
theorem dX8_endFactor_30 : decode cX8_endFactor 30 = .ok (.putfield 73, 3) := by decide +kernel
theorem dX8_endFactor_33 : decode cX8_endFactor 33 = .ok (.goto (-33), 3) := by decide +kernel
theorem dX8_endFactor_36 : decode cX8_endFactor 36 = .ok (.return_, 1) := by decide +kernel
theorem dX8_isDigit_0 : decode cX8_isDigit 0 = .ok (.iload_n 0, 1) := by decide +kernel
theorem dX8_isDigit_1 : decode cX8_isDigit 1 = .ok (.bipush 48, 2) := by decide +kernel
theorem dX8_isDigit_3 : decode cX8_isDigit 3 = .ok (.bipush 57, 2) := by decide +kernel
theorem dX8_isDigit_5 : decode cX8_isDigit 5 = .ok (.invokestatic 69, 3) := by decide +kernel
theorem dX8_isDigit_8 : decode cX8_isDigit 8 = .ok (.ireturn, 1) := by decide +kernel
theorem dX8_isLetter_0 : decode cX8_isLetter 0 = .ok (.iload_n 0, 1) := by decide +kernel
theorem dX8_isLetter_1 : decode cX8_isLetter 1 = .ok (.bipush 97, 2) := by decide +kernel
theorem dX8_isLetter_3 : decode cX8_isLetter 3 = .ok (.bipush 102, 2) := by decide +kernel
theorem dX8_isLetter_5 : decode cX8_isLetter 5 = .ok (.invokestatic 69, 3) := by decide +kernel
theorem dX8_isLetter_8 : decode cX8_isLetter 8 = .ok (.ireturn, 1) := by decide +kernel
theorem dX8_opens_0 : decode cX8_opens 0 = .ok (.iload_n 1, 1) := by decide +kernel
theorem dX8_opens_1 : decode cX8_opens 1 = .ok (.bipush 40, 2) := by decide +kernel
theorem dX8_opens_3 : decode cX8_opens 3 = .ok (.if_icmp .eq 9, 3) := by decide +kernel
theorem dX8_opens_6 : decode cX8_opens 6 = .ok (.iload_n 1, 1) := by decide +kernel
theorem dX8_opens_7 : decode cX8_opens 7 = .ok (.bipush 33, 2) := by decide +kernel
theorem dX8_opens_9 : decode cX8_opens 9 = .ok (.if_icmp .ne 12, 3) := by decide +kernel
theorem dX8_opens_12 : decode cX8_opens 12 = .ok (.aload_n 0, 1) := by decide +kernel
theorem dX8_opens_13 : decode cX8_opens 13 = .ok (.getfield 73, 3) := by decide +kernel
theorem dX8_opens_16 : decode cX8_opens 16 = .ok (.bipush 6, 2) := by decide +kernel
theorem dX8_opens_18 : decode cX8_opens 18 = .ok (.if_icmp .ne 5, 3) := by decide +kernel
theorem dX8_opens_21 : decode cX8_opens 21 = .ok (.iconst 0, 1) := by decide +kernel
theorem dX8_opens_22 : decode cX8_opens 22 = .ok (.ireturn, 1) := by decide +kernel
theorem dX8_opens_23 : decode cX8_opens 23 = .ok (.aload_n 0, 1) := by decide +kernel
theorem dX8_opens_24 : decode cX8_opens 24 = .ok (.getfield 38, 3) := by decide +kernel
theorem dX8_opens_27 : decode cX8_opens 27 = .ok (.aload_n 0, 1) := by decide +kernel
theorem dX8_opens_28 : decode cX8_opens 28 = .ok (.getfield 73, 3) := by decide +kernel
theorem dX8_opens_31 : decode cX8_opens 31 = .ok (.iload_n 1, 1) := by decide +kernel
theorem dX8_opens_32 : decode cX8_opens 32 = .ok (.iastore, 1) := by decide +kernel
theorem dX8_opens_33 : decode cX8_opens 33 = .ok (.aload_n 0, 1) := by decide +kernel
theorem dX8_opens_34 : decode cX8_opens 34 = .ok (.dup, 1) := by decide +kernel
theorem dX8_opens_35 : decode cX8_opens 35 = .ok (.getfield 73, 3) := by decide +kernel
theorem dX8_opens_38 : decode cX8_opens 38 = .ok (.iconst 1, 1) := by decide +kernel
theorem dX8_opens_39 : decode cX8_opens 39 = .ok (.iadd, 1) := by decide +kernel
theorem dX8_opens_40 : decode cX8_opens 40 = .ok (.putfield 73, 3) := by decide +kernel
theorem dX8_opens_43 : decode cX8_opens 43 = .ok (.iload_n 1, 1) := by decide +kernel
theorem dX8_opens_44 : decode cX8_opens 44 = .ok (.bipush 40, 2) := by decide +kernel
theorem dX8_opens_46 : decode cX8_opens 46 = .ok (.if_icmp .ne 23, 3) := by decide +kernel
theorem dX8_opens_49 : decode cX8_opens 49 = .ok (.aload_n 0, 1) := by decide +kernel
theorem dX8_opens_50 : decode cX8_opens 50 = .ok (.dup, 1) := by decide +kernel
theorem dX8_opens_51 : decode cX8_opens 51 = .ok (.getfield 76, 3) := by decide +kernel
theorem dX8_opens_54 : decode cX8_opens 54 = .ok (.iconst 1, 1) := by decide +kernel
theorem dX8_opens_55 : decode cX8_opens 55 = .ok (.iadd, 1) := by decide +kernel
theorem dX8_opens_56 : decode cX8_opens 56 = .ok (.putfield 76, 3) := by decide +kernel
theorem dX8_opens_59 : decode cX8_opens 59 = .ok (.aload_n 0, 1) := by decide +kernel
theorem dX8_opens_60 : decode cX8_opens 60 = .ok (.getfield 41, 3) := by decide +kernel
theorem dX8_opens_63 : decode cX8_opens 63 = .ok (.aload_n 0, 1) := by decide +kernel
theorem dX8_opens_64 : decode cX8_opens 64 = .ok (.getfield 76, 3) := by decide +kernel
theorem dX8_opens_67 : decode cX8_opens 67 = .ok (.iconst 0, 1) := by decide +kernel
theorem dX8_opens_68 : decode cX8_opens 68 = .ok (.bastore, 1) := by decide +kernel
theorem dX8_opens_69 : decode cX8_opens 69 = .ok (.iconst 1, 1) := by decide +kernel
theorem dX8_opens_70 : decode cX8_opens 70 = .ok (.ireturn, 1) := by decide +kernel
theorem dX8_goesOn_0 : decode cX8_goesOn 0 = .ok (.iload_n 1, 1) := by decide +kernel
theorem dX8_goesOn_1 : decode cX8_goesOn 1 = .ok (.bipush 41, 2) := by decide +kernel
theorem dX8_goesOn_3 : decode cX8_goesOn 3 = .ok (.if_icmp .ne 38, 3) := by decide +kernel
theorem dX8_goesOn_6 : decode cX8_goesOn 6 = .ok (.aload_n 0, 1) := by decide +kernel
theorem dX8_goesOn_7 : decode cX8_goesOn 7 = .ok (.getfield 76, 3) := by decide +kernel
theorem dX8_goesOn_10 : decode cX8_goesOn 10 = .ok (.ifCond .ne 5, 3) := by decide +kernel
theorem dX8_goesOn_13 : decode cX8_goesOn 13 = .ok (.iconst 0, 1) := by decide +kernel
theorem dX8_goesOn_14 : decode cX8_goesOn 14 = .ok (.ireturn, 1) := by decide +kernel
theorem dX8_goesOn_15 : decode cX8_goesOn 15 = .ok (.aload_n 0, 1) := by decide +kernel
theorem dX8_goesOn_16 : decode cX8_goesOn 16 = .ok (.dup, 1) := by decide +kernel
theorem dX8_goesOn_17 : decode cX8_goesOn 17 = .ok (.getfield 76, 3) := by decide +kernel
theorem dX8_goesOn_20 : decode cX8_goesOn 20 = .ok (.iconst 1, 1) := by decide +kernel
theorem dX8_goesOn_21 : decode cX8_goesOn 21 = .ok (.isub, 1) := by decide +kernel
theorem dX8_goesOn_22 : decode cX8_goesOn 22 = .ok (.putfield 76, 3) := by decide +kernel
theorem dX8_goesOn_25 : decode cX8_goesOn 25 = .ok (.aload_n 0, 1) := by decide +kernel
theorem dX8_goesOn_26 : decode cX8_goesOn 26 = .ok (.dup, 1) := by decide +kernel
theorem dX8_goesOn_27 : decode cX8_goesOn 27 = .ok (.getfield 73, 3) := by decide +kernel
theorem dX8_goesOn_30 : decode cX8_goesOn 30 = .ok (.iconst 1, 1) := by decide +kernel
theorem dX8_goesOn_31 : decode cX8_goesOn 31 = .ok (.isub, 1) := by decide +kernel
theorem dX8_goesOn_32 : decode cX8_goesOn 32 = .ok (.putfield 73, 3) := by decide +kernel
theorem dX8_goesOn_35 : decode cX8_goesOn 35 = .ok (.aload_n 0, 1) := by decide +kernel
theorem dX8_goesOn_36 : decode cX8_goesOn 36 = .ok (.invokevirtual 79, 3) := by decide +kernel
theorem dX8_goesOn_39 : decode cX8_goesOn 39 = .ok (.iconst 1, 1) := by decide +kernel
theorem dX8_goesOn_40 : decode cX8_goesOn 40 = .ok (.ireturn, 1) := by decide +kernel
theorem dX8_goesOn_41 : decode cX8_goesOn 41 = .ok (.iload_n 1, 1) := by decide +kernel
theorem dX8_goesOn_42 : decode cX8_goesOn 42 = .ok (.bipush 60, 2) := by decide +kernel
theorem dX8_goesOn_44 : decode cX8_goesOn 44 = .ok (.if_icmp .eq 15, 3) := by decide +kernel
theorem dX8_goesOn_47 : decode cX8_goesOn 47 = .ok (.iload_n 1, 1) := by decide +kernel
theorem dX8_goesOn_48 : decode cX8_goesOn 48 = .ok (.bipush 61, 2) := by decide +kernel
theorem dX8_goesOn_50 : decode cX8_goesOn 50 = .ok (.if_icmp .eq 9, 3) := by decide +kernel
theorem dX8_goesOn_53 : decode cX8_goesOn 53 = .ok (.iload_n 1, 1) := by decide +kernel
theorem dX8_goesOn_54 : decode cX8_goesOn 54 = .ok (.bipush 62, 2) := by decide +kernel
theorem dX8_goesOn_56 : decode cX8_goesOn 56 = .ok (.if_icmp .ne 33, 3) := by decide +kernel
theorem dX8_goesOn_59 : decode cX8_goesOn 59 = .ok (.aload_n 0, 1) := by decide +kernel
theorem dX8_goesOn_60 : decode cX8_goesOn 60 = .ok (.getfield 41, 3) := by decide +kernel
theorem dX8_goesOn_63 : decode cX8_goesOn 63 = .ok (.aload_n 0, 1) := by decide +kernel
theorem dX8_goesOn_64 : decode cX8_goesOn 64 = .ok (.getfield 76, 3) := by decide +kernel
theorem dX8_goesOn_67 : decode cX8_goesOn 67 = .ok (.baload, 1) := by decide +kernel
theorem dX8_goesOn_68 : decode cX8_goesOn 68 = .ok (.ifCond .ne 7, 3) := by decide +kernel
theorem dX8_goesOn_71 : decode cX8_goesOn 71 = .ok (.iconst 1, 1) := by decide +kernel
theorem dX8_goesOn_72 : decode cX8_goesOn 72 = .ok (.goto 4, 3) := by decide +kernel
theorem dX8_goesOn_75 : decode cX8_goesOn 75 = .ok (.iconst 0, 1) := by decide +kernel
theorem dX8_goesOn_76 : decode cX8_goesOn 76 = .ok (.istore_n 2, 1) := by decide +kernel
theorem dX8_goesOn_77 : decode cX8_goesOn 77 = .ok (.aload_n 0, 1) := by decide +kernel
theorem dX8_goesOn_78 : decode cX8_goesOn 78 = .ok (.getfield 41, 3) := by decide +kernel
theorem dX8_goesOn_81 : decode cX8_goesOn 81 = .ok (.aload_n 0, 1) := by decide +kernel
theorem dX8_goesOn_82 : decode cX8_goesOn 82 = .ok (.getfield 76, 3) := by decide +kernel
theorem dX8_goesOn_85 : decode cX8_goesOn 85 = .ok (.iconst 1, 1) := by decide +kernel
theorem dX8_goesOn_86 : decode cX8_goesOn 86 = .ok (.bastore, 1) := by decide +kernel
theorem dX8_goesOn_87 : decode cX8_goesOn 87 = .ok (.iload_n 2, 1) := by decide +kernel
theorem dX8_goesOn_88 : decode cX8_goesOn 88 = .ok (.ireturn, 1) := by decide +kernel
theorem dX8_goesOn_89 : decode cX8_goesOn 89 = .ok (.iload_n 1, 1) := by decide +kernel
theorem dX8_goesOn_90 : decode cX8_goesOn 90 = .ok (.bipush 38, 2) := by decide +kernel
theorem dX8_goesOn_92 : decode cX8_goesOn 92 = .ok (.if_icmp .eq 9, 3) := by decide +kernel
theorem dX8_goesOn_95 : decode cX8_goesOn 95 = .ok (.iload_n 1, 1) := by decide +kernel
theorem dX8_goesOn_96 : decode cX8_goesOn 96 = .ok (.bipush 124, 2) := by decide +kernel
theorem dX8_goesOn_98 : decode cX8_goesOn 98 = .ok (.if_icmp .ne 15, 3) := by decide +kernel
theorem dX8_goesOn_101 : decode cX8_goesOn 101 = .ok (.aload_n 0, 1) := by decide +kernel
theorem dX8_goesOn_102 : decode cX8_goesOn 102 = .ok (.getfield 41, 3) := by decide +kernel
theorem dX8_goesOn_105 : decode cX8_goesOn 105 = .ok (.aload_n 0, 1) := by decide +kernel
theorem dX8_goesOn_106 : decode cX8_goesOn 106 = .ok (.getfield 76, 3) := by decide +kernel
theorem dX8_goesOn_109 : decode cX8_goesOn 109 = .ok (.iconst 0, 1) := by decide +kernel
theorem dX8_goesOn_110 : decode cX8_goesOn 110 = .ok (.bastore, 1) := by decide +kernel
theorem dX8_goesOn_111 : decode cX8_goesOn 111 = .ok (.iconst 1, 1) := by decide +kernel
theorem dX8_goesOn_112 : decode cX8_goesOn 112 = .ok (.ireturn, 1) := by decide +kernel
theorem dX8_goesOn_113 : decode cX8_goesOn 113 = .ok (.iload_n 1, 1) := by decide +kernel
theorem dX8_goesOn_114 : decode cX8_goesOn 114 = .ok (.bipush 42, 2) := by decide +kernel
theorem dX8_goesOn_116 : decode cX8_goesOn 116 = .ok (.if_icmp .eq 15, 3) := by decide +kernel
theorem dX8_goesOn_119 : decode cX8_goesOn 119 = .ok (.iload_n 1, 1) := by decide +kernel
theorem dX8_goesOn_120 : decode cX8_goesOn 120 = .ok (.bipush 43, 2) := by decide +kernel
theorem dX8_goesOn_122 : decode cX8_goesOn 122 = .ok (.if_icmp .eq 9, 3) := by decide +kernel
theorem dX8_goesOn_125 : decode cX8_goesOn 125 = .ok (.iload_n 1, 1) := by decide +kernel
theorem dX8_goesOn_126 : decode cX8_goesOn 126 = .ok (.bipush 45, 2) := by decide +kernel
theorem dX8_goesOn_128 : decode cX8_goesOn 128 = .ok (.if_icmp .ne 7, 3) := by decide +kernel
theorem dX8_goesOn_131 : decode cX8_goesOn 131 = .ok (.iconst 1, 1) := by decide +kernel
theorem dX8_goesOn_132 : decode cX8_goesOn 132 = .ok (.goto 4, 3) := by decide +kernel
theorem dX8_goesOn_135 : decode cX8_goesOn 135 = .ok (.iconst 0, 1) := by decide +kernel
theorem dX8_goesOn_136 : decode cX8_goesOn 136 = .ok (.ireturn, 1) := by decide +kernel
theorem dX8_firstError_0 : decode cX8_firstError 0 = .ok (.iconst 1, 1) := by decide +kernel
theorem dX8_firstError_1 : decode cX8_firstError 1 = .ok (.istore_n 1, 1) := by decide +kernel
theorem dX8_firstError_2 : decode cX8_firstError 2 = .ok (.iconst (-1), 1) := by decide +kernel
theorem dX8_firstError_3 : decode cX8_firstError 3 = .ok (.istore_n 2, 1) := by decide +kernel
theorem dX8_firstError_4 : decode cX8_firstError 4 = .ok (.aload_n 0, 1) := by decide +kernel
theorem dX8_firstError_5 : decode cX8_firstError 5 = .ok (.iconst 0, 1) := by decide +kernel
theorem dX8_firstError_6 : decode cX8_firstError 6 = .ok (.putfield 73, 3) := by decide +kernel
theorem dX8_firstError_9 : decode cX8_firstError 9 = .ok (.aload_n 0, 1) := by decide +kernel
theorem dX8_firstError_10 : decode cX8_firstError 10 = .ok (.iconst 0, 1) := by decide +kernel
theorem dX8_firstError_11 : decode cX8_firstError 11 = .ok (.putfield 76, 3) := by decide +kernel
theorem dX8_firstError_14 : decode cX8_firstError 14 = .ok (.aload_n 0, 1) := by decide +kernel
theorem dX8_firstError_15 : decode cX8_firstError 15 = .ok (.getfield 41, 3) := by decide +kernel
theorem dX8_firstError_18 : decode cX8_firstError 18 = .ok (.iconst 0, 1) := by decide +kernel
theorem dX8_firstError_19 : decode cX8_firstError 19 = .ok (.iconst 0, 1) := by decide +kernel
theorem dX8_firstError_20 : decode cX8_firstError 20 = .ok (.bastore, 1) := by decide +kernel
theorem dX8_firstError_21 : decode cX8_firstError 21 = .ok (.iconst 0, 1) := by decide +kernel
theorem dX8_firstError_22 : decode cX8_firstError 22 = .ok (.istore_n 3, 1) := by decide +kernel
theorem dX8_firstError_23 : decode cX8_firstError 23 = .ok (.iload_n 3, 1) := by decide +kernel
theorem dX8_firstError_24 : decode cX8_firstError 24 = .ok (.aload_n 0, 1) := by decide +kernel
theorem dX8_firstError_25 : decode cX8_firstError 25 = .ok (.getfield 62, 3) := by decide +kernel
theorem dX8_firstError_28 : decode cX8_firstError 28 = .ok (.if_icmp .ge 152, 3) := by decide +kernel
theorem dX8_firstError_31 : decode cX8_firstError 31 = .ok (.aload_n 0, 1) := by decide +kernel
theorem dX8_firstError_32 : decode cX8_firstError 32 = .ok (.getfield 7, 3) := by decide +kernel
theorem dX8_firstError_35 : decode cX8_firstError 35 = .ok (.iload_n 3, 1) := by decide +kernel
theorem dX8_firstError_36 : decode cX8_firstError 36 = .ok (.iaload, 1) := by decide +kernel
theorem dX8_firstError_37 : decode cX8_firstError 37 = .ok (.istore 4, 2) := by decide +kernel
theorem dX8_firstError_39 : decode cX8_firstError 39 = .ok (.iload_n 2, 1) := by decide +kernel
theorem dX8_firstError_40 : decode cX8_firstError 40 = .ok (.iconst (-1), 1) := by decide +kernel
theorem dX8_firstError_41 : decode cX8_firstError 41 = .ok (.if_icmp .eq 37, 3) := by decide +kernel
theorem dX8_firstError_44 : decode cX8_firstError 44 = .ok (.iload 4, 2) := by decide +kernel
theorem dX8_firstError_46 : decode cX8_firstError 46 = .ok (.invokestatic 82, 3) := by decide +kernel
theorem dX8_firstError_49 : decode cX8_firstError 49 = .ok (.ifCond .eq 29, 3) := by decide +kernel
theorem dX8_firstError_52 : decode cX8_firstError 52 = .ok (.iload_n 2, 1) := by decide +kernel
theorem dX8_firstError_53 : decode cX8_firstError 53 = .ok (.ifCond .eq 9, 3) := by decide +kernel
theorem dX8_firstError_56 : decode cX8_firstError 56 = .ok (.iload_n 2, 1) := by decide +kernel
theorem dX8_firstError_57 : decode cX8_firstError 57 = .ok (.bipush 99, 2) := by decide +kernel
theorem dX8_firstError_59 : decode cX8_firstError 59 = .ok (.if_icmp .le 5, 3) := by decide +kernel
theorem dX8_firstError_62 : decode cX8_firstError 62 = .ok (.iload_n 3, 1) := by decide +kernel
theorem dX8_firstError_63 : decode cX8_firstError 63 = .ok (.ireturn, 1) := by decide +kernel
theorem dX8_firstError_64 : decode cX8_firstError 64 = .ok (.bipush 10, 2) := by decide +kernel
theorem dX8_firstError_66 : decode cX8_firstError 66 = .ok (.iload_n 2, 1) := by decide +kernel
theorem dX8_firstError_67 : decode cX8_firstError 67 = .ok (.imul, 1) := by decide +kernel
theorem dX8_firstError_68 : decode cX8_firstError 68 = .ok (.iload 4, 2) := by decide +kernel
theorem dX8_firstError_70 : decode cX8_firstError 70 = .ok (.iadd, 1) := by decide +kernel
theorem dX8_firstError_71 : decode cX8_firstError 71 = .ok (.bipush 48, 2) := by decide +kernel
theorem dX8_firstError_73 : decode cX8_firstError 73 = .ok (.isub, 1) := by decide +kernel
theorem dX8_firstError_74 : decode cX8_firstError 74 = .ok (.istore_n 2, 1) := by decide +kernel
theorem dX8_firstError_75 : decode cX8_firstError 75 = .ok (.goto 99, 3) := by decide +kernel
theorem dX8_firstError_78 : decode cX8_firstError 78 = .ok (.iload_n 1, 1) := by decide +kernel
theorem dX8_firstError_79 : decode cX8_firstError 79 = .ok (.ifCond .eq 69, 3) := by decide +kernel
theorem dX8_firstError_82 : decode cX8_firstError 82 = .ok (.iload 4, 2) := by decide +kernel
theorem dX8_firstError_84 : decode cX8_firstError 84 = .ok (.invokestatic 82, 3) := by decide +kernel
theorem dX8_firstError_87 : decode cX8_firstError 87 = .ok (.ifCond .eq 11, 3) := by decide +kernel
theorem dX8_firstError_90 : decode cX8_firstError 90 = .ok (.iload 4, 2) := by decide +kernel
theorem dX8_firstError_92 : decode cX8_firstError 92 = .ok (.bipush 48, 2) := by decide +kernel
theorem dX8_firstError_94 : decode cX8_firstError 94 = .ok (.isub, 1) := by decide +kernel
theorem dX8_firstError_95 : decode cX8_firstError 95 = .ok (.goto 4, 3) := by decide +kernel
theorem dX8_firstError_98 : decode cX8_firstError 98 = .ok (.iconst (-1), 1) := by decide +kernel
theorem dX8_firstError_99 : decode cX8_firstError 99 = .ok (.istore_n 2, 1) := by decide +kernel
theorem dX8_firstError_100 : decode cX8_firstError 100 = .ok (.iload 4, 2) := by decide +kernel
theorem dX8_firstError_102 : decode cX8_firstError 102 = .ok (.invokestatic 82, 3) := by decide +kernel
theorem dX8_firstError_105 : decode cX8_firstError 105 = .ok (.ifCond .ne 15, 3) := by decide +kernel
theorem dX8_firstError_108 : decode cX8_firstError 108 = .ok (.iload 4, 2) := by decide +kernel
theorem dX8_firstError_110 : decode cX8_firstError 110 = .ok (.invokestatic 86, 3) := by decide +kernel
theorem dX8_firstError_113 : decode cX8_firstError 113 = .ok (.ifCond .ne 7, 3) := by decide +kernel
theorem dX8_firstError_116 : decode cX8_firstError 116 = .ok (.iconst 1, 1) := by decide +kernel
theorem dX8_firstError_117 : decode cX8_firstError 117 = .ok (.goto 4, 3) := by decide +kernel
theorem dX8_firstError_120 : decode cX8_firstError 120 = .ok (.iconst 0, 1) := by decide +kernel
theorem dX8_firstError_121 : decode cX8_firstError 121 = .ok (.istore_n 1, 1) := by decide +kernel
theorem dX8_firstError_122 : decode cX8_firstError 122 = .ok (.iload_n 1, 1) := by decide +kernel
theorem dX8_firstError_123 : decode cX8_firstError 123 = .ok (.ifCond .eq 14, 3) := by decide +kernel
theorem dX8_firstError_126 : decode cX8_firstError 126 = .ok (.aload_n 0, 1) := by decide +kernel
theorem dX8_firstError_127 : decode cX8_firstError 127 = .ok (.iload 4, 2) := by decide +kernel
theorem dX8_firstError_129 : decode cX8_firstError 129 = .ok (.invokevirtual 89, 3) := by decide +kernel
theorem dX8_firstError_132 : decode cX8_firstError 132 = .ok (.ifCond .ne 5, 3) := by decide +kernel
theorem dX8_firstError_135 : decode cX8_firstError 135 = .ok (.iload_n 3, 1) := by decide +kernel
theorem dX8_firstError_136 : decode cX8_firstError 136 = .ok (.ireturn, 1) := by decide +kernel
theorem dX8_firstError_137 : decode cX8_firstError 137 = .ok (.iload_n 1, 1) := by decide +kernel
theorem dX8_firstError_138 : decode cX8_firstError 138 = .ok (.ifCond .ne 36, 3) := by decide +kernel
theorem dX8_firstError_141 : decode cX8_firstError 141 = .ok (.aload_n 0, 1) := by decide +kernel
theorem dX8_firstError_142 : decode cX8_firstError 142 = .ok (.invokevirtual 79, 3) := by decide +kernel
theorem dX8_firstError_145 : decode cX8_firstError 145 = .ok (.goto 29, 3) := by decide +kernel
theorem dX8_firstError_148 : decode cX8_firstError 148 = .ok (.iconst (-1), 1) := by decide +kernel
theorem dX8_firstError_149 : decode cX8_firstError 149 = .ok (.istore_n 2, 1) := by decide +kernel
theorem dX8_firstError_150 : decode cX8_firstError 150 = .ok (.aload_n 0, 1) := by decide +kernel
theorem dX8_firstError_151 : decode cX8_firstError 151 = .ok (.iload 4, 2) := by decide +kernel
theorem dX8_firstError_153 : decode cX8_firstError 153 = .ok (.invokevirtual 92, 3) := by decide +kernel
theorem dX8_firstError_156 : decode cX8_firstError 156 = .ok (.ifCond .ne 5, 3) := by decide +kernel
theorem dX8_firstError_159 : decode cX8_firstError 159 = .ok (.iload_n 3, 1) := by decide +kernel
theorem dX8_firstError_160 : decode cX8_firstError 160 = .ok (.ireturn, 1) := by decide +kernel
theorem dX8_firstError_161 : decode cX8_firstError 161 = .ok (.iload 4, 2) := by decide +kernel
theorem dX8_firstError_163 : decode cX8_firstError 163 = .ok (.bipush 41, 2) := by decide +kernel
theorem dX8_firstError_165 : decode cX8_firstError 165 = .ok (.if_icmp .eq 7, 3) := by decide +kernel
theorem dX8_firstError_168 : decode cX8_firstError 168 = .ok (.iconst 1, 1) := by decide +kernel
theorem dX8_firstError_169 : decode cX8_firstError 169 = .ok (.goto 4, 3) := by decide +kernel
theorem dX8_firstError_172 : decode cX8_firstError 172 = .ok (.iconst 0, 1) := by decide +kernel
theorem dX8_firstError_173 : decode cX8_firstError 173 = .ok (.istore_n 1, 1) := by decide +kernel
theorem dX8_firstError_174 : decode cX8_firstError 174 = .ok (.iinc 3 1, 3) := by decide +kernel
theorem dX8_firstError_177 : decode cX8_firstError 177 = .ok (.goto (-154), 3) := by decide +kernel
theorem dX8_firstError_180 : decode cX8_firstError 180 = .ok (.iload_n 1, 1) := by decide +kernel
theorem dX8_firstError_181 : decode cX8_firstError 181 = .ok (.ifCond .ne 10, 3) := by decide +kernel
theorem dX8_firstError_184 : decode cX8_firstError 184 = .ok (.aload_n 0, 1) := by decide +kernel
theorem dX8_firstError_185 : decode cX8_firstError 185 = .ok (.getfield 76, 3) := by decide +kernel
theorem dX8_firstError_188 : decode cX8_firstError 188 = .ok (.ifCond .le 10, 3) := by decide +kernel
theorem dX8_firstError_191 : decode cX8_firstError 191 = .ok (.aload_n 0, 1) := by decide +kernel
theorem dX8_firstError_192 : decode cX8_firstError 192 = .ok (.getfield 62, 3) := by decide +kernel
theorem dX8_firstError_195 : decode cX8_firstError 195 = .ok (.goto 4, 3) := by decide +kernel
theorem dX8_firstError_198 : decode cX8_firstError 198 = .ok (.iconst (-1), 1) := by decide +kernel
theorem dX8_firstError_199 : decode cX8_firstError 199 = .ok (.ireturn, 1) := by decide +kernel
theorem dX8_type_0 : decode cX8_type 0 = .ok (.aload_n 0, 1) := by decide +kernel
theorem dX8_type_1 : decode cX8_type 1 = .ok (.aload_n 0, 1) := by decide +kernel
theorem dX8_type_2 : decode cX8_type 2 = .ok (.getfield 62, 3) := by decide +kernel
theorem dX8_type_5 : decode cX8_type 5 = .ok (.bipush 40, 2) := by decide +kernel
theorem dX8_type_7 : decode cX8_type 7 = .ok (.if_icmp .ne 7, 3) := by decide +kernel
theorem dX8_type_10 : decode cX8_type 10 = .ok (.iconst 1, 1) := by decide +kernel
theorem dX8_type_11 : decode cX8_type 11 = .ok (.goto 4, 3) := by decide +kernel
theorem dX8_type_14 : decode cX8_type 14 = .ok (.iconst 0, 1) := by decide +kernel
theorem dX8_type_15 : decode cX8_type 15 = .ok (.putfield 66, 3) := by decide +kernel
theorem dX8_type_18 : decode cX8_type 18 = .ok (.aload_n 0, 1) := by decide +kernel
theorem dX8_type_19 : decode cX8_type 19 = .ok (.getfield 66, 3) := by decide +kernel
theorem dX8_type_22 : decode cX8_type 22 = .ok (.ifCond .le 5, 3) := by decide +kernel
theorem dX8_type_25 : decode cX8_type 25 = .ok (.iconst 0, 1) := by decide +kernel
theorem dX8_type_26 : decode cX8_type 26 = .ok (.ireturn, 1) := by decide +kernel
theorem dX8_type_27 : decode cX8_type 27 = .ok (.aload_n 0, 1) := by decide +kernel
theorem dX8_type_28 : decode cX8_type 28 = .ok (.getfield 7, 3) := by decide +kernel
theorem dX8_type_31 : decode cX8_type 31 = .ok (.aload_n 0, 1) := by decide +kernel
theorem dX8_type_32 : decode cX8_type 32 = .ok (.getfield 62, 3) := by decide +kernel
theorem dX8_type_35 : decode cX8_type 35 = .ok (.iload_n 1, 1) := by decide +kernel
theorem dX8_type_36 : decode cX8_type 36 = .ok (.iastore, 1) := by decide +kernel
theorem dX8_type_37 : decode cX8_type 37 = .ok (.aload_n 0, 1) := by decide +kernel
theorem dX8_type_38 : decode cX8_type 38 = .ok (.dup, 1) := by decide +kernel
theorem dX8_type_39 : decode cX8_type 39 = .ok (.getfield 62, 3) := by decide +kernel
theorem dX8_type_42 : decode cX8_type 42 = .ok (.iconst 1, 1) := by decide +kernel
theorem dX8_type_43 : decode cX8_type 43 = .ok (.iadd, 1) := by decide +kernel
theorem dX8_type_44 : decode cX8_type 44 = .ok (.putfield 62, 3) := by decide +kernel
theorem dX8_type_47 : decode cX8_type 47 = .ok (.aload_n 0, 1) := by decide +kernel
theorem dX8_type_48 : decode cX8_type 48 = .ok (.getfield 62, 3) := by decide +kernel
theorem dX8_type_51 : decode cX8_type 51 = .ok (.ireturn, 1) := by decide +kernel
theorem dX8_clear_0 : decode cX8_clear 0 = .ok (.aload_n 0, 1) := by decide +kernel
theorem dX8_clear_1 : decode cX8_clear 1 = .ok (.iconst 0, 1) := by decide +kernel
theorem dX8_clear_2 : decode cX8_clear 2 = .ok (.putfield 66, 3) := by decide +kernel
theorem dX8_clear_5 : decode cX8_clear 5 = .ok (.aload_n 0, 1) := by decide +kernel
theorem dX8_clear_6 : decode cX8_clear 6 = .ok (.getfield 62, 3) := by decide +kernel
theorem dX8_clear_9 : decode cX8_clear 9 = .ok (.istore_n 1, 1) := by decide +kernel
theorem dX8_clear_10 : decode cX8_clear 10 = .ok (.aload_n 0, 1) := by decide +kernel
theorem dX8_clear_11 : decode cX8_clear 11 = .ok (.iconst 0, 1) := by decide +kernel
theorem dX8_clear_12 : decode cX8_clear 12 = .ok (.putfield 62, 3) := by decide +kernel
theorem dX8_clear_15 : decode cX8_clear 15 = .ok (.iload_n 1, 1) := by decide +kernel
theorem dX8_clear_16 : decode cX8_clear 16 = .ok (.ireturn, 1) := by decide +kernel
theorem dX8_error_0 : decode cX8_error 0 = .ok (.aload_n 0, 1) := by decide +kernel
theorem dX8_error_1 : decode cX8_error 1 = .ok (.iconst 0, 1) := by decide +kernel
theorem dX8_error_2 : decode cX8_error 2 = .ok (.putfield 66, 3) := by decide +kernel
theorem dX8_error_5 : decode cX8_error 5 = .ok (.aload_n 0, 1) := by decide +kernel
theorem dX8_error_6 : decode cX8_error 6 = .ok (.invokevirtual 95, 3) := by decide +kernel
theorem dX8_error_9 : decode cX8_error 9 = .ok (.ireturn, 1) := by decide +kernel
theorem dX8_rank_0 : decode cX8_rank 0 = .ok (.iload_n 0, 1) := by decide +kernel
theorem dX8_rank_1 : decode cX8_rank 1 = .ok (.bipush 42, 2) := by decide +kernel
theorem dX8_rank_3 : decode cX8_rank 3 = .ok (.if_icmp .ne 7, 3) := by decide +kernel
theorem dX8_rank_6 : decode cX8_rank 6 = .ok (.iconst 5, 1) := by decide +kernel
theorem dX8_rank_7 : decode cX8_rank 7 = .ok (.goto 62, 3) := by decide +kernel
theorem dX8_rank_10 : decode cX8_rank 10 = .ok (.iload_n 0, 1) := by decide +kernel
theorem dX8_rank_11 : decode cX8_rank 11 = .ok (.bipush 43, 2) := by decide +kernel
theorem dX8_rank_13 : decode cX8_rank 13 = .ok (.if_icmp .eq 9, 3) := by decide +kernel
theorem dX8_rank_16 : decode cX8_rank 16 = .ok (.iload_n 0, 1) := by decide +kernel
theorem dX8_rank_17 : decode cX8_rank 17 = .ok (.bipush 45, 2) := by decide +kernel
theorem dX8_rank_19 : decode cX8_rank 19 = .ok (.if_icmp .ne 7, 3) := by decide +kernel
theorem dX8_rank_22 : decode cX8_rank 22 = .ok (.iconst 4, 1) := by decide +kernel
theorem dX8_rank_23 : decode cX8_rank 23 = .ok (.goto 46, 3) := by decide +kernel
theorem dX8_rank_26 : decode cX8_rank 26 = .ok (.iload_n 0, 1) := by decide +kernel
theorem dX8_rank_27 : decode cX8_rank 27 = .ok (.bipush 60, 2) := by decide +kernel
theorem dX8_rank_29 : decode cX8_rank 29 = .ok (.if_icmp .eq 15, 3) := by decide +kernel
theorem dX8_rank_32 : decode cX8_rank 32 = .ok (.iload_n 0, 1) := by decide +kernel
theorem dX8_rank_33 : decode cX8_rank 33 = .ok (.bipush 61, 2) := by decide +kernel
theorem dX8_rank_35 : decode cX8_rank 35 = .ok (.if_icmp .eq 9, 3) := by decide +kernel
theorem dX8_rank_38 : decode cX8_rank 38 = .ok (.iload_n 0, 1) := by decide +kernel
theorem dX8_rank_39 : decode cX8_rank 39 = .ok (.bipush 62, 2) := by decide +kernel
theorem dX8_rank_41 : decode cX8_rank 41 = .ok (.if_icmp .ne 7, 3) := by decide +kernel
theorem dX8_rank_44 : decode cX8_rank 44 = .ok (.iconst 3, 1) := by decide +kernel
theorem dX8_rank_45 : decode cX8_rank 45 = .ok (.goto 24, 3) := by decide +kernel
theorem dX8_rank_48 : decode cX8_rank 48 = .ok (.iload_n 0, 1) := by decide +kernel
theorem dX8_rank_49 : decode cX8_rank 49 = .ok (.bipush 38, 2) := by decide +kernel
theorem dX8_rank_51 : decode cX8_rank 51 = .ok (.if_icmp .ne 7, 3) := by decide +kernel
theorem dX8_rank_54 : decode cX8_rank 54 = .ok (.iconst 2, 1) := by decide +kernel
theorem dX8_rank_55 : decode cX8_rank 55 = .ok (.goto 14, 3) := by decide +kernel
theorem dX8_rank_58 : decode cX8_rank 58 = .ok (.iload_n 0, 1) := by decide +kernel
theorem dX8_rank_59 : decode cX8_rank 59 = .ok (.bipush 124, 2) := by decide +kernel
theorem dX8_rank_61 : decode cX8_rank 61 = .ok (.if_icmp .ne 7, 3) := by decide +kernel
theorem dX8_rank_64 : decode cX8_rank 64 = .ok (.iconst 1, 1) := by decide +kernel
theorem dX8_rank_65 : decode cX8_rank 65 = .ok (.goto 4, 3) := by decide +kernel
theorem dX8_rank_68 : decode cX8_rank 68 = .ok (.iconst 0, 1) := by decide +kernel
theorem dX8_rank_69 : decode cX8_rank 69 = .ok (.ireturn, 1) := by decide +kernel
theorem dX8_lay_0 : decode cX8_lay 0 = .ok (.aload_n 0, 1) := by decide +kernel
theorem dX8_lay_1 : decode cX8_lay 1 = .ok (.getfield 44, 3) := by decide +kernel
theorem dX8_lay_4 : decode cX8_lay 4 = .ok (.aload_n 0, 1) := by decide +kernel
theorem dX8_lay_5 : decode cX8_lay 5 = .ok (.getfield 99, 3) := by decide +kernel
theorem dX8_lay_8 : decode cX8_lay 8 = .ok (.iload_n 1, 1) := by decide +kernel
theorem dX8_lay_9 : decode cX8_lay 9 = .ok (.iastore, 1) := by decide +kernel
theorem dX8_lay_10 : decode cX8_lay 10 = .ok (.aload_n 0, 1) := by decide +kernel
theorem dX8_lay_11 : decode cX8_lay 11 = .ok (.dup, 1) := by decide +kernel
theorem dX8_lay_12 : decode cX8_lay 12 = .ok (.getfield 99, 3) := by decide +kernel
theorem dX8_lay_15 : decode cX8_lay 15 = .ok (.iconst 1, 1) := by decide +kernel
theorem dX8_lay_16 : decode cX8_lay 16 = .ok (.iadd, 1) := by decide +kernel
theorem dX8_lay_17 : decode cX8_lay 17 = .ok (.putfield 99, 3) := by decide +kernel
theorem dX8_lay_20 : decode cX8_lay 20 = .ok (.return_, 1) := by decide +kernel
theorem dX8_layBangs_0 : decode cX8_layBangs 0 = .ok (.aload_n 0, 1) := by decide +kernel
theorem dX8_layBangs_1 : decode cX8_layBangs 1 = .ok (.getfield 102, 3) := by decide +kernel
theorem dX8_layBangs_4 : decode cX8_layBangs 4 = .ok (.ifCond .le 39, 3) := by decide +kernel
theorem dX8_layBangs_7 : decode cX8_layBangs 7 = .ok (.aload_n 0, 1) := by decide +kernel
theorem dX8_layBangs_8 : decode cX8_layBangs 8 = .ok (.getfield 47, 3) := by decide +kernel
theorem dX8_layBangs_11 : decode cX8_layBangs 11 = .ok (.aload_n 0, 1) := by decide +kernel
theorem dX8_layBangs_12 : decode cX8_layBangs 12 = .ok (.getfield 102, 3) := by decide +kernel
theorem dX8_layBangs_15 : decode cX8_layBangs 15 = .ok (.iconst 1, 1) := by decide +kernel
theorem dX8_layBangs_16 : decode cX8_layBangs 16 = .ok (.isub, 1) := by decide +kernel
theorem dX8_layBangs_17 : decode cX8_layBangs 17 = .ok (.iaload, 1) := by decide +kernel
theorem dX8_layBangs_18 : decode cX8_layBangs 18 = .ok (.bipush 33, 2) := by decide +kernel
theorem dX8_layBangs_20 : decode cX8_layBangs 20 = .ok (.if_icmp .ne 23, 3) := by decide +kernel
theorem dX8_layBangs_23 : decode cX8_layBangs 23 = .ok (.aload_n 0, 1) := by decide +kernel
theorem dX8_layBangs_24 : decode cX8_layBangs 24 = .ok (.dup, 1) := by decide +kernel
theorem dX8_layBangs_25 : decode cX8_layBangs 25 = .ok (.getfield 102, 3) := by decide +kernel
theorem dX8_layBangs_28 : decode cX8_layBangs 28 = .ok (.iconst 1, 1) := by decide +kernel
theorem dX8_layBangs_29 : decode cX8_layBangs 29 = .ok (.isub, 1) := by decide +kernel
theorem dX8_layBangs_30 : decode cX8_layBangs 30 = .ok (.putfield 102, 3) := by decide +kernel
theorem dX8_layBangs_33 : decode cX8_layBangs 33 = .ok (.aload_n 0, 1) := by decide +kernel
theorem dX8_layBangs_34 : decode cX8_layBangs 34 = .ok (.sipush 2033, 3) := by decide +kernel
theorem dX8_layBangs_37 : decode cX8_layBangs 37 = .ok (.invokevirtual 105, 3) := by decide +kernel
theorem dX8_layBangs_40 : decode cX8_layBangs 40 = .ok (.goto (-40), 3) := by decide +kernel
theorem dX8_layBangs_43 : decode cX8_layBangs 43 = .ok (.return_, 1) := by decide +kernel
theorem dX8_laySigns_0 : decode cX8_laySigns 0 = .ok (.aload_n 0, 1) := by decide +kernel
theorem dX8_laySigns_1 : decode cX8_laySigns 1 = .ok (.getfield 102, 3) := by decide +kernel
theorem dX8_laySigns_4 : decode cX8_laySigns 4 = .ok (.ifCond .le 67, 3) := by decide +kernel
theorem dX8_laySigns_7 : decode cX8_laySigns 7 = .ok (.aload_n 0, 1) := by decide +kernel
theorem dX8_laySigns_8 : decode cX8_laySigns 8 = .ok (.getfield 47, 3) := by decide +kernel
theorem dX8_laySigns_11 : decode cX8_laySigns 11 = .ok (.aload_n 0, 1) := by decide +kernel
theorem dX8_laySigns_12 : decode cX8_laySigns 12 = .ok (.getfield 102, 3) := by decide +kernel
theorem dX8_laySigns_15 : decode cX8_laySigns 15 = .ok (.iconst 1, 1) := by decide +kernel
theorem dX8_laySigns_16 : decode cX8_laySigns 16 = .ok (.isub, 1) := by decide +kernel
theorem dX8_laySigns_17 : decode cX8_laySigns 17 = .ok (.iaload, 1) := by decide +kernel
theorem dX8_laySigns_18 : decode cX8_laySigns 18 = .ok (.bipush 40, 2) := by decide +kernel
theorem dX8_laySigns_20 : decode cX8_laySigns 20 = .ok (.if_icmp .eq 51, 3) := by decide +kernel
theorem dX8_laySigns_23 : decode cX8_laySigns 23 = .ok (.aload_n 0, 1) := by decide +kernel
theorem dX8_laySigns_24 : decode cX8_laySigns 24 = .ok (.getfield 47, 3) := by decide +kernel
theorem dX8_laySigns_27 : decode cX8_laySigns 27 = .ok (.aload_n 0, 1) := by decide +kernel
theorem dX8_laySigns_28 : decode cX8_laySigns 28 = .ok (.getfield 102, 3) := by decide +kernel
theorem dX8_laySigns_31 : decode cX8_laySigns 31 = .ok (.iconst 1, 1) := by decide +kernel
theorem dX8_laySigns_32 : decode cX8_laySigns 32 = .ok (.isub, 1) := by decide +kernel
theorem dX8_laySigns_33 : decode cX8_laySigns 33 = .ok (.iaload, 1) := by decide +kernel
theorem dX8_laySigns_34 : decode cX8_laySigns 34 = .ok (.invokestatic 109, 3) := by decide +kernel
theorem dX8_laySigns_37 : decode cX8_laySigns 37 = .ok (.iload_n 1, 1) := by decide +kernel
theorem dX8_laySigns_38 : decode cX8_laySigns 38 = .ok (.if_icmp .lt 33, 3) := by decide +kernel
theorem dX8_laySigns_41 : decode cX8_laySigns 41 = .ok (.aload_n 0, 1) := by decide +kernel
theorem dX8_laySigns_42 : decode cX8_laySigns 42 = .ok (.dup, 1) := by decide +kernel
theorem dX8_laySigns_43 : decode cX8_laySigns 43 = .ok (.getfield 102, 3) := by decide +kernel
theorem dX8_laySigns_46 : decode cX8_laySigns 46 = .ok (.iconst 1, 1) := by decide +kernel
theorem dX8_laySigns_47 : decode cX8_laySigns 47 = .ok (.isub, 1) := by decide +kernel
theorem dX8_laySigns_48 : decode cX8_laySigns 48 = .ok (.putfield 102, 3) := by decide +kernel
theorem dX8_laySigns_51 : decode cX8_laySigns 51 = .ok (.aload_n 0, 1) := by decide +kernel
theorem dX8_laySigns_52 : decode cX8_laySigns 52 = .ok (.sipush 2000, 3) := by decide +kernel
theorem dX8_laySigns_55 : decode cX8_laySigns 55 = .ok (.aload_n 0, 1) := by decide +kernel
theorem dX8_laySigns_56 : decode cX8_laySigns 56 = .ok (.getfield 47, 3) := by decide +kernel
theorem dX8_laySigns_59 : decode cX8_laySigns 59 = .ok (.aload_n 0, 1) := by decide +kernel
theorem dX8_laySigns_60 : decode cX8_laySigns 60 = .ok (.getfield 102, 3) := by decide +kernel
theorem dX8_laySigns_63 : decode cX8_laySigns 63 = .ok (.iaload, 1) := by decide +kernel
theorem dX8_laySigns_64 : decode cX8_laySigns 64 = .ok (.iadd, 1) := by decide +kernel
theorem dX8_laySigns_65 : decode cX8_laySigns 65 = .ok (.invokevirtual 105, 3) := by decide +kernel
theorem dX8_laySigns_68 : decode cX8_laySigns 68 = .ok (.goto (-68), 3) := by decide +kernel
theorem dX8_laySigns_71 : decode cX8_laySigns 71 = .ok (.return_, 1) := by decide +kernel
theorem dX8_layRow_0 : decode cX8_layRow 0 = .ok (.aload_n 0, 1) := by decide +kernel
theorem dX8_layRow_1 : decode cX8_layRow 1 = .ok (.iconst 0, 1) := by decide +kernel
theorem dX8_layRow_2 : decode cX8_layRow 2 = .ok (.putfield 99, 3) := by decide +kernel
theorem dX8_layRow_5 : decode cX8_layRow 5 = .ok (.aload_n 0, 1) := by decide +kernel
theorem dX8_layRow_6 : decode cX8_layRow 6 = .ok (.iconst 0, 1) := by decide +kernel
theorem dX8_layRow_7 : decode cX8_layRow 7 = .ok (.putfield 102, 3) := by decide +kernel
theorem dX8_layRow_10 : decode cX8_layRow 10 = .ok (.iconst 0, 1) := by decide +kernel
theorem dX8_layRow_11 : decode cX8_layRow 11 = .ok (.istore_n 1, 1) := by decide +kernel
theorem dX8_layRow_12 : decode cX8_layRow 12 = .ok (.iload_n 1, 1) := by decide +kernel
theorem dX8_layRow_13 : decode cX8_layRow 13 = .ok (.aload_n 0, 1) := by decide +kernel
theorem dX8_layRow_14 : decode cX8_layRow 14 = .ok (.getfield 62, 3) := by decide +kernel
theorem dX8_layRow_17 : decode cX8_layRow 17 = .ok (.if_icmp .ge 170, 3) := by decide +kernel
theorem dX8_layRow_20 : decode cX8_layRow 20 = .ok (.aload_n 0, 1) := by decide +kernel
theorem dX8_layRow_21 : decode cX8_layRow 21 = .ok (.getfield 7, 3) := by decide +kernel
theorem dX8_layRow_24 : decode cX8_layRow 24 = .ok (.iload_n 1, 1) := by decide +kernel
theorem dX8_layRow_25 : decode cX8_layRow 25 = .ok (.iaload, 1) := by decide +kernel
theorem dX8_layRow_26 : decode cX8_layRow 26 = .ok (.istore_n 2, 1) := by decide +kernel
theorem dX8_layRow_27 : decode cX8_layRow 27 = .ok (.iinc 1 1, 3) := by decide +kernel
theorem dX8_layRow_30 : decode cX8_layRow 30 = .ok (.iload_n 2, 1) := by decide +kernel
theorem dX8_layRow_31 : decode cX8_layRow 31 = .ok (.invokestatic 82, 3) := by decide +kernel
theorem dX8_layRow_34 : decode cX8_layRow 34 = .ok (.ifCond .eq 61, 3) := by decide +kernel
theorem dX8_layRow_37 : decode cX8_layRow 37 = .ok (.iload_n 2, 1) := by decide +kernel
theorem dX8_layRow_38 : decode cX8_layRow 38 = .ok (.bipush 48, 2) := by decide +kernel
theorem dX8_layRow_40 : decode cX8_layRow 40 = .ok (.isub, 1) := by decide +kernel
theorem dX8_layRow_41 : decode cX8_layRow 41 = .ok (.istore_n 3, 1) := by decide +kernel
theorem dX8_layRow_42 : decode cX8_layRow 42 = .ok (.iload_n 1, 1) := by decide +kernel
theorem dX8_layRow_43 : decode cX8_layRow 43 = .ok (.aload_n 0, 1) := by decide +kernel
theorem dX8_layRow_44 : decode cX8_layRow 44 = .ok (.getfield 62, 3) := by decide +kernel
theorem dX8_layRow_47 : decode cX8_layRow 47 = .ok (.if_icmp .ge 36, 3) := by decide +kernel
theorem dX8_layRow_50 : decode cX8_layRow 50 = .ok (.aload_n 0, 1) := by decide +kernel
theorem dX8_layRow_51 : decode cX8_layRow 51 = .ok (.getfield 7, 3) := by decide +kernel
theorem dX8_layRow_54 : decode cX8_layRow 54 = .ok (.iload_n 1, 1) := by decide +kernel
theorem dX8_layRow_55 : decode cX8_layRow 55 = .ok (.iaload, 1) := by decide +kernel
theorem dX8_layRow_56 : decode cX8_layRow 56 = .ok (.invokestatic 82, 3) := by decide +kernel
theorem dX8_layRow_59 : decode cX8_layRow 59 = .ok (.ifCond .eq 24, 3) := by decide +kernel
theorem dX8_layRow_62 : decode cX8_layRow 62 = .ok (.bipush 10, 2) := by decide +kernel
theorem dX8_layRow_64 : decode cX8_layRow 64 = .ok (.iload_n 3, 1) := by decide +kernel
theorem dX8_layRow_65 : decode cX8_layRow 65 = .ok (.imul, 1) := by decide +kernel
theorem dX8_layRow_66 : decode cX8_layRow 66 = .ok (.aload_n 0, 1) := by decide +kernel
theorem dX8_layRow_67 : decode cX8_layRow 67 = .ok (.getfield 7, 3) := by decide +kernel
theorem dX8_layRow_70 : decode cX8_layRow 70 = .ok (.iload_n 1, 1) := by decide +kernel
theorem dX8_layRow_71 : decode cX8_layRow 71 = .ok (.iaload, 1) := by decide +kernel
theorem dX8_layRow_72 : decode cX8_layRow 72 = .ok (.iadd, 1) := by decide +kernel
theorem dX8_layRow_73 : decode cX8_layRow 73 = .ok (.bipush 48, 2) := by decide +kernel
theorem dX8_layRow_75 : decode cX8_layRow 75 = .ok (.isub, 1) := by decide +kernel
theorem dX8_layRow_76 : decode cX8_layRow 76 = .ok (.istore_n 3, 1) := by decide +kernel
theorem dX8_layRow_77 : decode cX8_layRow 77 = .ok (.iinc 1 1, 3) := by decide +kernel
theorem dX8_layRow_80 : decode cX8_layRow 80 = .ok (.goto (-38), 3) := by decide +kernel
theorem dX8_layRow_83 : decode cX8_layRow 83 = .ok (.aload_n 0, 1) := by decide +kernel
theorem dX8_layRow_84 : decode cX8_layRow 84 = .ok (.iload_n 3, 1) := by decide +kernel
theorem dX8_layRow_85 : decode cX8_layRow 85 = .ok (.invokevirtual 105, 3) := by decide +kernel
theorem dX8_layRow_88 : decode cX8_layRow 88 = .ok (.aload_n 0, 1) := by decide +kernel
theorem dX8_layRow_89 : decode cX8_layRow 89 = .ok (.invokevirtual 113, 3) := by decide +kernel
theorem dX8_layRow_92 : decode cX8_layRow 92 = .ok (.goto 92, 3) := by decide +kernel
theorem dX8_layRow_95 : decode cX8_layRow 95 = .ok (.iload_n 2, 1) := by decide +kernel
theorem dX8_layRow_96 : decode cX8_layRow 96 = .ok (.invokestatic 86, 3) := by decide +kernel
theorem dX8_layRow_99 : decode cX8_layRow 99 = .ok (.ifCond .eq 22, 3) := by decide +kernel
theorem dX8_layRow_102 : decode cX8_layRow 102 = .ok (.aload_n 0, 1) := by decide +kernel
theorem dX8_layRow_103 : decode cX8_layRow 103 = .ok (.sipush 1000, 3) := by decide +kernel
theorem dX8_layRow_106 : decode cX8_layRow 106 = .ok (.iload_n 2, 1) := by decide +kernel
theorem dX8_layRow_107 : decode cX8_layRow 107 = .ok (.iadd, 1) := by decide +kernel
theorem dX8_layRow_108 : decode cX8_layRow 108 = .ok (.bipush 97, 2) := by decide +kernel
theorem dX8_layRow_110 : decode cX8_layRow 110 = .ok (.isub, 1) := by decide +kernel
theorem dX8_layRow_111 : decode cX8_layRow 111 = .ok (.invokevirtual 105, 3) := by decide +kernel
theorem dX8_layRow_114 : decode cX8_layRow 114 = .ok (.aload_n 0, 1) := by decide +kernel
theorem dX8_layRow_115 : decode cX8_layRow 115 = .ok (.invokevirtual 113, 3) := by decide +kernel
theorem dX8_layRow_118 : decode cX8_layRow 118 = .ok (.goto 66, 3) := by decide +kernel
theorem dX8_layRow_121 : decode cX8_layRow 121 = .ok (.iload_n 2, 1) := by decide +kernel
theorem dX8_layRow_122 : decode cX8_layRow 122 = .ok (.bipush 41, 2) := by decide +kernel
theorem dX8_layRow_124 : decode cX8_layRow 124 = .ok (.if_icmp .ne 25, 3) := by decide +kernel
theorem dX8_layRow_127 : decode cX8_layRow 127 = .ok (.aload_n 0, 1) := by decide +kernel
theorem dX8_layRow_128 : decode cX8_layRow 128 = .ok (.iconst 0, 1) := by decide +kernel
theorem dX8_layRow_129 : decode cX8_layRow 129 = .ok (.invokevirtual 116, 3) := by decide +kernel
theorem dX8_layRow_132 : decode cX8_layRow 132 = .ok (.aload_n 0, 1) := by decide +kernel
theorem dX8_layRow_133 : decode cX8_layRow 133 = .ok (.dup, 1) := by decide +kernel
theorem dX8_layRow_134 : decode cX8_layRow 134 = .ok (.getfield 102, 3) := by decide +kernel
theorem dX8_layRow_137 : decode cX8_layRow 137 = .ok (.iconst 1, 1) := by decide +kernel
theorem dX8_layRow_138 : decode cX8_layRow 138 = .ok (.isub, 1) := by decide +kernel
theorem dX8_layRow_139 : decode cX8_layRow 139 = .ok (.putfield 102, 3) := by decide +kernel
theorem dX8_layRow_142 : decode cX8_layRow 142 = .ok (.aload_n 0, 1) := by decide +kernel
theorem dX8_layRow_143 : decode cX8_layRow 143 = .ok (.invokevirtual 113, 3) := by decide +kernel
theorem dX8_layRow_146 : decode cX8_layRow 146 = .ok (.goto 38, 3) := by decide +kernel
theorem dX8_layRow_149 : decode cX8_layRow 149 = .ok (.iload_n 2, 1) := by decide +kernel
theorem dX8_layRow_150 : decode cX8_layRow 150 = .ok (.invokestatic 109, 3) := by decide +kernel
theorem dX8_layRow_153 : decode cX8_layRow 153 = .ok (.ifCond .le 11, 3) := by decide +kernel
theorem dX8_layRow_156 : decode cX8_layRow 156 = .ok (.aload_n 0, 1) := by decide +kernel
theorem dX8_layRow_157 : decode cX8_layRow 157 = .ok (.iload_n 2, 1) := by decide +kernel
theorem dX8_layRow_158 : decode cX8_layRow 158 = .ok (.invokestatic 109, 3) := by decide +kernel
theorem dX8_layRow_161 : decode cX8_layRow 161 = .ok (.invokevirtual 116, 3) := by decide +kernel
theorem dX8_layRow_164 : decode cX8_layRow 164 = .ok (.aload_n 0, 1) := by decide +kernel
theorem dX8_layRow_165 : decode cX8_layRow 165 = .ok (.getfield 47, 3) := by decide +kernel
theorem dX8_layRow_168 : decode cX8_layRow 168 = .ok (.aload_n 0, 1) := by decide +kernel
theorem dX8_layRow_169 : decode cX8_layRow 169 = .ok (.getfield 102, 3) := by decide +kernel
theorem dX8_layRow_172 : decode cX8_layRow 172 = .ok (.iload_n 2, 1) := by decide +kernel
theorem dX8_layRow_173 : decode cX8_layRow 173 = .ok (.iastore, 1) := by decide +kernel
theorem dX8_layRow_174 : decode cX8_layRow 174 = .ok (.aload_n 0, 1) := by decide +kernel
theorem dX8_layRow_175 : decode cX8_layRow 175 = .ok (.dup, 1) := by decide +kernel
theorem dX8_layRow_176 : decode cX8_layRow 176 = .ok (.getfield 102, 3) := by decide +kernel
theorem dX8_layRow_179 : decode cX8_layRow 179 = .ok (.iconst 1, 1) := by decide +kernel
theorem dX8_layRow_180 : decode cX8_layRow 180 = .ok (.iadd, 1) := by decide +kernel
theorem dX8_layRow_181 : decode cX8_layRow 181 = .ok (.putfield 102, 3) := by decide +kernel
theorem dX8_layRow_184 : decode cX8_layRow 184 = .ok (.goto (-172), 3) := by decide +kernel
theorem dX8_layRow_187 : decode cX8_layRow 187 = .ok (.aload_n 0, 1) := by decide +kernel
theorem dX8_layRow_188 : decode cX8_layRow 188 = .ok (.iconst 0, 1) := by decide +kernel
theorem dX8_layRow_189 : decode cX8_layRow 189 = .ok (.invokevirtual 116, 3) := by decide +kernel
theorem dX8_layRow_192 : decode cX8_layRow 192 = .ok (.return_, 1) := by decide +kernel
theorem dX8_typeFor_0 : decode cX8_typeFor 0 = .ok (.iload_n 0, 1) := by decide +kernel
theorem dX8_typeFor_1 : decode cX8_typeFor 1 = .ok (.bipush 61, 2) := by decide +kernel
theorem dX8_typeFor_3 : decode cX8_typeFor 3 = .ok (.if_icmp .ne 49, 3) := by decide +kernel
theorem dX8_typeFor_6 : decode cX8_typeFor 6 = .ok (.iload_n 1, 1) := by decide +kernel
theorem dX8_typeFor_7 : decode cX8_typeFor 7 = .ok (.iload_n 2, 1) := by decide +kernel
theorem dX8_typeFor_8 : decode cX8_typeFor 8 = .ok (.if_icmp .eq 23, 3) := by decide +kernel
theorem dX8_typeFor_11 : decode cX8_typeFor 11 = .ok (.iload_n 1, 1) := by decide +kernel
theorem dX8_typeFor_12 : decode cX8_typeFor 12 = .ok (.iconst 1, 1) := by decide +kernel
theorem dX8_typeFor_13 : decode cX8_typeFor 13 = .ok (.if_icmp .ne 8, 3) := by decide +kernel
theorem dX8_typeFor_16 : decode cX8_typeFor 16 = .ok (.iload_n 2, 1) := by decide +kernel
theorem dX8_typeFor_17 : decode cX8_typeFor 17 = .ok (.iconst 3, 1) := by decide +kernel
theorem dX8_typeFor_18 : decode cX8_typeFor 18 = .ok (.if_icmp .eq 13, 3) := by decide +kernel
theorem dX8_typeFor_21 : decode cX8_typeFor 21 = .ok (.iload_n 1, 1) := by decide +kernel
theorem dX8_typeFor_22 : decode cX8_typeFor 22 = .ok (.iconst 3, 1) := by decide +kernel
theorem dX8_typeFor_23 : decode cX8_typeFor 23 = .ok (.if_icmp .ne 12, 3) := by decide +kernel
theorem dX8_typeFor_26 : decode cX8_typeFor 26 = .ok (.iload_n 2, 1) := by decide +kernel
theorem dX8_typeFor_27 : decode cX8_typeFor 27 = .ok (.iconst 1, 1) := by decide +kernel
theorem dX8_typeFor_28 : decode cX8_typeFor 28 = .ok (.if_icmp .ne 7, 3) := by decide +kernel
theorem dX8_typeFor_31 : decode cX8_typeFor 31 = .ok (.iconst 1, 1) := by decide +kernel
theorem dX8_typeFor_32 : decode cX8_typeFor 32 = .ok (.goto 4, 3) := by decide +kernel
theorem dX8_typeFor_35 : decode cX8_typeFor 35 = .ok (.iconst 0, 1) := by decide +kernel
theorem dX8_typeFor_36 : decode cX8_typeFor 36 = .ok (.istore_n 3, 1) := by decide +kernel
theorem dX8_typeFor_37 : decode cX8_typeFor 37 = .ok (.iload_n 3, 1) := by decide +kernel
theorem dX8_typeFor_38 : decode cX8_typeFor 38 = .ok (.ifCond .eq 12, 3) := by decide +kernel
theorem dX8_typeFor_41 : decode cX8_typeFor 41 = .ok (.iload_n 1, 1) := by decide +kernel
theorem dX8_typeFor_42 : decode cX8_typeFor 42 = .ok (.iconst (-1), 1) := by decide +kernel
theorem dX8_typeFor_43 : decode cX8_typeFor 43 = .ok (.if_icmp .eq 7, 3) := by decide +kernel
theorem dX8_typeFor_46 : decode cX8_typeFor 46 = .ok (.iconst 2, 1) := by decide +kernel
theorem dX8_typeFor_47 : decode cX8_typeFor 47 = .ok (.goto 4, 3) := by decide +kernel
theorem dX8_typeFor_50 : decode cX8_typeFor 50 = .ok (.iconst (-1), 1) := by decide +kernel
theorem dX8_typeFor_51 : decode cX8_typeFor 51 = .ok (.ireturn, 1) := by decide +kernel
theorem dX8_typeFor_52 : decode cX8_typeFor 52 = .ok (.iload_n 0, 1) := by decide +kernel
theorem dX8_typeFor_53 : decode cX8_typeFor 53 = .ok (.bipush 38, 2) := by decide +kernel
theorem dX8_typeFor_55 : decode cX8_typeFor 55 = .ok (.if_icmp .eq 9, 3) := by decide +kernel
theorem dX8_typeFor_58 : decode cX8_typeFor 58 = .ok (.iload_n 0, 1) := by decide +kernel
theorem dX8_typeFor_59 : decode cX8_typeFor 59 = .ok (.bipush 124, 2) := by decide +kernel
theorem dX8_typeFor_61 : decode cX8_typeFor 61 = .ok (.if_icmp .ne 7, 3) := by decide +kernel
theorem dX8_typeFor_64 : decode cX8_typeFor 64 = .ok (.iconst 1, 1) := by decide +kernel
theorem dX8_typeFor_65 : decode cX8_typeFor 65 = .ok (.goto 4, 3) := by decide +kernel
theorem dX8_typeFor_68 : decode cX8_typeFor 68 = .ok (.iconst 0, 1) := by decide +kernel
theorem dX8_typeFor_69 : decode cX8_typeFor 69 = .ok (.istore_n 3, 1) := by decide +kernel
theorem dX8_typeFor_70 : decode cX8_typeFor 70 = .ok (.iload_n 3, 1) := by decide +kernel
theorem dX8_typeFor_71 : decode cX8_typeFor 71 = .ok (.ifCond .eq 7, 3) := by decide +kernel
theorem dX8_typeFor_74 : decode cX8_typeFor 74 = .ok (.iconst 2, 1) := by decide +kernel
theorem dX8_typeFor_75 : decode cX8_typeFor 75 = .ok (.goto 4, 3) := by decide +kernel
theorem dX8_typeFor_78 : decode cX8_typeFor 78 = .ok (.iconst 1, 1) := by decide +kernel
theorem dX8_typeFor_79 : decode cX8_typeFor 79 = .ok (.istore 4, 2) := by decide +kernel
theorem dX8_typeFor_81 : decode cX8_typeFor 81 = .ok (.iload_n 0, 1) := by decide +kernel
theorem dX8_typeFor_82 : decode cX8_typeFor 82 = .ok (.bipush 43, 2) := by decide +kernel
theorem dX8_typeFor_84 : decode cX8_typeFor 84 = .ok (.if_icmp .eq 15, 3) := by decide +kernel
theorem dX8_typeFor_87 : decode cX8_typeFor 87 = .ok (.iload_n 0, 1) := by decide +kernel
theorem dX8_typeFor_88 : decode cX8_typeFor 88 = .ok (.bipush 45, 2) := by decide +kernel
theorem dX8_typeFor_90 : decode cX8_typeFor 90 = .ok (.if_icmp .eq 9, 3) := by decide +kernel
theorem dX8_typeFor_93 : decode cX8_typeFor 93 = .ok (.iload_n 0, 1) := by decide +kernel
theorem dX8_typeFor_94 : decode cX8_typeFor 94 = .ok (.bipush 42, 2) := by decide +kernel
theorem dX8_typeFor_96 : decode cX8_typeFor 96 = .ok (.if_icmp .ne 7, 3) := by decide +kernel
theorem dX8_typeFor_99 : decode cX8_typeFor 99 = .ok (.iconst 1, 1) := by decide +kernel
theorem dX8_typeFor_100 : decode cX8_typeFor 100 = .ok (.goto 4, 3) := by decide +kernel
theorem dX8_typeFor_103 : decode cX8_typeFor 103 = .ok (.iconst 0, 1) := by decide +kernel
theorem dX8_typeFor_104 : decode cX8_typeFor 104 = .ok (.istore 5, 2) := by decide +kernel
theorem dX8_typeFor_106 : decode cX8_typeFor 106 = .ok (.iload_n 1, 1) := by decide +kernel
theorem dX8_typeFor_107 : decode cX8_typeFor 107 = .ok (.iload 4, 2) := by decide +kernel
theorem dX8_typeFor_109 : decode cX8_typeFor 109 = .ok (.if_icmp .ne 9, 3) := by decide +kernel
theorem dX8_typeFor_112 : decode cX8_typeFor 112 = .ok (.iload_n 2, 1) := by decide +kernel
theorem dX8_typeFor_113 : decode cX8_typeFor 113 = .ok (.iload 4, 2) := by decide +kernel
theorem dX8_typeFor_115 : decode cX8_typeFor 115 = .ok (.if_icmp .eq 7, 3) := by decide +kernel
theorem dX8_typeFor_118 : decode cX8_typeFor 118 = .ok (.iconst (-1), 1) := by decide +kernel
theorem dX8_typeFor_119 : decode cX8_typeFor 119 = .ok (.goto 13, 3) := by decide +kernel
theorem dX8_typeFor_122 : decode cX8_typeFor 122 = .ok (.iload 5, 2) := by decide +kernel
theorem dX8_typeFor_124 : decode cX8_typeFor 124 = .ok (.ifCond .eq 7, 3) := by decide +kernel
theorem dX8_typeFor_127 : decode cX8_typeFor 127 = .ok (.iconst 1, 1) := by decide +kernel
theorem dX8_typeFor_128 : decode cX8_typeFor 128 = .ok (.goto 4, 3) := by decide +kernel
theorem dX8_typeFor_131 : decode cX8_typeFor 131 = .ok (.iconst 2, 1) := by decide +kernel
theorem dX8_typeFor_132 : decode cX8_typeFor 132 = .ok (.ireturn, 1) := by decide +kernel
theorem dX8_typeOf_0 : decode cX8_typeOf 0 = .ok (.iconst 0, 1) := by decide +kernel
theorem dX8_typeOf_1 : decode cX8_typeOf 1 = .ok (.istore 4, 2) := by decide +kernel
theorem dX8_typeOf_3 : decode cX8_typeOf 3 = .ok (.iload_n 2, 1) := by decide +kernel
theorem dX8_typeOf_4 : decode cX8_typeOf 4 = .ok (.istore 5, 2) := by decide +kernel
theorem dX8_typeOf_6 : decode cX8_typeOf 6 = .ok (.iload 5, 2) := by decide +kernel
theorem dX8_typeOf_8 : decode cX8_typeOf 8 = .ok (.iload_n 2, 1) := by decide +kernel
theorem dX8_typeOf_9 : decode cX8_typeOf 9 = .ok (.iload_n 3, 1) := by decide +kernel
theorem dX8_typeOf_10 : decode cX8_typeOf 10 = .ok (.iadd, 1) := by decide +kernel
theorem dX8_typeOf_11 : decode cX8_typeOf 11 = .ok (.if_icmp .ge 162, 3) := by decide +kernel
theorem dX8_typeOf_14 : decode cX8_typeOf 14 = .ok (.aload_n 1, 1) := by decide +kernel
theorem dX8_typeOf_15 : decode cX8_typeOf 15 = .ok (.iload 5, 2) := by decide +kernel
theorem dX8_typeOf_17 : decode cX8_typeOf 17 = .ok (.iaload, 1) := by decide +kernel
theorem dX8_typeOf_18 : decode cX8_typeOf 18 = .ok (.istore 6, 2) := by decide +kernel
theorem dX8_typeOf_20 : decode cX8_typeOf 20 = .ok (.iload 6, 2) := by decide +kernel
theorem dX8_typeOf_22 : decode cX8_typeOf 22 = .ok (.sipush 1000, 3) := by decide +kernel
theorem dX8_typeOf_25 : decode cX8_typeOf 25 = .ok (.if_icmp .ge 17, 3) := by decide +kernel
theorem dX8_typeOf_28 : decode cX8_typeOf 28 = .ok (.aload_n 0, 1) := by decide +kernel
theorem dX8_typeOf_29 : decode cX8_typeOf 29 = .ok (.getfield 50, 3) := by decide +kernel
theorem dX8_typeOf_32 : decode cX8_typeOf 32 = .ok (.iload 4, 2) := by decide +kernel
theorem dX8_typeOf_34 : decode cX8_typeOf 34 = .ok (.iconst 1, 1) := by decide +kernel
theorem dX8_typeOf_35 : decode cX8_typeOf 35 = .ok (.iastore, 1) := by decide +kernel
theorem dX8_typeOf_36 : decode cX8_typeOf 36 = .ok (.iinc 4 1, 3) := by decide +kernel
theorem dX8_typeOf_39 : decode cX8_typeOf 39 = .ok (.goto 128, 3) := by decide +kernel
theorem dX8_typeOf_42 : decode cX8_typeOf 42 = .ok (.iload 6, 2) := by decide +kernel
theorem dX8_typeOf_44 : decode cX8_typeOf 44 = .ok (.sipush 2000, 3) := by decide +kernel
theorem dX8_typeOf_47 : decode cX8_typeOf 47 = .ok (.if_icmp .ge 45, 3) := by decide +kernel
theorem dX8_typeOf_50 : decode cX8_typeOf 50 = .ok (.aload_n 0, 1) := by decide +kernel
theorem dX8_typeOf_51 : decode cX8_typeOf 51 = .ok (.getfield 50, 3) := by decide +kernel
theorem dX8_typeOf_54 : decode cX8_typeOf 54 = .ok (.iload 4, 2) := by decide +kernel
theorem dX8_typeOf_56 : decode cX8_typeOf 56 = .ok (.aload_n 0, 1) := by decide +kernel
theorem dX8_typeOf_57 : decode cX8_typeOf 57 = .ok (.getfield 19, 3) := by decide +kernel
theorem dX8_typeOf_60 : decode cX8_typeOf 60 = .ok (.iload 6, 2) := by decide +kernel
theorem dX8_typeOf_62 : decode cX8_typeOf 62 = .ok (.sipush 1000, 3) := by decide +kernel
theorem dX8_typeOf_65 : decode cX8_typeOf 65 = .ok (.isub, 1) := by decide +kernel
theorem dX8_typeOf_66 : decode cX8_typeOf 66 = .ok (.iaload, 1) := by decide +kernel
theorem dX8_typeOf_67 : decode cX8_typeOf 67 = .ok (.ifCond .ne 7, 3) := by decide +kernel
theorem dX8_typeOf_70 : decode cX8_typeOf 70 = .ok (.iconst (-1), 1) := by decide +kernel
theorem dX8_typeOf_71 : decode cX8_typeOf 71 = .ok (.goto 14, 3) := by decide +kernel
theorem dX8_typeOf_74 : decode cX8_typeOf 74 = .ok (.aload_n 0, 1) := by decide +kernel
theorem dX8_typeOf_75 : decode cX8_typeOf 75 = .ok (.getfield 19, 3) := by decide +kernel
theorem dX8_typeOf_78 : decode cX8_typeOf 78 = .ok (.iload 6, 2) := by decide +kernel
theorem dX8_typeOf_80 : decode cX8_typeOf 80 = .ok (.sipush 1000, 3) := by decide +kernel
theorem dX8_typeOf_83 : decode cX8_typeOf 83 = .ok (.isub, 1) := by decide +kernel
theorem dX8_typeOf_84 : decode cX8_typeOf 84 = .ok (.iaload, 1) := by decide +kernel
theorem dX8_typeOf_85 : decode cX8_typeOf 85 = .ok (.iastore, 1) := by decide +kernel
theorem dX8_typeOf_86 : decode cX8_typeOf 86 = .ok (.iinc 4 1, 3) := by decide +kernel
theorem dX8_typeOf_89 : decode cX8_typeOf 89 = .ok (.goto 78, 3) := by decide +kernel
theorem dX8_typeOf_92 : decode cX8_typeOf 92 = .ok (.iload 6, 2) := by decide +kernel
theorem dX8_typeOf_94 : decode cX8_typeOf 94 = .ok (.sipush 2033, 3) := by decide +kernel
theorem dX8_typeOf_97 : decode cX8_typeOf 97 = .ok (.if_icmp .ne 33, 3) := by decide +kernel
theorem dX8_typeOf_100 : decode cX8_typeOf 100 = .ok (.aload_n 0, 1) := by decide +kernel
theorem dX8_typeOf_101 : decode cX8_typeOf 101 = .ok (.getfield 50, 3) := by decide +kernel
theorem dX8_typeOf_104 : decode cX8_typeOf 104 = .ok (.iload 4, 2) := by decide +kernel
theorem dX8_typeOf_106 : decode cX8_typeOf 106 = .ok (.iconst 1, 1) := by decide +kernel
theorem dX8_typeOf_107 : decode cX8_typeOf 107 = .ok (.isub, 1) := by decide +kernel
theorem dX8_typeOf_108 : decode cX8_typeOf 108 = .ok (.aload_n 0, 1) := by decide +kernel
theorem dX8_typeOf_109 : decode cX8_typeOf 109 = .ok (.getfield 50, 3) := by decide +kernel
theorem dX8_typeOf_112 : decode cX8_typeOf 112 = .ok (.iload 4, 2) := by decide +kernel
theorem dX8_typeOf_114 : decode cX8_typeOf 114 = .ok (.iconst 1, 1) := by decide +kernel
theorem dX8_typeOf_115 : decode cX8_typeOf 115 = .ok (.isub, 1) := by decide +kernel
theorem dX8_typeOf_116 : decode cX8_typeOf 116 = .ok (.iaload, 1) := by decide +kernel
theorem dX8_typeOf_117 : decode cX8_typeOf 117 = .ok (.iconst 2, 1) := by decide +kernel
theorem dX8_typeOf_118 : decode cX8_typeOf 118 = .ok (.if_icmp .ne 7, 3) := by decide +kernel
theorem dX8_typeOf_121 : decode cX8_typeOf 121 = .ok (.iconst 2, 1) := by decide +kernel
theorem dX8_typeOf_122 : decode cX8_typeOf 122 = .ok (.goto 4, 3) := by decide +kernel
theorem dX8_typeOf_125 : decode cX8_typeOf 125 = .ok (.iconst (-1), 1) := by decide +kernel
theorem dX8_typeOf_126 : decode cX8_typeOf 126 = .ok (.iastore, 1) := by decide +kernel
theorem dX8_typeOf_127 : decode cX8_typeOf 127 = .ok (.goto 40, 3) := by decide +kernel
theorem dX8_typeOf_130 : decode cX8_typeOf 130 = .ok (.iinc 4 (-1), 3) := by decide +kernel
theorem dX8_typeOf_133 : decode cX8_typeOf 133 = .ok (.aload_n 0, 1) := by decide +kernel
theorem dX8_typeOf_134 : decode cX8_typeOf 134 = .ok (.getfield 50, 3) := by decide +kernel
theorem dX8_typeOf_137 : decode cX8_typeOf 137 = .ok (.iload 4, 2) := by decide +kernel
theorem dX8_typeOf_139 : decode cX8_typeOf 139 = .ok (.iconst 1, 1) := by decide +kernel
theorem dX8_typeOf_140 : decode cX8_typeOf 140 = .ok (.isub, 1) := by decide +kernel
theorem dX8_typeOf_141 : decode cX8_typeOf 141 = .ok (.iload 6, 2) := by decide +kernel
theorem dX8_typeOf_143 : decode cX8_typeOf 143 = .ok (.sipush 2000, 3) := by decide +kernel
theorem dX8_typeOf_146 : decode cX8_typeOf 146 = .ok (.isub, 1) := by decide +kernel
theorem dX8_typeOf_147 : decode cX8_typeOf 147 = .ok (.aload_n 0, 1) := by decide +kernel
theorem dX8_typeOf_148 : decode cX8_typeOf 148 = .ok (.getfield 50, 3) := by decide +kernel
theorem dX8_typeOf_151 : decode cX8_typeOf 151 = .ok (.iload 4, 2) := by decide +kernel
theorem dX8_typeOf_153 : decode cX8_typeOf 153 = .ok (.iconst 1, 1) := by decide +kernel
theorem dX8_typeOf_154 : decode cX8_typeOf 154 = .ok (.isub, 1) := by decide +kernel
theorem dX8_typeOf_155 : decode cX8_typeOf 155 = .ok (.iaload, 1) := by decide +kernel
theorem dX8_typeOf_156 : decode cX8_typeOf 156 = .ok (.aload_n 0, 1) := by decide +kernel
theorem dX8_typeOf_157 : decode cX8_typeOf 157 = .ok (.getfield 50, 3) := by decide +kernel
theorem dX8_typeOf_160 : decode cX8_typeOf 160 = .ok (.iload 4, 2) := by decide +kernel
theorem dX8_typeOf_162 : decode cX8_typeOf 162 = .ok (.iaload, 1) := by decide +kernel
theorem dX8_typeOf_163 : decode cX8_typeOf 163 = .ok (.invokestatic 119, 3) := by decide +kernel
theorem dX8_typeOf_166 : decode cX8_typeOf 166 = .ok (.iastore, 1) := by decide +kernel
theorem dX8_typeOf_167 : decode cX8_typeOf 167 = .ok (.iinc 5 1, 3) := by decide +kernel
theorem dX8_typeOf_170 : decode cX8_typeOf 170 = .ok (.goto (-164), 3) := by decide +kernel
theorem dX8_typeOf_173 : decode cX8_typeOf 173 = .ok (.aload_n 0, 1) := by decide +kernel
theorem dX8_typeOf_174 : decode cX8_typeOf 174 = .ok (.getfield 50, 3) := by decide +kernel
theorem dX8_typeOf_177 : decode cX8_typeOf 177 = .ok (.iconst 0, 1) := by decide +kernel
theorem dX8_typeOf_178 : decode cX8_typeOf 178 = .ok (.iaload, 1) := by decide +kernel
theorem dX8_typeOf_179 : decode cX8_typeOf 179 = .ok (.ireturn, 1) := by decide +kernel
theorem dX8_valueFor_0 : decode cX8_valueFor 0 = .ok (.iload_n 0, 1) := by decide +kernel
theorem dX8_valueFor_1 : decode cX8_valueFor 1 = .ok (.bipush 43, 2) := by decide +kernel
theorem dX8_valueFor_3 : decode cX8_valueFor 3 = .ok (.if_icmp .eq 15, 3) := by decide +kernel
theorem dX8_valueFor_6 : decode cX8_valueFor 6 = .ok (.iload_n 0, 1) := by decide +kernel
theorem dX8_valueFor_7 : decode cX8_valueFor 7 = .ok (.bipush 45, 2) := by decide +kernel
theorem dX8_valueFor_9 : decode cX8_valueFor 9 = .ok (.if_icmp .eq 9, 3) := by decide +kernel
theorem dX8_valueFor_12 : decode cX8_valueFor 12 = .ok (.iload_n 0, 1) := by decide +kernel
theorem dX8_valueFor_13 : decode cX8_valueFor 13 = .ok (.bipush 42, 2) := by decide +kernel
theorem dX8_valueFor_15 : decode cX8_valueFor 15 = .ok (.if_icmp .ne 35, 3) := by decide +kernel
theorem dX8_valueFor_18 : decode cX8_valueFor 18 = .ok (.iload_n 0, 1) := by decide +kernel
theorem dX8_valueFor_19 : decode cX8_valueFor 19 = .ok (.bipush 43, 2) := by decide +kernel
theorem dX8_valueFor_21 : decode cX8_valueFor 21 = .ok (.if_icmp .ne 9, 3) := by decide +kernel
theorem dX8_valueFor_24 : decode cX8_valueFor 24 = .ok (.iload_n 1, 1) := by decide +kernel
theorem dX8_valueFor_25 : decode cX8_valueFor 25 = .ok (.iload_n 2, 1) := by decide +kernel
theorem dX8_valueFor_26 : decode cX8_valueFor 26 = .ok (.iadd, 1) := by decide +kernel
theorem dX8_valueFor_27 : decode cX8_valueFor 27 = .ok (.goto 18, 3) := by decide +kernel
theorem dX8_valueFor_30 : decode cX8_valueFor 30 = .ok (.iload_n 0, 1) := by decide +kernel
theorem dX8_valueFor_31 : decode cX8_valueFor 31 = .ok (.bipush 45, 2) := by decide +kernel
theorem dX8_valueFor_33 : decode cX8_valueFor 33 = .ok (.if_icmp .ne 9, 3) := by decide +kernel
theorem dX8_valueFor_36 : decode cX8_valueFor 36 = .ok (.iload_n 1, 1) := by decide +kernel
theorem dX8_valueFor_37 : decode cX8_valueFor 37 = .ok (.iload_n 2, 1) := by decide +kernel
theorem dX8_valueFor_38 : decode cX8_valueFor 38 = .ok (.isub, 1) := by decide +kernel
theorem dX8_valueFor_39 : decode cX8_valueFor 39 = .ok (.goto 6, 3) := by decide +kernel
theorem dX8_valueFor_42 : decode cX8_valueFor 42 = .ok (.iload_n 1, 1) := by decide +kernel
theorem dX8_valueFor_43 : decode cX8_valueFor 43 = .ok (.iload_n 2, 1) := by decide +kernel
theorem dX8_valueFor_44 : decode cX8_valueFor 44 = .ok (.imul, 1) := by decide +kernel
theorem dX8_valueFor_45 : decode cX8_valueFor 45 = .ok (.sipush 10000, 3) := by decide +kernel
theorem dX8_valueFor_48 : decode cX8_valueFor 48 = .ok (.irem, 1) := by decide +kernel
theorem dX8_valueFor_49 : decode cX8_valueFor 49 = .ok (.ireturn, 1) := by decide +kernel
theorem dX8_valueFor_50 : decode cX8_valueFor 50 = .ok (.iload_n 0, 1) := by decide +kernel
theorem dX8_valueFor_51 : decode cX8_valueFor 51 = .ok (.bipush 60, 2) := by decide +kernel
theorem dX8_valueFor_53 : decode cX8_valueFor 53 = .ok (.if_icmp .ne 16, 3) := by decide +kernel
theorem dX8_valueFor_56 : decode cX8_valueFor 56 = .ok (.iload_n 1, 1) := by decide +kernel
theorem dX8_valueFor_57 : decode cX8_valueFor 57 = .ok (.iload_n 2, 1) := by decide +kernel
theorem dX8_valueFor_58 : decode cX8_valueFor 58 = .ok (.if_icmp .ge 7, 3) := by decide +kernel
theorem dX8_valueFor_61 : decode cX8_valueFor 61 = .ok (.iconst 1, 1) := by decide +kernel
theorem dX8_valueFor_62 : decode cX8_valueFor 62 = .ok (.goto 84, 3) := by decide +kernel
theorem dX8_valueFor_65 : decode cX8_valueFor 65 = .ok (.iconst 0, 1) := by decide +kernel
theorem dX8_valueFor_66 : decode cX8_valueFor 66 = .ok (.goto 80, 3) := by decide +kernel
theorem dX8_valueFor_69 : decode cX8_valueFor 69 = .ok (.iload_n 0, 1) := by decide +kernel
theorem dX8_valueFor_70 : decode cX8_valueFor 70 = .ok (.bipush 62, 2) := by decide +kernel
theorem dX8_valueFor_72 : decode cX8_valueFor 72 = .ok (.if_icmp .ne 16, 3) := by decide +kernel
theorem dX8_valueFor_75 : decode cX8_valueFor 75 = .ok (.iload_n 1, 1) := by decide +kernel
theorem dX8_valueFor_76 : decode cX8_valueFor 76 = .ok (.iload_n 2, 1) := by decide +kernel
theorem dX8_valueFor_77 : decode cX8_valueFor 77 = .ok (.if_icmp .le 7, 3) := by decide +kernel
theorem dX8_valueFor_80 : decode cX8_valueFor 80 = .ok (.iconst 1, 1) := by decide +kernel
theorem dX8_valueFor_81 : decode cX8_valueFor 81 = .ok (.goto 65, 3) := by decide +kernel
theorem dX8_valueFor_84 : decode cX8_valueFor 84 = .ok (.iconst 0, 1) := by decide +kernel
theorem dX8_valueFor_85 : decode cX8_valueFor 85 = .ok (.goto 61, 3) := by decide +kernel
theorem dX8_valueFor_88 : decode cX8_valueFor 88 = .ok (.iload_n 0, 1) := by decide +kernel
theorem dX8_valueFor_89 : decode cX8_valueFor 89 = .ok (.bipush 61, 2) := by decide +kernel
theorem dX8_valueFor_91 : decode cX8_valueFor 91 = .ok (.if_icmp .ne 16, 3) := by decide +kernel
theorem dX8_valueFor_94 : decode cX8_valueFor 94 = .ok (.iload_n 1, 1) := by decide +kernel
theorem dX8_valueFor_95 : decode cX8_valueFor 95 = .ok (.iload_n 2, 1) := by decide +kernel
theorem dX8_valueFor_96 : decode cX8_valueFor 96 = .ok (.if_icmp .ne 7, 3) := by decide +kernel
theorem dX8_valueFor_99 : decode cX8_valueFor 99 = .ok (.iconst 1, 1) := by decide +kernel
theorem dX8_valueFor_100 : decode cX8_valueFor 100 = .ok (.goto 46, 3) := by decide +kernel
theorem dX8_valueFor_103 : decode cX8_valueFor 103 = .ok (.iconst 0, 1) := by decide +kernel
theorem dX8_valueFor_104 : decode cX8_valueFor 104 = .ok (.goto 42, 3) := by decide +kernel
theorem dX8_valueFor_107 : decode cX8_valueFor 107 = .ok (.iload_n 0, 1) := by decide +kernel
theorem dX8_valueFor_108 : decode cX8_valueFor 108 = .ok (.bipush 38, 2) := by decide +kernel
theorem dX8_valueFor_110 : decode cX8_valueFor 110 = .ok (.if_icmp .ne 21, 3) := by decide +kernel
theorem dX8_valueFor_113 : decode cX8_valueFor 113 = .ok (.iload_n 1, 1) := by decide +kernel
theorem dX8_valueFor_114 : decode cX8_valueFor 114 = .ok (.iconst 1, 1) := by decide +kernel
theorem dX8_valueFor_115 : decode cX8_valueFor 115 = .ok (.if_icmp .ne 12, 3) := by decide +kernel
theorem dX8_valueFor_118 : decode cX8_valueFor 118 = .ok (.iload_n 2, 1) := by decide +kernel
theorem dX8_valueFor_119 : decode cX8_valueFor 119 = .ok (.iconst 1, 1) := by decide +kernel
theorem dX8_valueFor_120 : decode cX8_valueFor 120 = .ok (.if_icmp .ne 7, 3) := by decide +kernel
theorem dX8_valueFor_123 : decode cX8_valueFor 123 = .ok (.iconst 1, 1) := by decide +kernel
theorem dX8_valueFor_124 : decode cX8_valueFor 124 = .ok (.goto 22, 3) := by decide +kernel
theorem dX8_valueFor_127 : decode cX8_valueFor 127 = .ok (.iconst 0, 1) := by decide +kernel
theorem dX8_valueFor_128 : decode cX8_valueFor 128 = .ok (.goto 18, 3) := by decide +kernel
theorem dX8_valueFor_131 : decode cX8_valueFor 131 = .ok (.iload_n 1, 1) := by decide +kernel
theorem dX8_valueFor_132 : decode cX8_valueFor 132 = .ok (.iconst 1, 1) := by decide +kernel
theorem dX8_valueFor_133 : decode cX8_valueFor 133 = .ok (.if_icmp .eq 8, 3) := by decide +kernel
theorem dX8_valueFor_136 : decode cX8_valueFor 136 = .ok (.iload_n 2, 1) := by decide +kernel
theorem dX8_valueFor_137 : decode cX8_valueFor 137 = .ok (.iconst 1, 1) := by decide +kernel
theorem dX8_valueFor_138 : decode cX8_valueFor 138 = .ok (.if_icmp .ne 7, 3) := by decide +kernel
theorem dX8_valueFor_141 : decode cX8_valueFor 141 = .ok (.iconst 1, 1) := by decide +kernel
theorem dX8_valueFor_142 : decode cX8_valueFor 142 = .ok (.goto 4, 3) := by decide +kernel
theorem dX8_valueFor_145 : decode cX8_valueFor 145 = .ok (.iconst 0, 1) := by decide +kernel
theorem dX8_valueFor_146 : decode cX8_valueFor 146 = .ok (.istore_n 3, 1) := by decide +kernel
theorem dX8_valueFor_147 : decode cX8_valueFor 147 = .ok (.iload_n 3, 1) := by decide +kernel
theorem dX8_valueFor_148 : decode cX8_valueFor 148 = .ok (.ifCond .eq 7, 3) := by decide +kernel
theorem dX8_valueFor_151 : decode cX8_valueFor 151 = .ok (.iconst 1, 1) := by decide +kernel
theorem dX8_valueFor_152 : decode cX8_valueFor 152 = .ok (.goto 4, 3) := by decide +kernel
theorem dX8_valueFor_155 : decode cX8_valueFor 155 = .ok (.iconst 0, 1) := by decide +kernel
theorem dX8_valueFor_156 : decode cX8_valueFor 156 = .ok (.ireturn, 1) := by decide +kernel
theorem dX8_valueOf_0 : decode cX8_valueOf 0 = .ok (.bipush 10, 2) := by decide +kernel
theorem dX8_valueOf_2 : decode cX8_valueOf 2 = .ok (.aload_n 0, 1) := by decide +kernel
theorem dX8_valueOf_3 : decode cX8_valueOf 3 = .ok (.getfield 25, 3) := by decide +kernel
theorem dX8_valueOf_6 : decode cX8_valueOf 6 = .ok (.iload_n 1, 1) := by decide +kernel
theorem dX8_valueOf_7 : decode cX8_valueOf 7 = .ok (.iaload, 1) := by decide +kernel
theorem dX8_valueOf_8 : decode cX8_valueOf 8 = .ok (.iconst 1, 1) := by decide +kernel
theorem dX8_valueOf_9 : decode cX8_valueOf 9 = .ok (.iadd, 1) := by decide +kernel
theorem dX8_valueOf_10 : decode cX8_valueOf 10 = .ok (.imul, 1) := by decide +kernel
theorem dX8_valueOf_11 : decode cX8_valueOf 11 = .ok (.iload_n 2, 1) := by decide +kernel
theorem dX8_valueOf_12 : decode cX8_valueOf 12 = .ok (.iadd, 1) := by decide +kernel
theorem dX8_valueOf_13 : decode cX8_valueOf 13 = .ok (.istore_n 3, 1) := by decide +kernel
theorem dX8_valueOf_14 : decode cX8_valueOf 14 = .ok (.iconst 0, 1) := by decide +kernel
theorem dX8_valueOf_15 : decode cX8_valueOf 15 = .ok (.istore 4, 2) := by decide +kernel
theorem dX8_valueOf_17 : decode cX8_valueOf 17 = .ok (.bipush 40, 2) := by decide +kernel
theorem dX8_valueOf_19 : decode cX8_valueOf 19 = .ok (.iload_n 3, 1) := by decide +kernel
theorem dX8_valueOf_20 : decode cX8_valueOf 20 = .ok (.imul, 1) := by decide +kernel
theorem dX8_valueOf_21 : decode cX8_valueOf 21 = .ok (.istore 5, 2) := by decide +kernel
theorem dX8_valueOf_23 : decode cX8_valueOf 23 = .ok (.iload 5, 2) := by decide +kernel
theorem dX8_valueOf_25 : decode cX8_valueOf 25 = .ok (.bipush 40, 2) := by decide +kernel
theorem dX8_valueOf_27 : decode cX8_valueOf 27 = .ok (.iload_n 3, 1) := by decide +kernel
theorem dX8_valueOf_28 : decode cX8_valueOf 28 = .ok (.imul, 1) := by decide +kernel
theorem dX8_valueOf_29 : decode cX8_valueOf 29 = .ok (.aload_n 0, 1) := by decide +kernel
theorem dX8_valueOf_30 : decode cX8_valueOf 30 = .ok (.getfield 16, 3) := by decide +kernel
theorem dX8_valueOf_33 : decode cX8_valueOf 33 = .ok (.iload_n 3, 1) := by decide +kernel
theorem dX8_valueOf_34 : decode cX8_valueOf 34 = .ok (.iaload, 1) := by decide +kernel
theorem dX8_valueOf_35 : decode cX8_valueOf 35 = .ok (.iadd, 1) := by decide +kernel
theorem dX8_valueOf_36 : decode cX8_valueOf 36 = .ok (.if_icmp .ge 146, 3) := by decide +kernel
theorem dX8_valueOf_39 : decode cX8_valueOf 39 = .ok (.aload_n 0, 1) := by decide +kernel
theorem dX8_valueOf_40 : decode cX8_valueOf 40 = .ok (.getfield 13, 3) := by decide +kernel
theorem dX8_valueOf_43 : decode cX8_valueOf 43 = .ok (.iload 5, 2) := by decide +kernel
theorem dX8_valueOf_45 : decode cX8_valueOf 45 = .ok (.iaload, 1) := by decide +kernel
theorem dX8_valueOf_46 : decode cX8_valueOf 46 = .ok (.istore 6, 2) := by decide +kernel
theorem dX8_valueOf_48 : decode cX8_valueOf 48 = .ok (.iload 6, 2) := by decide +kernel
theorem dX8_valueOf_50 : decode cX8_valueOf 50 = .ok (.sipush 1000, 3) := by decide +kernel
theorem dX8_valueOf_53 : decode cX8_valueOf 53 = .ok (.if_icmp .ge 18, 3) := by decide +kernel
theorem dX8_valueOf_56 : decode cX8_valueOf 56 = .ok (.aload_n 0, 1) := by decide +kernel
theorem dX8_valueOf_57 : decode cX8_valueOf 57 = .ok (.getfield 50, 3) := by decide +kernel
theorem dX8_valueOf_60 : decode cX8_valueOf 60 = .ok (.iload 4, 2) := by decide +kernel
theorem dX8_valueOf_62 : decode cX8_valueOf 62 = .ok (.iload 6, 2) := by decide +kernel
theorem dX8_valueOf_64 : decode cX8_valueOf 64 = .ok (.iastore, 1) := by decide +kernel
theorem dX8_valueOf_65 : decode cX8_valueOf 65 = .ok (.iinc 4 1, 3) := by decide +kernel
theorem dX8_valueOf_68 : decode cX8_valueOf 68 = .ok (.goto 108, 3) := by decide +kernel
theorem dX8_valueOf_71 : decode cX8_valueOf 71 = .ok (.iload 6, 2) := by decide +kernel
theorem dX8_valueOf_73 : decode cX8_valueOf 73 = .ok (.sipush 2000, 3) := by decide +kernel
theorem dX8_valueOf_76 : decode cX8_valueOf 76 = .ok (.if_icmp .ge 32, 3) := by decide +kernel
theorem dX8_valueOf_79 : decode cX8_valueOf 79 = .ok (.aload_n 0, 1) := by decide +kernel
theorem dX8_valueOf_80 : decode cX8_valueOf 80 = .ok (.getfield 50, 3) := by decide +kernel
theorem dX8_valueOf_83 : decode cX8_valueOf 83 = .ok (.iload 4, 2) := by decide +kernel
theorem dX8_valueOf_85 : decode cX8_valueOf 85 = .ok (.aload_n 0, 1) := by decide +kernel
theorem dX8_valueOf_86 : decode cX8_valueOf 86 = .ok (.getfield 28, 3) := by decide +kernel
theorem dX8_valueOf_89 : decode cX8_valueOf 89 = .ok (.bipush 6, 2) := by decide +kernel
theorem dX8_valueOf_91 : decode cX8_valueOf 91 = .ok (.iload_n 1, 1) := by decide +kernel
theorem dX8_valueOf_92 : decode cX8_valueOf 92 = .ok (.imul, 1) := by decide +kernel
theorem dX8_valueOf_93 : decode cX8_valueOf 93 = .ok (.iload 6, 2) := by decide +kernel
theorem dX8_valueOf_95 : decode cX8_valueOf 95 = .ok (.iadd, 1) := by decide +kernel
theorem dX8_valueOf_96 : decode cX8_valueOf 96 = .ok (.sipush 1000, 3) := by decide +kernel
theorem dX8_valueOf_99 : decode cX8_valueOf 99 = .ok (.isub, 1) := by decide +kernel
theorem dX8_valueOf_100 : decode cX8_valueOf 100 = .ok (.iaload, 1) := by decide +kernel
theorem dX8_valueOf_101 : decode cX8_valueOf 101 = .ok (.iastore, 1) := by decide +kernel
theorem dX8_valueOf_102 : decode cX8_valueOf 102 = .ok (.iinc 4 1, 3) := by decide +kernel
theorem dX8_valueOf_105 : decode cX8_valueOf 105 = .ok (.goto 71, 3) := by decide +kernel
theorem dX8_valueOf_108 : decode cX8_valueOf 108 = .ok (.iload 6, 2) := by decide +kernel
theorem dX8_valueOf_110 : decode cX8_valueOf 110 = .ok (.sipush 2033, 3) := by decide +kernel
theorem dX8_valueOf_113 : decode cX8_valueOf 113 = .ok (.if_icmp .ne 26, 3) := by decide +kernel
theorem dX8_valueOf_116 : decode cX8_valueOf 116 = .ok (.aload_n 0, 1) := by decide +kernel
theorem dX8_valueOf_117 : decode cX8_valueOf 117 = .ok (.getfield 50, 3) := by decide +kernel
theorem dX8_valueOf_120 : decode cX8_valueOf 120 = .ok (.iload 4, 2) := by decide +kernel
theorem dX8_valueOf_122 : decode cX8_valueOf 122 = .ok (.iconst 1, 1) := by decide +kernel
theorem dX8_valueOf_123 : decode cX8_valueOf 123 = .ok (.isub, 1) := by decide +kernel
theorem dX8_valueOf_124 : decode cX8_valueOf 124 = .ok (.iconst 1, 1) := by decide +kernel
theorem dX8_valueOf_125 : decode cX8_valueOf 125 = .ok (.aload_n 0, 1) := by decide +kernel
theorem dX8_valueOf_126 : decode cX8_valueOf 126 = .ok (.getfield 50, 3) := by decide +kernel
theorem dX8_valueOf_129 : decode cX8_valueOf 129 = .ok (.iload 4, 2) := by decide +kernel
theorem dX8_valueOf_131 : decode cX8_valueOf 131 = .ok (.iconst 1, 1) := by decide +kernel
theorem dX8_valueOf_132 : decode cX8_valueOf 132 = .ok (.isub, 1) := by decide +kernel
theorem dX8_valueOf_133 : decode cX8_valueOf 133 = .ok (.iaload, 1) := by decide +kernel
theorem dX8_valueOf_134 : decode cX8_valueOf 134 = .ok (.isub, 1) := by decide +kernel
theorem dX8_valueOf_135 : decode cX8_valueOf 135 = .ok (.iastore, 1) := by decide +kernel
theorem dX8_valueOf_136 : decode cX8_valueOf 136 = .ok (.goto 40, 3) := by decide +kernel
theorem dX8_valueOf_139 : decode cX8_valueOf 139 = .ok (.iinc 4 (-1), 3) := by decide +kernel
theorem dX8_valueOf_142 : decode cX8_valueOf 142 = .ok (.aload_n 0, 1) := by decide +kernel
theorem dX8_valueOf_143 : decode cX8_valueOf 143 = .ok (.getfield 50, 3) := by decide +kernel
theorem dX8_valueOf_146 : decode cX8_valueOf 146 = .ok (.iload 4, 2) := by decide +kernel
theorem dX8_valueOf_148 : decode cX8_valueOf 148 = .ok (.iconst 1, 1) := by decide +kernel
theorem dX8_valueOf_149 : decode cX8_valueOf 149 = .ok (.isub, 1) := by decide +kernel
theorem dX8_valueOf_150 : decode cX8_valueOf 150 = .ok (.iload 6, 2) := by decide +kernel
theorem dX8_valueOf_152 : decode cX8_valueOf 152 = .ok (.sipush 2000, 3) := by decide +kernel
theorem dX8_valueOf_155 : decode cX8_valueOf 155 = .ok (.isub, 1) := by decide +kernel
theorem dX8_valueOf_156 : decode cX8_valueOf 156 = .ok (.aload_n 0, 1) := by decide +kernel
theorem dX8_valueOf_157 : decode cX8_valueOf 157 = .ok (.getfield 50, 3) := by decide +kernel
theorem dX8_valueOf_160 : decode cX8_valueOf 160 = .ok (.iload 4, 2) := by decide +kernel
theorem dX8_valueOf_162 : decode cX8_valueOf 162 = .ok (.iconst 1, 1) := by decide +kernel
theorem dX8_valueOf_163 : decode cX8_valueOf 163 = .ok (.isub, 1) := by decide +kernel
theorem dX8_valueOf_164 : decode cX8_valueOf 164 = .ok (.iaload, 1) := by decide +kernel
theorem dX8_valueOf_165 : decode cX8_valueOf 165 = .ok (.aload_n 0, 1) := by decide +kernel
theorem dX8_valueOf_166 : decode cX8_valueOf 166 = .ok (.getfield 50, 3) := by decide +kernel
theorem dX8_valueOf_169 : decode cX8_valueOf 169 = .ok (.iload 4, 2) := by decide +kernel
theorem dX8_valueOf_171 : decode cX8_valueOf 171 = .ok (.iaload, 1) := by decide +kernel
theorem dX8_valueOf_172 : decode cX8_valueOf 172 = .ok (.invokestatic 123, 3) := by decide +kernel
theorem dX8_valueOf_175 : decode cX8_valueOf 175 = .ok (.iastore, 1) := by decide +kernel
theorem dX8_valueOf_176 : decode cX8_valueOf 176 = .ok (.iinc 5 1, 3) := by decide +kernel
theorem dX8_valueOf_179 : decode cX8_valueOf 179 = .ok (.goto (-156), 3) := by decide +kernel
theorem dX8_valueOf_182 : decode cX8_valueOf 182 = .ok (.aload_n 0, 1) := by decide +kernel
theorem dX8_valueOf_183 : decode cX8_valueOf 183 = .ok (.getfield 50, 3) := by decide +kernel
theorem dX8_valueOf_186 : decode cX8_valueOf 186 = .ok (.iconst 0, 1) := by decide +kernel
theorem dX8_valueOf_187 : decode cX8_valueOf 187 = .ok (.iaload, 1) := by decide +kernel
theorem dX8_valueOf_188 : decode cX8_valueOf 188 = .ok (.ireturn, 1) := by decide +kernel
theorem dX8_hasLetter_0 : decode cX8_hasLetter 0 = .ok (.iconst 0, 1) := by decide +kernel
theorem dX8_hasLetter_1 : decode cX8_hasLetter 1 = .ok (.istore_n 3, 1) := by decide +kernel
theorem dX8_hasLetter_2 : decode cX8_hasLetter 2 = .ok (.bipush 40, 2) := by decide +kernel
theorem dX8_hasLetter_4 : decode cX8_hasLetter 4 = .ok (.iload_n 1, 1) := by decide +kernel
theorem dX8_hasLetter_5 : decode cX8_hasLetter 5 = .ok (.imul, 1) := by decide +kernel
theorem dX8_hasLetter_6 : decode cX8_hasLetter 6 = .ok (.istore 4, 2) := by decide +kernel
theorem dX8_hasLetter_8 : decode cX8_hasLetter 8 = .ok (.iload 4, 2) := by decide +kernel
theorem dX8_hasLetter_10 : decode cX8_hasLetter 10 = .ok (.bipush 40, 2) := by decide +kernel
theorem dX8_hasLetter_12 : decode cX8_hasLetter 12 = .ok (.iload_n 1, 1) := by decide +kernel
theorem dX8_hasLetter_13 : decode cX8_hasLetter 13 = .ok (.imul, 1) := by decide +kernel
theorem dX8_hasLetter_14 : decode cX8_hasLetter 14 = .ok (.aload_n 0, 1) := by decide +kernel
theorem dX8_hasLetter_15 : decode cX8_hasLetter 15 = .ok (.getfield 16, 3) := by decide +kernel
theorem dX8_hasLetter_18 : decode cX8_hasLetter 18 = .ok (.iload_n 1, 1) := by decide +kernel
theorem dX8_hasLetter_19 : decode cX8_hasLetter 19 = .ok (.iaload, 1) := by decide +kernel
theorem dX8_hasLetter_20 : decode cX8_hasLetter 20 = .ok (.iadd, 1) := by decide +kernel
theorem dX8_hasLetter_21 : decode cX8_hasLetter 21 = .ok (.if_icmp .ge 34, 3) := by decide +kernel
theorem dX8_hasLetter_24 : decode cX8_hasLetter 24 = .ok (.iload_n 3, 1) := by decide +kernel
theorem dX8_hasLetter_25 : decode cX8_hasLetter 25 = .ok (.ifCond .ne 18, 3) := by decide +kernel
theorem dX8_hasLetter_28 : decode cX8_hasLetter 28 = .ok (.aload_n 0, 1) := by decide +kernel
theorem dX8_hasLetter_29 : decode cX8_hasLetter 29 = .ok (.getfield 13, 3) := by decide +kernel
theorem dX8_hasLetter_32 : decode cX8_hasLetter 32 = .ok (.iload 4, 2) := by decide +kernel
theorem dX8_hasLetter_34 : decode cX8_hasLetter 34 = .ok (.iaload, 1) := by decide +kernel
theorem dX8_hasLetter_35 : decode cX8_hasLetter 35 = .ok (.sipush 1000, 3) := by decide +kernel
theorem dX8_hasLetter_38 : decode cX8_hasLetter 38 = .ok (.iload_n 2, 1) := by decide +kernel
theorem dX8_hasLetter_39 : decode cX8_hasLetter 39 = .ok (.iadd, 1) := by decide +kernel
theorem dX8_hasLetter_40 : decode cX8_hasLetter 40 = .ok (.if_icmp .ne 7, 3) := by decide +kernel
theorem dX8_hasLetter_43 : decode cX8_hasLetter 43 = .ok (.iconst 1, 1) := by decide +kernel
theorem dX8_hasLetter_44 : decode cX8_hasLetter 44 = .ok (.goto 4, 3) := by decide +kernel
theorem dX8_hasLetter_47 : decode cX8_hasLetter 47 = .ok (.iconst 0, 1) := by decide +kernel
theorem dX8_hasLetter_48 : decode cX8_hasLetter 48 = .ok (.istore_n 3, 1) := by decide +kernel
theorem dX8_hasLetter_49 : decode cX8_hasLetter 49 = .ok (.iinc 4 1, 3) := by decide +kernel
theorem dX8_hasLetter_52 : decode cX8_hasLetter 52 = .ok (.goto (-44), 3) := by decide +kernel
theorem dX8_hasLetter_55 : decode cX8_hasLetter 55 = .ok (.iload_n 3, 1) := by decide +kernel
theorem dX8_hasLetter_56 : decode cX8_hasLetter 56 = .ok (.ireturn, 1) := by decide +kernel
theorem dX8_typeOfText_0 : decode cX8_typeOfText 0 = .ok (.aload_n 0, 1) := by decide +kernel
theorem dX8_typeOfText_1 : decode cX8_typeOfText 1 = .ok (.aload_n 0, 1) := by decide +kernel
theorem dX8_typeOfText_2 : decode cX8_typeOfText 2 = .ok (.invokevirtual 95, 3) := by decide +kernel
theorem dX8_typeOfText_5 : decode cX8_typeOfText 5 = .ok (.iconst (-1), 1) := by decide +kernel
theorem dX8_typeOfText_6 : decode cX8_typeOfText 6 = .ok (.if_icmp .ne 7, 3) := by decide +kernel
theorem dX8_typeOfText_9 : decode cX8_typeOfText 9 = .ok (.iconst 0, 1) := by decide +kernel
theorem dX8_typeOfText_10 : decode cX8_typeOfText 10 = .ok (.goto 4, 3) := by decide +kernel
theorem dX8_typeOfText_13 : decode cX8_typeOfText 13 = .ok (.iconst 1, 1) := by decide +kernel
theorem dX8_typeOfText_14 : decode cX8_typeOfText 14 = .ok (.putfield 66, 3) := by decide +kernel
theorem dX8_typeOfText_17 : decode cX8_typeOfText 17 = .ok (.aload_n 0, 1) := by decide +kernel
theorem dX8_typeOfText_18 : decode cX8_typeOfText 18 = .ok (.getfield 66, 3) := by decide +kernel
theorem dX8_typeOfText_21 : decode cX8_typeOfText 21 = .ok (.ifCond .le 5, 3) := by decide +kernel
theorem dX8_typeOfText_24 : decode cX8_typeOfText 24 = .ok (.iconst 0, 1) := by decide +kernel
theorem dX8_typeOfText_25 : decode cX8_typeOfText 25 = .ok (.ireturn, 1) := by decide +kernel
theorem dX8_typeOfText_26 : decode cX8_typeOfText 26 = .ok (.aload_n 0, 1) := by decide +kernel
theorem dX8_typeOfText_27 : decode cX8_typeOfText 27 = .ok (.invokevirtual 126, 3) := by decide +kernel
theorem dX8_typeOfText_30 : decode cX8_typeOfText 30 = .ok (.aload_n 0, 1) := by decide +kernel
theorem dX8_typeOfText_31 : decode cX8_typeOfText 31 = .ok (.aload_n 0, 1) := by decide +kernel
theorem dX8_typeOfText_32 : decode cX8_typeOfText 32 = .ok (.getfield 44, 3) := by decide +kernel
theorem dX8_typeOfText_35 : decode cX8_typeOfText 35 = .ok (.iconst 0, 1) := by decide +kernel
theorem dX8_typeOfText_36 : decode cX8_typeOfText 36 = .ok (.aload_n 0, 1) := by decide +kernel
theorem dX8_typeOfText_37 : decode cX8_typeOfText 37 = .ok (.getfield 99, 3) := by decide +kernel
theorem dX8_typeOfText_40 : decode cX8_typeOfText 40 = .ok (.invokevirtual 129, 3) := by decide +kernel
theorem dX8_typeOfText_43 : decode cX8_typeOfText 43 = .ok (.ireturn, 1) := by decide +kernel
theorem dX8_dueType_0 : decode cX8_dueType 0 = .ok (.iload_n 1, 1) := by decide +kernel
theorem dX8_dueType_1 : decode cX8_dueType 1 = .ok (.bipush 6, 2) := by decide +kernel
theorem dX8_dueType_3 : decode cX8_dueType 3 = .ok (.if_icmp .ge 12, 3) := by decide +kernel
theorem dX8_dueType_6 : decode cX8_dueType 6 = .ok (.aload_n 0, 1) := by decide +kernel
theorem dX8_dueType_7 : decode cX8_dueType 7 = .ok (.getfield 19, 3) := by decide +kernel
theorem dX8_dueType_10 : decode cX8_dueType 10 = .ok (.iload_n 1, 1) := by decide +kernel
theorem dX8_dueType_11 : decode cX8_dueType 11 = .ok (.iaload, 1) := by decide +kernel
theorem dX8_dueType_12 : decode cX8_dueType 12 = .ok (.goto 4, 3) := by decide +kernel
theorem dX8_dueType_15 : decode cX8_dueType 15 = .ok (.iconst 2, 1) := by decide +kernel
theorem dX8_dueType_16 : decode cX8_dueType 16 = .ok (.ireturn, 1) := by decide +kernel
theorem dX8_breaks_0 : decode cX8_breaks 0 = .ok (.aload_n 0, 1) := by decide +kernel
theorem dX8_breaks_1 : decode cX8_breaks 1 = .ok (.getfield 16, 3) := by decide +kernel
theorem dX8_breaks_4 : decode cX8_breaks 4 = .ok (.iload_n 1, 1) := by decide +kernel
theorem dX8_breaks_5 : decode cX8_breaks 5 = .ok (.iaload, 1) := by decide +kernel
theorem dX8_breaks_6 : decode cX8_breaks 6 = .ok (.ifCond .le 33, 3) := by decide +kernel
theorem dX8_breaks_9 : decode cX8_breaks 9 = .ok (.aload_n 0, 1) := by decide +kernel
theorem dX8_breaks_10 : decode cX8_breaks 10 = .ok (.aload_n 0, 1) := by decide +kernel
theorem dX8_breaks_11 : decode cX8_breaks 11 = .ok (.getfield 13, 3) := by decide +kernel
theorem dX8_breaks_14 : decode cX8_breaks 14 = .ok (.bipush 40, 2) := by decide +kernel
theorem dX8_breaks_16 : decode cX8_breaks 16 = .ok (.iload_n 1, 1) := by decide +kernel
theorem dX8_breaks_17 : decode cX8_breaks 17 = .ok (.imul, 1) := by decide +kernel
theorem dX8_breaks_18 : decode cX8_breaks 18 = .ok (.aload_n 0, 1) := by decide +kernel
theorem dX8_breaks_19 : decode cX8_breaks 19 = .ok (.getfield 16, 3) := by decide +kernel
theorem dX8_breaks_22 : decode cX8_breaks 22 = .ok (.iload_n 1, 1) := by decide +kernel
theorem dX8_breaks_23 : decode cX8_breaks 23 = .ok (.iaload, 1) := by decide +kernel
theorem dX8_breaks_24 : decode cX8_breaks 24 = .ok (.invokevirtual 129, 3) := by decide +kernel
