theorem dX0_init_0 : decode cX0_init 0 = .ok (.aload_n 0, 1) := by decide +kernel
theorem dX0_init_1 : decode cX0_init 1 = .ok (.invokespecial 1, 3) := by decide +kernel
theorem dX0_init_4 : decode cX0_init 4 = .ok (.aload_n 0, 1) := by decide +kernel
theorem dX0_init_5 : decode cX0_init 5 = .ok (.iload_n 1, 1) := by decide +kernel
theorem dX0_init_6 : decode cX0_init 6 = .ok (.putfield 7, 3) := by decide +kernel
theorem dX0_init_9 : decode cX0_init 9 = .ok (.aload_n 0, 1) := by decide +kernel
theorem dX0_init_10 : decode cX0_init 10 = .ok (.aload_n 2, 1) := by decide +kernel
theorem dX0_init_11 : decode cX0_init 11 = .ok (.putfield 13, 3) := by decide +kernel
theorem dX0_init_14 : decode cX0_init 14 = .ok (.aload_n 0, 1) := by decide +kernel
theorem dX0_init_15 : decode cX0_init 15 = .ok (.iload_n 3, 1) := by decide +kernel
theorem dX0_init_16 : decode cX0_init 16 = .ok (.putfield 17, 3) := by decide +kernel
theorem dX0_init_19 : decode cX0_init 19 = .ok (.aload_n 0, 1) := by decide +kernel
theorem dX0_init_20 : decode cX0_init 20 = .ok (.iload 4, 2) := by decide +kernel
theorem dX0_init_22 : decode cX0_init 22 = .ok (.putfield 20, 3) := by decide +kernel
theorem dX0_init_25 : decode cX0_init 25 = .ok (.aload_n 0, 1) := by decide +kernel
theorem dX0_init_26 : decode cX0_init 26 = .ok (.iload 5, 2) := by decide +kernel
theorem dX0_init_28 : decode cX0_init 28 = .ok (.putfield 23, 3) := by decide +kernel
theorem dX0_init_31 : decode cX0_init 31 = .ok (.return_, 1) := by decide +kernel
theorem dX0_end_0 : decode cX0_end 0 = .ok (.aload_n 0, 1) := by decide +kernel
theorem dX0_end_1 : decode cX0_end 1 = .ok (.getfield 17, 3) := by decide +kernel
theorem dX0_end_4 : decode cX0_end 4 = .ok (.aload_n 0, 1) := by decide +kernel
theorem dX0_end_5 : decode cX0_end 5 = .ok (.getfield 20, 3) := by decide +kernel
theorem dX0_end_8 : decode cX0_end 8 = .ok (.iadd, 1) := by decide +kernel
theorem dX0_end_9 : decode cX0_end 9 = .ok (.ireturn, 1) := by decide +kernel
theorem dX0_has_0 : decode cX0_has 0 = .ok (.iload_n 1, 1) := by decide +kernel
theorem dX0_has_1 : decode cX0_has 1 = .ok (.aload_n 0, 1) := by decide +kernel
theorem dX0_has_2 : decode cX0_has 2 = .ok (.getfield 17, 3) := by decide +kernel
theorem dX0_has_5 : decode cX0_has 5 = .ok (.if_icmp .lt 15, 3) := by decide +kernel
theorem dX0_has_8 : decode cX0_has 8 = .ok (.iload_n 1, 1) := by decide +kernel
theorem dX0_has_9 : decode cX0_has 9 = .ok (.aload_n 0, 1) := by decide +kernel
theorem dX0_has_10 : decode cX0_has 10 = .ok (.invokevirtual 26, 3) := by decide +kernel
theorem dX0_has_13 : decode cX0_has 13 = .ok (.if_icmp .ge 7, 3) := by decide +kernel
theorem dX0_has_16 : decode cX0_has 16 = .ok (.iconst 1, 1) := by decide +kernel
theorem dX0_has_17 : decode cX0_has 17 = .ok (.goto 4, 3) := by decide +kernel
theorem dX0_has_20 : decode cX0_has 20 = .ok (.iconst 0, 1) := by decide +kernel
theorem dX0_has_21 : decode cX0_has 21 = .ok (.ireturn, 1) := by decide +kernel
theorem dX0_meets_0 : decode cX0_meets 0 = .ok (.aload_n 0, 1) := by decide +kernel
theorem dX0_meets_1 : decode cX0_meets 1 = .ok (.getfield 17, 3) := by decide +kernel
theorem dX0_meets_4 : decode cX0_meets 4 = .ok (.iload_n 1, 1) := by decide +kernel
theorem dX0_meets_5 : decode cX0_meets 5 = .ok (.iload_n 2, 1) := by decide +kernel
theorem dX0_meets_6 : decode cX0_meets 6 = .ok (.iadd, 1) := by decide +kernel
theorem dX0_meets_7 : decode cX0_meets 7 = .ok (.if_icmp .ge 15, 3) := by decide +kernel
theorem dX0_meets_10 : decode cX0_meets 10 = .ok (.iload_n 1, 1) := by decide +kernel
theorem dX0_meets_11 : decode cX0_meets 11 = .ok (.aload_n 0, 1) := by decide +kernel
theorem dX0_meets_12 : decode cX0_meets 12 = .ok (.invokevirtual 26, 3) := by decide +kernel
theorem dX0_meets_15 : decode cX0_meets 15 = .ok (.if_icmp .ge 7, 3) := by decide +kernel
theorem dX0_meets_18 : decode cX0_meets 18 = .ok (.iconst 1, 1) := by decide +kernel
theorem dX0_meets_19 : decode cX0_meets 19 = .ok (.goto 4, 3) := by decide +kernel
theorem dX0_meets_22 : decode cX0_meets 22 = .ok (.iconst 0, 1) := by decide +kernel
theorem dX0_meets_23 : decode cX0_meets 23 = .ok (.ireturn, 1) := by decide +kernel
theorem dX1_init_0 : decode cX1_init 0 = .ok (.aload_n 0, 1) := by decide +kernel
theorem dX1_init_1 : decode cX1_init 1 = .ok (.invokespecial 1, 3) := by decide +kernel
theorem dX1_init_4 : decode cX1_init 4 = .ok (.aload_n 0, 1) := by decide +kernel
theorem dX1_init_5 : decode cX1_init 5 = .ok (.new 7, 3) := by decide +kernel
theorem dX1_init_8 : decode cX1_init 8 = .ok (.dup, 1) := by decide +kernel
theorem dX1_init_9 : decode cX1_init 9 = .ok (.iconst 0, 1) := by decide +kernel
theorem dX1_init_10 : decode cX1_init 10 = .ok (.aconst_null, 1) := by decide +kernel
theorem dX1_init_11 : decode cX1_init 11 = .ok (.iconst 0, 1) := by decide +kernel
theorem dX1_init_12 : decode cX1_init 12 = .ok (.sipush 4096, 3) := by decide +kernel
theorem dX1_init_15 : decode cX1_init 15 = .ok (.iconst 0, 1) := by decide +kernel
theorem dX1_init_16 : decode cX1_init 16 = .ok (.invokespecial 11, 3) := by decide +kernel
theorem dX1_init_19 : decode cX1_init 19 = .ok (.putfield 14, 3) := by decide +kernel
theorem dX1_init_22 : decode cX1_init 22 = .ok (.aload_n 0, 1) := by decide +kernel
theorem dX1_init_23 : decode cX1_init 23 = .ok (.bipush 60, 2) := by decide +kernel
theorem dX1_init_25 : decode cX1_init 25 = .ok (.anewarray 7, 3) := by decide +kernel
theorem dX1_init_28 : decode cX1_init 28 = .ok (.putfield 18, 3) := by decide +kernel
theorem dX1_init_31 : decode cX1_init 31 = .ok (.aload_n 0, 1) := by decide +kernel
theorem dX1_init_32 : decode cX1_init 32 = .ok (.getfield 18, 3) := by decide +kernel
theorem dX1_init_35 : decode cX1_init 35 = .ok (.iconst 0, 1) := by decide +kernel
theorem dX1_init_36 : decode cX1_init 36 = .ok (.aload_n 0, 1) := by decide +kernel
theorem dX1_init_37 : decode cX1_init 37 = .ok (.getfield 14, 3) := by decide +kernel
theorem dX1_init_40 : decode cX1_init 40 = .ok (.aastore, 1) := by decide +kernel
theorem dX1_init_41 : decode cX1_init 41 = .ok (.aload_n 0, 1) := by decide +kernel
theorem dX1_init_42 : decode cX1_init 42 = .ok (.iconst 1, 1) := by decide +kernel
theorem dX1_init_43 : decode cX1_init 43 = .ok (.putfield 22, 3) := by decide +kernel
theorem dX1_init_46 : decode cX1_init 46 = .ok (.aload_n 0, 1) := by decide +kernel
theorem dX1_init_47 : decode cX1_init 47 = .ok (.sipush 4096, 3) := by decide +kernel
theorem dX1_init_50 : decode cX1_init 50 = .ok (.newarray .int, 2) := by decide +kernel
theorem dX1_init_52 : decode cX1_init 52 = .ok (.putfield 26, 3) := by decide +kernel
theorem dX1_init_55 : decode cX1_init 55 = .ok (.aload_n 0, 1) := by decide +kernel
theorem dX1_init_56 : decode cX1_init 56 = .ok (.iconst 0, 1) := by decide +kernel
theorem dX1_init_57 : decode cX1_init 57 = .ok (.putfield 30, 3) := by decide +kernel
theorem dX1_init_60 : decode cX1_init 60 = .ok (.aload_n 0, 1) := by decide +kernel
theorem dX1_init_61 : decode cX1_init 61 = .ok (.iconst 0, 1) := by decide +kernel
theorem dX1_init_62 : decode cX1_init 62 = .ok (.putfield 33, 3) := by decide +kernel
theorem dX1_init_65 : decode cX1_init 65 = .ok (.aload_n 0, 1) := by decide +kernel
theorem dX1_init_66 : decode cX1_init 66 = .ok (.sipush 4096, 3) := by decide +kernel
theorem dX1_init_69 : decode cX1_init 69 = .ok (.newarray .int, 2) := by decide +kernel
theorem dX1_init_71 : decode cX1_init 71 = .ok (.putfield 36, 3) := by decide +kernel
theorem dX1_init_74 : decode cX1_init 74 = .ok (.aload_n 0, 1) := by decide +kernel
theorem dX1_init_75 : decode cX1_init 75 = .ok (.iconst 0, 1) := by decide +kernel
theorem dX1_init_76 : decode cX1_init 76 = .ok (.putfield 39, 3) := by decide +kernel
theorem dX1_init_79 : decode cX1_init 79 = .ok (.return_, 1) := by decide +kernel
theorem dX1_carve_0 : decode cX1_carve 0 = .ok (.aload_n 0, 1) := by decide +kernel
theorem dX1_carve_1 : decode cX1_carve 1 = .ok (.iload_n 1, 1) := by decide +kernel
theorem dX1_carve_2 : decode cX1_carve 2 = .ok (.invokevirtual 43, 3) := by decide +kernel
theorem dX1_carve_5 : decode cX1_carve 5 = .ok (.astore 5, 2) := by decide +kernel
theorem dX1_carve_7 : decode cX1_carve 7 = .ok (.iload_n 2, 1) := by decide +kernel
theorem dX1_carve_8 : decode cX1_carve 8 = .ok (.invokestatic 47, 3) := by decide +kernel
theorem dX1_carve_11 : decode cX1_carve 11 = .ok (.iload_n 3, 1) := by decide +kernel
theorem dX1_carve_12 : decode cX1_carve 12 = .ok (.invokestatic 51, 3) := by decide +kernel
theorem dX1_carve_15 : decode cX1_carve 15 = .ok (.iload 4, 2) := by decide +kernel
theorem dX1_carve_17 : decode cX1_carve 17 = .ok (.ifCond .lt 9, 3) := by decide +kernel
theorem dX1_carve_20 : decode cX1_carve 20 = .ok (.iload 4, 2) := by decide +kernel
theorem dX1_carve_22 : decode cX1_carve 22 = .ok (.iconst 2, 1) := by decide +kernel
theorem dX1_carve_23 : decode cX1_carve 23 = .ok (.if_icmp .le 13, 3) := by decide +kernel
theorem dX1_carve_26 : decode cX1_carve 26 = .ok (.new 54, 3) := by decide +kernel
theorem dX1_carve_29 : decode cX1_carve 29 = .ok (.dup, 1) := by decide +kernel
theorem dX1_carve_30 : decode cX1_carve 30 = .ok (.ldc 56, 2) := by decide +kernel
theorem dX1_carve_32 : decode cX1_carve 32 = .ok (.invokespecial 58, 3) := by decide +kernel
theorem dX1_carve_35 : decode cX1_carve 35 = .ok (.athrow, 1) := by decide +kernel
theorem dX1_carve_36 : decode cX1_carve 36 = .ok (.aload_n 0, 1) := by decide +kernel
theorem dX1_carve_37 : decode cX1_carve 37 = .ok (.aload 5, 2) := by decide +kernel
theorem dX1_carve_39 : decode cX1_carve 39 = .ok (.iload_n 2, 1) := by decide +kernel
theorem dX1_carve_40 : decode cX1_carve 40 = .ok (.invokevirtual 61, 3) := by decide +kernel
theorem dX1_carve_43 : decode cX1_carve 43 = .ok (.aload_n 0, 1) := by decide +kernel
theorem dX1_carve_44 : decode cX1_carve 44 = .ok (.aload 5, 2) := by decide +kernel
theorem dX1_carve_46 : decode cX1_carve 46 = .ok (.iload_n 2, 1) := by decide +kernel
theorem dX1_carve_47 : decode cX1_carve 47 = .ok (.iload 4, 2) := by decide +kernel
theorem dX1_carve_49 : decode cX1_carve 49 = .ok (.ifCond .ne 7, 3) := by decide +kernel
theorem dX1_carve_52 : decode cX1_carve 52 = .ok (.iconst 1, 1) := by decide +kernel
theorem dX1_carve_53 : decode cX1_carve 53 = .ok (.goto 4, 3) := by decide +kernel
theorem dX1_carve_56 : decode cX1_carve 56 = .ok (.iconst 0, 1) := by decide +kernel
theorem dX1_carve_57 : decode cX1_carve 57 = .ok (.invokevirtual 65, 3) := by decide +kernel
theorem dX1_carve_60 : decode cX1_carve 60 = .ok (.istore 6, 2) := by decide +kernel
theorem dX1_carve_62 : decode cX1_carve 62 = .ok (.iload 6, 2) := by decide +kernel
theorem dX1_carve_64 : decode cX1_carve 64 = .ok (.iconst (-1), 1) := by decide +kernel
theorem dX1_carve_65 : decode cX1_carve 65 = .ok (.if_icmp .ne 13, 3) := by decide +kernel
theorem dX1_carve_68 : decode cX1_carve 68 = .ok (.new 69, 3) := by decide +kernel
theorem dX1_carve_71 : decode cX1_carve 71 = .ok (.dup, 1) := by decide +kernel
theorem dX1_carve_72 : decode cX1_carve 72 = .ok (.ldc 71, 2) := by decide +kernel
theorem dX1_carve_74 : decode cX1_carve 74 = .ok (.invokespecial 73, 3) := by decide +kernel
theorem dX1_carve_77 : decode cX1_carve 77 = .ok (.athrow, 1) := by decide +kernel
theorem dX1_carve_78 : decode cX1_carve 78 = .ok (.aload_n 0, 1) := by decide +kernel
theorem dX1_carve_79 : decode cX1_carve 79 = .ok (.aload 5, 2) := by decide +kernel
theorem dX1_carve_81 : decode cX1_carve 81 = .ok (.iload 6, 2) := by decide +kernel
theorem dX1_carve_83 : decode cX1_carve 83 = .ok (.invokevirtual 74, 3) := by decide +kernel
theorem dX1_carve_86 : decode cX1_carve 86 = .ok (.istore 7, 2) := by decide +kernel
theorem dX1_carve_88 : decode cX1_carve 88 = .ok (.iload 4, 2) := by decide +kernel
theorem dX1_carve_90 : decode cX1_carve 90 = .ok (.iconst 2, 1) := by decide +kernel
theorem dX1_carve_91 : decode cX1_carve 91 = .ok (.if_icmp .ne 19, 3) := by decide +kernel
theorem dX1_carve_94 : decode cX1_carve 94 = .ok (.iload 7, 2) := by decide +kernel
theorem dX1_carve_96 : decode cX1_carve 96 = .ok (.iload_n 2, 1) := by decide +kernel
theorem dX1_carve_97 : decode cX1_carve 97 = .ok (.if_icmp .le 13, 3) := by decide +kernel
theorem dX1_carve_100 : decode cX1_carve 100 = .ok (.iload 6, 2) := by decide +kernel
theorem dX1_carve_102 : decode cX1_carve 102 = .ok (.iload 7, 2) := by decide +kernel
theorem dX1_carve_104 : decode cX1_carve 104 = .ok (.iconst 2, 1) := by decide +kernel
theorem dX1_carve_105 : decode cX1_carve 105 = .ok (.idiv, 1) := by decide +kernel
theorem dX1_carve_106 : decode cX1_carve 106 = .ok (.iadd, 1) := by decide +kernel
theorem dX1_carve_107 : decode cX1_carve 107 = .ok (.goto 5, 3) := by decide +kernel
theorem dX1_carve_110 : decode cX1_carve 110 = .ok (.iload 6, 2) := by decide +kernel
theorem dX1_carve_112 : decode cX1_carve 112 = .ok (.istore 8, 2) := by decide +kernel
theorem dX1_carve_114 : decode cX1_carve 114 = .ok (.aload_n 0, 1) := by decide +kernel
theorem dX1_carve_115 : decode cX1_carve 115 = .ok (.aload 5, 2) := by decide +kernel
theorem dX1_carve_117 : decode cX1_carve 117 = .ok (.iload 8, 2) := by decide +kernel
theorem dX1_carve_119 : decode cX1_carve 119 = .ok (.iload_n 2, 1) := by decide +kernel
theorem dX1_carve_120 : decode cX1_carve 120 = .ok (.iload_n 3, 1) := by decide +kernel
theorem dX1_carve_121 : decode cX1_carve 121 = .ok (.invokevirtual 78, 3) := by decide +kernel
theorem dX1_carve_124 : decode cX1_carve 124 = .ok (.ireturn, 1) := by decide +kernel
theorem dX1_carveAt_0 : decode cX1_carveAt 0 = .ok (.aload_n 0, 1) := by decide +kernel
theorem dX1_carveAt_1 : decode cX1_carveAt 1 = .ok (.iload_n 1, 1) := by decide +kernel
theorem dX1_carveAt_2 : decode cX1_carveAt 2 = .ok (.invokevirtual 43, 3) := by decide +kernel
theorem dX1_carveAt_5 : decode cX1_carveAt 5 = .ok (.astore 5, 2) := by decide +kernel
theorem dX1_carveAt_7 : decode cX1_carveAt 7 = .ok (.iload_n 3, 1) := by decide +kernel
theorem dX1_carveAt_8 : decode cX1_carveAt 8 = .ok (.invokestatic 47, 3) := by decide +kernel
theorem dX1_carveAt_11 : decode cX1_carveAt 11 = .ok (.iload 4, 2) := by decide +kernel
theorem dX1_carveAt_13 : decode cX1_carveAt 13 = .ok (.invokestatic 51, 3) := by decide +kernel
theorem dX1_carveAt_16 : decode cX1_carveAt 16 = .ok (.iload_n 2, 1) := by decide +kernel
theorem dX1_carveAt_17 : decode cX1_carveAt 17 = .ok (.ifCond .lt 11, 3) := by decide +kernel
theorem dX1_carveAt_20 : decode cX1_carveAt 20 = .ok (.iload_n 2, 1) := by decide +kernel
theorem dX1_carveAt_21 : decode cX1_carveAt 21 = .ok (.iload_n 3, 1) := by decide +kernel
theorem dX1_carveAt_22 : decode cX1_carveAt 22 = .ok (.iconst 1, 1) := by decide +kernel
theorem dX1_carveAt_23 : decode cX1_carveAt 23 = .ok (.isub, 1) := by decide +kernel
theorem dX1_carveAt_24 : decode cX1_carveAt 24 = .ok (.iand, 1) := by decide +kernel
theorem dX1_carveAt_25 : decode cX1_carveAt 25 = .ok (.ifCond .eq 13, 3) := by decide +kernel
theorem dX1_carveAt_28 : decode cX1_carveAt 28 = .ok (.new 54, 3) := by decide +kernel
theorem dX1_carveAt_31 : decode cX1_carveAt 31 = .ok (.dup, 1) := by decide +kernel
theorem dX1_carveAt_32 : decode cX1_carveAt 32 = .ok (.ldc 82, 2) := by decide +kernel
theorem dX1_carveAt_34 : decode cX1_carveAt 34 = .ok (.invokespecial 58, 3) := by decide +kernel
theorem dX1_carveAt_37 : decode cX1_carveAt 37 = .ok (.athrow, 1) := by decide +kernel
theorem dX1_carveAt_38 : decode cX1_carveAt 38 = .ok (.aload_n 0, 1) := by decide +kernel
theorem dX1_carveAt_39 : decode cX1_carveAt 39 = .ok (.aload 5, 2) := by decide +kernel
theorem dX1_carveAt_41 : decode cX1_carveAt 41 = .ok (.iload_n 3, 1) := by decide +kernel
theorem dX1_carveAt_42 : decode cX1_carveAt 42 = .ok (.invokevirtual 61, 3) := by decide +kernel
theorem dX1_carveAt_45 : decode cX1_carveAt 45 = .ok (.aload 5, 2) := by decide +kernel
theorem dX1_carveAt_47 : decode cX1_carveAt 47 = .ok (.iload_n 2, 1) := by decide +kernel
theorem dX1_carveAt_48 : decode cX1_carveAt 48 = .ok (.invokevirtual 84, 3) := by decide +kernel
theorem dX1_carveAt_51 : decode cX1_carveAt 51 = .ok (.ifCond .eq 14, 3) := by decide +kernel
theorem dX1_carveAt_54 : decode cX1_carveAt 54 = .ok (.aload_n 0, 1) := by decide +kernel
theorem dX1_carveAt_55 : decode cX1_carveAt 55 = .ok (.aload 5, 2) := by decide +kernel
theorem dX1_carveAt_57 : decode cX1_carveAt 57 = .ok (.iload_n 2, 1) := by decide +kernel
theorem dX1_carveAt_58 : decode cX1_carveAt 58 = .ok (.iload_n 3, 1) := by decide +kernel
theorem dX1_carveAt_59 : decode cX1_carveAt 59 = .ok (.invokevirtual 88, 3) := by decide +kernel
theorem dX1_carveAt_62 : decode cX1_carveAt 62 = .ok (.ifCond .le 13, 3) := by decide +kernel
theorem dX1_carveAt_65 : decode cX1_carveAt 65 = .ok (.new 69, 3) := by decide +kernel
theorem dX1_carveAt_68 : decode cX1_carveAt 68 = .ok (.dup, 1) := by decide +kernel
theorem dX1_carveAt_69 : decode cX1_carveAt 69 = .ok (.ldc 92, 2) := by decide +kernel
theorem dX1_carveAt_71 : decode cX1_carveAt 71 = .ok (.invokespecial 73, 3) := by decide +kernel
theorem dX1_carveAt_74 : decode cX1_carveAt 74 = .ok (.athrow, 1) := by decide +kernel
theorem dX1_carveAt_75 : decode cX1_carveAt 75 = .ok (.aload_n 0, 1) := by decide +kernel
theorem dX1_carveAt_76 : decode cX1_carveAt 76 = .ok (.aload 5, 2) := by decide +kernel
theorem dX1_carveAt_78 : decode cX1_carveAt 78 = .ok (.iload_n 2, 1) := by decide +kernel
theorem dX1_carveAt_79 : decode cX1_carveAt 79 = .ok (.iload_n 3, 1) := by decide +kernel
theorem dX1_carveAt_80 : decode cX1_carveAt 80 = .ok (.iload 4, 2) := by decide +kernel
theorem dX1_carveAt_82 : decode cX1_carveAt 82 = .ok (.invokevirtual 78, 3) := by decide +kernel
theorem dX1_carveAt_85 : decode cX1_carveAt 85 = .ok (.ireturn, 1) := by decide +kernel
theorem dX1_remove_0 : decode cX1_remove 0 = .ok (.aload_n 0, 1) := by decide +kernel
theorem dX1_remove_1 : decode cX1_remove 1 = .ok (.iload_n 1, 1) := by decide +kernel
theorem dX1_remove_2 : decode cX1_remove 2 = .ok (.invokevirtual 43, 3) := by decide +kernel
theorem dX1_remove_5 : decode cX1_remove 5 = .ok (.astore_n 2, 1) := by decide +kernel
theorem dX1_remove_6 : decode cX1_remove 6 = .ok (.aload_n 2, 1) := by decide +kernel
theorem dX1_remove_7 : decode cX1_remove 7 = .ok (.getfield 94, 3) := by decide +kernel
theorem dX1_remove_10 : decode cX1_remove 10 = .ok (.ifnull 26, 3) := by decide +kernel
theorem dX1_remove_13 : decode cX1_remove 13 = .ok (.aload_n 0, 1) := by decide +kernel
theorem dX1_remove_14 : decode cX1_remove 14 = .ok (.aload_n 2, 1) := by decide +kernel
theorem dX1_remove_15 : decode cX1_remove 15 = .ok (.invokevirtual 97, 3) := by decide +kernel
theorem dX1_remove_18 : decode cX1_remove 18 = .ok (.ifCond .ne 18, 3) := by decide +kernel
theorem dX1_remove_21 : decode cX1_remove 21 = .ok (.aload_n 0, 1) := by decide +kernel
theorem dX1_remove_22 : decode cX1_remove 22 = .ok (.aload_n 2, 1) := by decide +kernel
theorem dX1_remove_23 : decode cX1_remove 23 = .ok (.getfield 101, 3) := by decide +kernel
theorem dX1_remove_26 : decode cX1_remove 26 = .ok (.aload_n 2, 1) := by decide +kernel
theorem dX1_remove_27 : decode cX1_remove 27 = .ok (.invokevirtual 104, 3) := by decide +kernel
theorem dX1_remove_30 : decode cX1_remove 30 = .ok (.invokevirtual 108, 3) := by decide +kernel
theorem dX1_remove_33 : decode cX1_remove 33 = .ok (.ifCond .le 13, 3) := by decide +kernel
theorem dX1_remove_36 : decode cX1_remove 36 = .ok (.new 69, 3) := by decide +kernel
theorem dX1_remove_39 : decode cX1_remove 39 = .ok (.dup, 1) := by decide +kernel
theorem dX1_remove_40 : decode cX1_remove 40 = .ok (.ldc 112, 2) := by decide +kernel
theorem dX1_remove_42 : decode cX1_remove 42 = .ok (.invokespecial 73, 3) := by decide +kernel
theorem dX1_remove_45 : decode cX1_remove 45 = .ok (.athrow, 1) := by decide +kernel
theorem dX1_remove_46 : decode cX1_remove 46 = .ok (.aload_n 0, 1) := by decide +kernel
theorem dX1_remove_47 : decode cX1_remove 47 = .ok (.getfield 18, 3) := by decide +kernel
theorem dX1_remove_50 : decode cX1_remove 50 = .ok (.iload_n 1, 1) := by decide +kernel
theorem dX1_remove_51 : decode cX1_remove 51 = .ok (.aconst_null, 1) := by decide +kernel
theorem dX1_remove_52 : decode cX1_remove 52 = .ok (.aastore, 1) := by decide +kernel
theorem dX1_remove_53 : decode cX1_remove 53 = .ok (.aload_n 0, 1) := by decide +kernel
theorem dX1_remove_54 : decode cX1_remove 54 = .ok (.iconst 0, 1) := by decide +kernel
theorem dX1_remove_55 : decode cX1_remove 55 = .ok (.putfield 39, 3) := by decide +kernel
theorem dX1_remove_58 : decode cX1_remove 58 = .ok (.aload_n 2, 1) := by decide +kernel
theorem dX1_remove_59 : decode cX1_remove 59 = .ok (.getfield 114, 3) := by decide +kernel
theorem dX1_remove_62 : decode cX1_remove 62 = .ok (.ireturn, 1) := by decide +kernel
theorem dX1_grow_0 : decode cX1_grow 0 = .ok (.aload_n 0, 1) := by decide +kernel
theorem dX1_grow_1 : decode cX1_grow 1 = .ok (.iload_n 1, 1) := by decide +kernel
theorem dX1_grow_2 : decode cX1_grow 2 = .ok (.invokevirtual 43, 3) := by decide +kernel
theorem dX1_grow_5 : decode cX1_grow 5 = .ok (.astore_n 2, 1) := by decide +kernel
theorem dX1_grow_6 : decode cX1_grow 6 = .ok (.aload_n 2, 1) := by decide +kernel
theorem dX1_grow_7 : decode cX1_grow 7 = .ok (.getfield 94, 3) := by decide +kernel
theorem dX1_grow_10 : decode cX1_grow 10 = .ok (.astore_n 3, 1) := by decide +kernel
theorem dX1_grow_11 : decode cX1_grow 11 = .ok (.iconst 2, 1) := by decide +kernel
theorem dX1_grow_12 : decode cX1_grow 12 = .ok (.aload_n 2, 1) := by decide +kernel
theorem dX1_grow_13 : decode cX1_grow 13 = .ok (.getfield 114, 3) := by decide +kernel
theorem dX1_grow_16 : decode cX1_grow 16 = .ok (.imul, 1) := by decide +kernel
theorem dX1_grow_17 : decode cX1_grow 17 = .ok (.istore 4, 2) := by decide +kernel
theorem dX1_grow_19 : decode cX1_grow 19 = .ok (.aload_n 3, 1) := by decide +kernel
theorem dX1_grow_20 : decode cX1_grow 20 = .ok (.ifnull 12, 3) := by decide +kernel
theorem dX1_grow_23 : decode cX1_grow 23 = .ok (.iload 4, 2) := by decide +kernel
theorem dX1_grow_25 : decode cX1_grow 25 = .ok (.aload_n 3, 1) := by decide +kernel
theorem dX1_grow_26 : decode cX1_grow 26 = .ok (.getfield 114, 3) := by decide +kernel
theorem dX1_grow_29 : decode cX1_grow 29 = .ok (.if_icmp .lt 13, 3) := by decide +kernel
theorem dX1_grow_32 : decode cX1_grow 32 = .ok (.new 69, 3) := by decide +kernel
theorem dX1_grow_35 : decode cX1_grow 35 = .ok (.dup, 1) := by decide +kernel
theorem dX1_grow_36 : decode cX1_grow 36 = .ok (.ldc 117, 2) := by decide +kernel
theorem dX1_grow_38 : decode cX1_grow 38 = .ok (.invokespecial 73, 3) := by decide +kernel
theorem dX1_grow_41 : decode cX1_grow 41 = .ok (.athrow, 1) := by decide +kernel
theorem dX1_grow_42 : decode cX1_grow 42 = .ok (.aload_n 2, 1) := by decide +kernel
theorem dX1_grow_43 : decode cX1_grow 43 = .ok (.getfield 101, 3) := by decide +kernel
theorem dX1_grow_46 : decode cX1_grow 46 = .ok (.iload 4, 2) := by decide +kernel
theorem dX1_grow_48 : decode cX1_grow 48 = .ok (.ineg, 1) := by decide +kernel
theorem dX1_grow_49 : decode cX1_grow 49 = .ok (.iand, 1) := by decide +kernel
theorem dX1_grow_50 : decode cX1_grow 50 = .ok (.istore 5, 2) := by decide +kernel
theorem dX1_grow_52 : decode cX1_grow 52 = .ok (.aload_n 0, 1) := by decide +kernel
theorem dX1_grow_53 : decode cX1_grow 53 = .ok (.aload_n 3, 1) := by decide +kernel
theorem dX1_grow_54 : decode cX1_grow 54 = .ok (.iload 5, 2) := by decide +kernel
theorem dX1_grow_56 : decode cX1_grow 56 = .ok (.iload 4, 2) := by decide +kernel
theorem dX1_grow_58 : decode cX1_grow 58 = .ok (.invokevirtual 88, 3) := by decide +kernel
theorem dX1_grow_61 : decode cX1_grow 61 = .ok (.iconst 1, 1) := by decide +kernel
theorem dX1_grow_62 : decode cX1_grow 62 = .ok (.if_icmp .le 13, 3) := by decide +kernel
theorem dX1_grow_65 : decode cX1_grow 65 = .ok (.new 69, 3) := by decide +kernel
theorem dX1_grow_68 : decode cX1_grow 68 = .ok (.dup, 1) := by decide +kernel
theorem dX1_grow_69 : decode cX1_grow 69 = .ok (.ldc 119, 2) := by decide +kernel
theorem dX1_grow_71 : decode cX1_grow 71 = .ok (.invokespecial 73, 3) := by decide +kernel
theorem dX1_grow_74 : decode cX1_grow 74 = .ok (.athrow, 1) := by decide +kernel
theorem dX1_grow_75 : decode cX1_grow 75 = .ok (.aload_n 2, 1) := by decide +kernel
theorem dX1_grow_76 : decode cX1_grow 76 = .ok (.iload 5, 2) := by decide +kernel
theorem dX1_grow_78 : decode cX1_grow 78 = .ok (.putfield 101, 3) := by decide +kernel
theorem dX1_grow_81 : decode cX1_grow 81 = .ok (.aload_n 2, 1) := by decide +kernel
theorem dX1_grow_82 : decode cX1_grow 82 = .ok (.iload 4, 2) := by decide +kernel
theorem dX1_grow_84 : decode cX1_grow 84 = .ok (.putfield 114, 3) := by decide +kernel
theorem dX1_grow_87 : decode cX1_grow 87 = .ok (.aload_n 0, 1) := by decide +kernel
theorem dX1_grow_88 : decode cX1_grow 88 = .ok (.iconst 0, 1) := by decide +kernel
theorem dX1_grow_89 : decode cX1_grow 89 = .ok (.putfield 39, 3) := by decide +kernel
theorem dX1_grow_92 : decode cX1_grow 92 = .ok (.iload 5, 2) := by decide +kernel
theorem dX1_grow_94 : decode cX1_grow 94 = .ok (.ireturn, 1) := by decide +kernel
theorem dX1_halve_0 : decode cX1_halve 0 = .ok (.aload_n 0, 1) := by decide +kernel
theorem dX1_halve_1 : decode cX1_halve 1 = .ok (.iload_n 1, 1) := by decide +kernel
theorem dX1_halve_2 : decode cX1_halve 2 = .ok (.invokevirtual 43, 3) := by decide +kernel
theorem dX1_halve_5 : decode cX1_halve 5 = .ok (.astore_n 2, 1) := by decide +kernel
theorem dX1_halve_6 : decode cX1_halve 6 = .ok (.aload_n 2, 1) := by decide +kernel
theorem dX1_halve_7 : decode cX1_halve 7 = .ok (.getfield 114, 3) := by decide +kernel
theorem dX1_halve_10 : decode cX1_halve 10 = .ok (.iconst 2, 1) := by decide +kernel
theorem dX1_halve_11 : decode cX1_halve 11 = .ok (.idiv, 1) := by decide +kernel
theorem dX1_halve_12 : decode cX1_halve 12 = .ok (.istore_n 3, 1) := by decide +kernel
theorem dX1_halve_13 : decode cX1_halve 13 = .ok (.aload_n 2, 1) := by decide +kernel
theorem dX1_halve_14 : decode cX1_halve 14 = .ok (.getfield 101, 3) := by decide +kernel
theorem dX1_halve_17 : decode cX1_halve 17 = .ok (.iload_n 3, 1) := by decide +kernel
theorem dX1_halve_18 : decode cX1_halve 18 = .ok (.iadd, 1) := by decide +kernel
theorem dX1_halve_19 : decode cX1_halve 19 = .ok (.istore 4, 2) := by decide +kernel
theorem dX1_halve_21 : decode cX1_halve 21 = .ok (.aload_n 2, 1) := by decide +kernel
theorem dX1_halve_22 : decode cX1_halve 22 = .ok (.getfield 94, 3) := by decide +kernel
theorem dX1_halve_25 : decode cX1_halve 25 = .ok (.ifnull 7, 3) := by decide +kernel
theorem dX1_halve_28 : decode cX1_halve 28 = .ok (.iload_n 3, 1) := by decide +kernel
theorem dX1_halve_29 : decode cX1_halve 29 = .ok (.ifCond .ne 13, 3) := by decide +kernel
theorem dX1_halve_32 : decode cX1_halve 32 = .ok (.new 69, 3) := by decide +kernel
theorem dX1_halve_35 : decode cX1_halve 35 = .ok (.dup, 1) := by decide +kernel
theorem dX1_halve_36 : decode cX1_halve 36 = .ok (.ldc 121, 2) := by decide +kernel
theorem dX1_halve_38 : decode cX1_halve 38 = .ok (.invokespecial 73, 3) := by decide +kernel
theorem dX1_halve_41 : decode cX1_halve 41 = .ok (.athrow, 1) := by decide +kernel
theorem dX1_halve_42 : decode cX1_halve 42 = .ok (.aload_n 0, 1) := by decide +kernel
theorem dX1_halve_43 : decode cX1_halve 43 = .ok (.aload_n 2, 1) := by decide +kernel
theorem dX1_halve_44 : decode cX1_halve 44 = .ok (.iload 4, 2) := by decide +kernel
theorem dX1_halve_46 : decode cX1_halve 46 = .ok (.iload_n 3, 1) := by decide +kernel
theorem dX1_halve_47 : decode cX1_halve 47 = .ok (.invokevirtual 88, 3) := by decide +kernel
theorem dX1_halve_50 : decode cX1_halve 50 = .ok (.ifCond .gt 16, 3) := by decide +kernel
theorem dX1_halve_53 : decode cX1_halve 53 = .ok (.aload_n 0, 1) := by decide +kernel
theorem dX1_halve_54 : decode cX1_halve 54 = .ok (.iload 4, 2) := by decide +kernel
theorem dX1_halve_56 : decode cX1_halve 56 = .ok (.aload_n 2, 1) := by decide +kernel
theorem dX1_halve_57 : decode cX1_halve 57 = .ok (.invokevirtual 104, 3) := by decide +kernel
theorem dX1_halve_60 : decode cX1_halve 60 = .ok (.invokevirtual 108, 3) := by decide +kernel
theorem dX1_halve_63 : decode cX1_halve 63 = .ok (.ifCond .le 13, 3) := by decide +kernel
theorem dX1_halve_66 : decode cX1_halve 66 = .ok (.new 69, 3) := by decide +kernel
theorem dX1_halve_69 : decode cX1_halve 69 = .ok (.dup, 1) := by decide +kernel
theorem dX1_halve_70 : decode cX1_halve 70 = .ok (.ldc 123, 2) := by decide +kernel
theorem dX1_halve_72 : decode cX1_halve 72 = .ok (.invokespecial 73, 3) := by decide +kernel
theorem dX1_halve_75 : decode cX1_halve 75 = .ok (.athrow, 1) := by decide +kernel
theorem dX1_halve_76 : decode cX1_halve 76 = .ok (.aload_n 2, 1) := by decide +kernel
theorem dX1_halve_77 : decode cX1_halve 77 = .ok (.iload_n 3, 1) := by decide +kernel
theorem dX1_halve_78 : decode cX1_halve 78 = .ok (.putfield 114, 3) := by decide +kernel
theorem dX1_halve_81 : decode cX1_halve 81 = .ok (.aload_n 0, 1) := by decide +kernel
theorem dX1_halve_82 : decode cX1_halve 82 = .ok (.iconst 0, 1) := by decide +kernel
theorem dX1_halve_83 : decode cX1_halve 83 = .ok (.putfield 39, 3) := by decide +kernel
theorem dX1_halve_86 : decode cX1_halve 86 = .ok (.iload_n 3, 1) := by decide +kernel
theorem dX1_halve_87 : decode cX1_halve 87 = .ok (.ireturn, 1) := by decide +kernel
theorem dX1_setOwner_0 : decode cX1_setOwner 0 = .ok (.aload_n 0, 1) := by decide +kernel
theorem dX1_setOwner_1 : decode cX1_setOwner 1 = .ok (.iload_n 1, 1) := by decide +kernel
theorem dX1_setOwner_2 : decode cX1_setOwner 2 = .ok (.invokevirtual 43, 3) := by decide +kernel
theorem dX1_setOwner_5 : decode cX1_setOwner 5 = .ok (.astore_n 3, 1) := by decide +kernel
theorem dX1_setOwner_6 : decode cX1_setOwner 6 = .ok (.iload_n 2, 1) := by decide +kernel
theorem dX1_setOwner_7 : decode cX1_setOwner 7 = .ok (.invokestatic 51, 3) := by decide +kernel
theorem dX1_setOwner_10 : decode cX1_setOwner 10 = .ok (.aload_n 3, 1) := by decide +kernel
theorem dX1_setOwner_11 : decode cX1_setOwner 11 = .ok (.getfield 125, 3) := by decide +kernel
theorem dX1_setOwner_14 : decode cX1_setOwner 14 = .ok (.istore 4, 2) := by decide +kernel
theorem dX1_setOwner_16 : decode cX1_setOwner 16 = .ok (.aload_n 3, 1) := by decide +kernel
theorem dX1_setOwner_17 : decode cX1_setOwner 17 = .ok (.iload_n 2, 1) := by decide +kernel
theorem dX1_setOwner_18 : decode cX1_setOwner 18 = .ok (.putfield 125, 3) := by decide +kernel
theorem dX1_setOwner_21 : decode cX1_setOwner 21 = .ok (.iload 4, 2) := by decide +kernel
theorem dX1_setOwner_23 : decode cX1_setOwner 23 = .ok (.ireturn, 1) := by decide +kernel
theorem dX1_lend_0 : decode cX1_lend 0 = .ok (.aload_n 0, 1) := by decide +kernel
theorem dX1_lend_1 : decode cX1_lend 1 = .ok (.iload_n 1, 1) := by decide +kernel
theorem dX1_lend_2 : decode cX1_lend 2 = .ok (.invokevirtual 43, 3) := by decide +kernel
theorem dX1_lend_5 : decode cX1_lend 5 = .ok (.astore_n 3, 1) := by decide +kernel
theorem dX1_lend_6 : decode cX1_lend 6 = .ok (.iload_n 2, 1) := by decide +kernel
theorem dX1_lend_7 : decode cX1_lend 7 = .ok (.ifCond .lt 9, 3) := by decide +kernel
theorem dX1_lend_10 : decode cX1_lend 10 = .ok (.iload_n 2, 1) := by decide +kernel
theorem dX1_lend_11 : decode cX1_lend 11 = .ok (.bipush 100, 2) := by decide +kernel
theorem dX1_lend_13 : decode cX1_lend 13 = .ok (.if_icmp .le 13, 3) := by decide +kernel
theorem dX1_lend_16 : decode cX1_lend 16 = .ok (.new 54, 3) := by decide +kernel
theorem dX1_lend_19 : decode cX1_lend 19 = .ok (.dup, 1) := by decide +kernel
theorem dX1_lend_20 : decode cX1_lend 20 = .ok (.ldc 128, 2) := by decide +kernel
theorem dX1_lend_22 : decode cX1_lend 22 = .ok (.invokespecial 58, 3) := by decide +kernel
theorem dX1_lend_25 : decode cX1_lend 25 = .ok (.athrow, 1) := by decide +kernel
theorem dX1_lend_26 : decode cX1_lend 26 = .ok (.aload_n 0, 1) := by decide +kernel
theorem dX1_lend_27 : decode cX1_lend 27 = .ok (.getfield 30, 3) := by decide +kernel
theorem dX1_lend_30 : decode cX1_lend 30 = .ok (.sipush 200, 3) := by decide +kernel
theorem dX1_lend_33 : decode cX1_lend 33 = .ok (.if_icmp .ge 11, 3) := by decide +kernel
theorem dX1_lend_36 : decode cX1_lend 36 = .ok (.aload_n 0, 1) := by decide +kernel
theorem dX1_lend_37 : decode cX1_lend 37 = .ok (.aload_n 3, 1) := by decide +kernel
theorem dX1_lend_38 : decode cX1_lend 38 = .ok (.invokevirtual 97, 3) := by decide +kernel
theorem dX1_lend_41 : decode cX1_lend 41 = .ok (.ifCond .eq 13, 3) := by decide +kernel
theorem dX1_lend_44 : decode cX1_lend 44 = .ok (.new 69, 3) := by decide +kernel
theorem dX1_lend_47 : decode cX1_lend 47 = .ok (.dup, 1) := by decide +kernel
theorem dX1_lend_48 : decode cX1_lend 48 = .ok (.ldc 130, 2) := by decide +kernel
theorem dX1_lend_50 : decode cX1_lend 50 = .ok (.invokespecial 73, 3) := by decide +kernel
theorem dX1_lend_53 : decode cX1_lend 53 = .ok (.athrow, 1) := by decide +kernel
theorem dX1_lend_54 : decode cX1_lend 54 = .ok (.aload_n 0, 1) := by decide +kernel
theorem dX1_lend_55 : decode cX1_lend 55 = .ok (.aload_n 3, 1) := by decide +kernel
theorem dX1_lend_56 : decode cX1_lend 56 = .ok (.invokevirtual 132, 3) := by decide +kernel
theorem dX1_lend_59 : decode cX1_lend 59 = .ok (.istore 4, 2) := by decide +kernel
theorem dX1_lend_61 : decode cX1_lend 61 = .ok (.iload 4, 2) := by decide +kernel
theorem dX1_lend_63 : decode cX1_lend 63 = .ok (.invokestatic 136, 3) := by decide +kernel
theorem dX1_lend_66 : decode cX1_lend 66 = .ok (.ifCond .ne 13, 3) := by decide +kernel
theorem dX1_lend_69 : decode cX1_lend 69 = .ok (.new 69, 3) := by decide +kernel
theorem dX1_lend_72 : decode cX1_lend 72 = .ok (.dup, 1) := by decide +kernel
theorem dX1_lend_73 : decode cX1_lend 73 = .ok (.ldc 139, 2) := by decide +kernel
theorem dX1_lend_75 : decode cX1_lend 75 = .ok (.invokespecial 73, 3) := by decide +kernel
theorem dX1_lend_78 : decode cX1_lend 78 = .ok (.athrow, 1) := by decide +kernel
theorem dX1_lend_79 : decode cX1_lend 79 = .ok (.aload_n 0, 1) := by decide +kernel
theorem dX1_lend_80 : decode cX1_lend 80 = .ok (.getfield 26, 3) := by decide +kernel
theorem dX1_lend_83 : decode cX1_lend 83 = .ok (.iload 4, 2) := by decide +kernel
theorem dX1_lend_85 : decode cX1_lend 85 = .ok (.iload_n 2, 1) := by decide +kernel
theorem dX1_lend_86 : decode cX1_lend 86 = .ok (.ifCond .ne 7, 3) := by decide +kernel
theorem dX1_lend_89 : decode cX1_lend 89 = .ok (.iconst (-1), 1) := by decide +kernel
theorem dX1_lend_90 : decode cX1_lend 90 = .ok (.goto 9, 3) := by decide +kernel
theorem dX1_lend_93 : decode cX1_lend 93 = .ok (.aload_n 0, 1) := by decide +kernel
theorem dX1_lend_94 : decode cX1_lend 94 = .ok (.getfield 33, 3) := by decide +kernel
theorem dX1_lend_97 : decode cX1_lend 97 = .ok (.iload_n 2, 1) := by decide +kernel
theorem dX1_lend_98 : decode cX1_lend 98 = .ok (.iadd, 1) := by decide +kernel
theorem dX1_lend_99 : decode cX1_lend 99 = .ok (.iastore, 1) := by decide +kernel
theorem dX1_lend_100 : decode cX1_lend 100 = .ok (.aload_n 0, 1) := by decide +kernel
theorem dX1_lend_101 : decode cX1_lend 101 = .ok (.dup, 1) := by decide +kernel
theorem dX1_lend_102 : decode cX1_lend 102 = .ok (.getfield 30, 3) := by decide +kernel
theorem dX1_lend_105 : decode cX1_lend 105 = .ok (.iconst 1, 1) := by decide +kernel
theorem dX1_lend_106 : decode cX1_lend 106 = .ok (.iadd, 1) := by decide +kernel
theorem dX1_lend_107 : decode cX1_lend 107 = .ok (.putfield 30, 3) := by decide +kernel
theorem dX1_lend_110 : decode cX1_lend 110 = .ok (.iload 4, 2) := by decide +kernel
theorem dX1_lend_112 : decode cX1_lend 112 = .ok (.ireturn, 1) := by decide +kernel
theorem dX1_takeBack_0 : decode cX1_takeBack 0 = .ok (.iload_n 1, 1) := by decide +kernel
theorem dX1_takeBack_1 : decode cX1_takeBack 1 = .ok (.invokestatic 141, 3) := by decide +kernel
theorem dX1_takeBack_4 : decode cX1_takeBack 4 = .ok (.aload_n 0, 1) := by decide +kernel
theorem dX1_takeBack_5 : decode cX1_takeBack 5 = .ok (.getfield 26, 3) := by decide +kernel
theorem dX1_takeBack_8 : decode cX1_takeBack 8 = .ok (.iload_n 1, 1) := by decide +kernel
theorem dX1_takeBack_9 : decode cX1_takeBack 9 = .ok (.iaload, 1) := by decide +kernel
theorem dX1_takeBack_10 : decode cX1_takeBack 10 = .ok (.istore_n 2, 1) := by decide +kernel
theorem dX1_takeBack_11 : decode cX1_takeBack 11 = .ok (.iload_n 2, 1) := by decide +kernel
theorem dX1_takeBack_12 : decode cX1_takeBack 12 = .ok (.ifCond .ne 13, 3) := by decide +kernel
theorem dX1_takeBack_15 : decode cX1_takeBack 15 = .ok (.new 69, 3) := by decide +kernel
theorem dX1_takeBack_18 : decode cX1_takeBack 18 = .ok (.dup, 1) := by decide +kernel
theorem dX1_takeBack_19 : decode cX1_takeBack 19 = .ok (.ldc 144, 2) := by decide +kernel
theorem dX1_takeBack_21 : decode cX1_takeBack 21 = .ok (.invokespecial 73, 3) := by decide +kernel
theorem dX1_takeBack_24 : decode cX1_takeBack 24 = .ok (.athrow, 1) := by decide +kernel
theorem dX1_takeBack_25 : decode cX1_takeBack 25 = .ok (.aload_n 0, 1) := by decide +kernel
theorem dX1_takeBack_26 : decode cX1_takeBack 26 = .ok (.getfield 26, 3) := by decide +kernel
theorem dX1_takeBack_29 : decode cX1_takeBack 29 = .ok (.iload_n 1, 1) := by decide +kernel
theorem dX1_takeBack_30 : decode cX1_takeBack 30 = .ok (.iconst 0, 1) := by decide +kernel
theorem dX1_takeBack_31 : decode cX1_takeBack 31 = .ok (.iastore, 1) := by decide +kernel
theorem dX1_takeBack_32 : decode cX1_takeBack 32 = .ok (.aload_n 0, 1) := by decide +kernel
theorem dX1_takeBack_33 : decode cX1_takeBack 33 = .ok (.dup, 1) := by decide +kernel
theorem dX1_takeBack_34 : decode cX1_takeBack 34 = .ok (.getfield 30, 3) := by decide +kernel
theorem dX1_takeBack_37 : decode cX1_takeBack 37 = .ok (.iconst 1, 1) := by decide +kernel
theorem dX1_takeBack_38 : decode cX1_takeBack 38 = .ok (.isub, 1) := by decide +kernel
theorem dX1_takeBack_39 : decode cX1_takeBack 39 = .ok (.putfield 30, 3) := by decide +kernel
theorem dX1_takeBack_42 : decode cX1_takeBack 42 = .ok (.iload_n 2, 1) := by decide +kernel
theorem dX1_takeBack_43 : decode cX1_takeBack 43 = .ok (.iconst (-1), 1) := by decide +kernel
theorem dX1_takeBack_44 : decode cX1_takeBack 44 = .ok (.if_icmp .ne 7, 3) := by decide +kernel
theorem dX1_takeBack_47 : decode cX1_takeBack 47 = .ok (.iconst 0, 1) := by decide +kernel
theorem dX1_takeBack_48 : decode cX1_takeBack 48 = .ok (.goto 9, 3) := by decide +kernel
theorem dX1_takeBack_51 : decode cX1_takeBack 51 = .ok (.iload_n 2, 1) := by decide +kernel
theorem dX1_takeBack_52 : decode cX1_takeBack 52 = .ok (.aload_n 0, 1) := by decide +kernel
theorem dX1_takeBack_53 : decode cX1_takeBack 53 = .ok (.getfield 33, 3) := by decide +kernel
theorem dX1_takeBack_56 : decode cX1_takeBack 56 = .ok (.isub, 1) := by decide +kernel
theorem dX1_takeBack_57 : decode cX1_takeBack 57 = .ok (.ireturn, 1) := by decide +kernel
theorem dX1_pass_0 : decode cX1_pass 0 = .ok (.iload_n 1, 1) := by decide +kernel
theorem dX1_pass_1 : decode cX1_pass 1 = .ok (.iconst 1, 1) := by decide +kernel
theorem dX1_pass_2 : decode cX1_pass 2 = .ok (.if_icmp .lt 10, 3) := by decide +kernel
theorem dX1_pass_5 : decode cX1_pass 5 = .ok (.iload_n 1, 1) := by decide +kernel
theorem dX1_pass_6 : decode cX1_pass 6 = .ok (.sipush 1000, 3) := by decide +kernel
theorem dX1_pass_9 : decode cX1_pass 9 = .ok (.if_icmp .le 13, 3) := by decide +kernel
theorem dX1_pass_12 : decode cX1_pass 12 = .ok (.new 54, 3) := by decide +kernel
theorem dX1_pass_15 : decode cX1_pass 15 = .ok (.dup, 1) := by decide +kernel
theorem dX1_pass_16 : decode cX1_pass 16 = .ok (.ldc 146, 2) := by decide +kernel
theorem dX1_pass_18 : decode cX1_pass 18 = .ok (.invokespecial 58, 3) := by decide +kernel
theorem dX1_pass_21 : decode cX1_pass 21 = .ok (.athrow, 1) := by decide +kernel
theorem dX1_pass_22 : decode cX1_pass 22 = .ok (.iload_n 1, 1) := by decide +kernel
theorem dX1_pass_23 : decode cX1_pass 23 = .ok (.ldc 148, 2) := by decide +kernel
theorem dX1_pass_25 : decode cX1_pass 25 = .ok (.aload_n 0, 1) := by decide +kernel
theorem dX1_pass_26 : decode cX1_pass 26 = .ok (.getfield 33, 3) := by decide +kernel
theorem dX1_pass_29 : decode cX1_pass 29 = .ok (.isub, 1) := by decide +kernel
theorem dX1_pass_30 : decode cX1_pass 30 = .ok (.if_icmp .le 13, 3) := by decide +kernel
theorem dX1_pass_33 : decode cX1_pass 33 = .ok (.new 69, 3) := by decide +kernel
theorem dX1_pass_36 : decode cX1_pass 36 = .ok (.dup, 1) := by decide +kernel
theorem dX1_pass_37 : decode cX1_pass 37 = .ok (.ldc 149, 2) := by decide +kernel
theorem dX1_pass_39 : decode cX1_pass 39 = .ok (.invokespecial 73, 3) := by decide +kernel
theorem dX1_pass_42 : decode cX1_pass 42 = .ok (.athrow, 1) := by decide +kernel
theorem dX1_pass_43 : decode cX1_pass 43 = .ok (.aload_n 0, 1) := by decide +kernel
theorem dX1_pass_44 : decode cX1_pass 44 = .ok (.dup, 1) := by decide +kernel
theorem dX1_pass_45 : decode cX1_pass 45 = .ok (.getfield 33, 3) := by decide +kernel
theorem dX1_pass_48 : decode cX1_pass 48 = .ok (.iload_n 1, 1) := by decide +kernel
theorem dX1_pass_49 : decode cX1_pass 49 = .ok (.iadd, 1) := by decide +kernel
theorem dX1_pass_50 : decode cX1_pass 50 = .ok (.putfield 33, 3) := by decide +kernel
theorem dX1_pass_53 : decode cX1_pass 53 = .ok (.iconst 0, 1) := by decide +kernel
theorem dX1_pass_54 : decode cX1_pass 54 = .ok (.istore_n 2, 1) := by decide +kernel
theorem dX1_pass_55 : decode cX1_pass 55 = .ok (.iconst 0, 1) := by decide +kernel
theorem dX1_pass_56 : decode cX1_pass 56 = .ok (.istore_n 3, 1) := by decide +kernel
theorem dX1_pass_57 : decode cX1_pass 57 = .ok (.iload_n 3, 1) := by decide +kernel
theorem dX1_pass_58 : decode cX1_pass 58 = .ok (.aload_n 0, 1) := by decide +kernel
theorem dX1_pass_59 : decode cX1_pass 59 = .ok (.getfield 26, 3) := by decide +kernel
theorem dX1_pass_62 : decode cX1_pass 62 = .ok (.arraylength, 1) := by decide +kernel
theorem dX1_pass_63 : decode cX1_pass 63 = .ok (.if_icmp .ge 47, 3) := by decide +kernel
theorem dX1_pass_66 : decode cX1_pass 66 = .ok (.aload_n 0, 1) := by decide +kernel
theorem dX1_pass_67 : decode cX1_pass 67 = .ok (.getfield 26, 3) := by decide +kernel
theorem dX1_pass_70 : decode cX1_pass 70 = .ok (.iload_n 3, 1) := by decide +kernel
theorem dX1_pass_71 : decode cX1_pass 71 = .ok (.iaload, 1) := by decide +kernel
theorem dX1_pass_72 : decode cX1_pass 72 = .ok (.istore 4, 2) := by decide +kernel
theorem dX1_pass_74 : decode cX1_pass 74 = .ok (.iload 4, 2) := by decide +kernel
theorem dX1_pass_76 : decode cX1_pass 76 = .ok (.ifCond .eq 28, 3) := by decide +kernel
theorem dX1_pass_79 : decode cX1_pass 79 = .ok (.iload 4, 2) := by decide +kernel
theorem dX1_pass_81 : decode cX1_pass 81 = .ok (.iconst (-1), 1) := by decide +kernel
theorem dX1_pass_82 : decode cX1_pass 82 = .ok (.if_icmp .eq 22, 3) := by decide +kernel
theorem dX1_pass_85 : decode cX1_pass 85 = .ok (.iload 4, 2) := by decide +kernel
theorem dX1_pass_87 : decode cX1_pass 87 = .ok (.aload_n 0, 1) := by decide +kernel
theorem dX1_pass_88 : decode cX1_pass 88 = .ok (.getfield 33, 3) := by decide +kernel
theorem dX1_pass_91 : decode cX1_pass 91 = .ok (.if_icmp .gt 13, 3) := by decide +kernel
theorem dX1_pass_94 : decode cX1_pass 94 = .ok (.aload_n 0, 1) := by decide +kernel
theorem dX1_pass_95 : decode cX1_pass 95 = .ok (.getfield 26, 3) := by decide +kernel
theorem dX1_pass_98 : decode cX1_pass 98 = .ok (.iload_n 3, 1) := by decide +kernel
theorem dX1_pass_99 : decode cX1_pass 99 = .ok (.iconst 0, 1) := by decide +kernel
theorem dX1_pass_100 : decode cX1_pass 100 = .ok (.iastore, 1) := by decide +kernel
theorem dX1_pass_101 : decode cX1_pass 101 = .ok (.iinc 2 1, 3) := by decide +kernel
theorem dX1_pass_104 : decode cX1_pass 104 = .ok (.iinc 3 1, 3) := by decide +kernel
theorem dX1_pass_107 : decode cX1_pass 107 = .ok (.goto (-50), 3) := by decide +kernel
theorem dX1_pass_110 : decode cX1_pass 110 = .ok (.aload_n 0, 1) := by decide +kernel
theorem dX1_pass_111 : decode cX1_pass 111 = .ok (.dup, 1) := by decide +kernel
theorem dX1_pass_112 : decode cX1_pass 112 = .ok (.getfield 30, 3) := by decide +kernel
theorem dX1_pass_115 : decode cX1_pass 115 = .ok (.iload_n 2, 1) := by decide +kernel
theorem dX1_pass_116 : decode cX1_pass 116 = .ok (.isub, 1) := by decide +kernel
theorem dX1_pass_117 : decode cX1_pass 117 = .ok (.putfield 30, 3) := by decide +kernel
theorem dX1_pass_120 : decode cX1_pass 120 = .ok (.iload_n 2, 1) := by decide +kernel
theorem dX1_pass_121 : decode cX1_pass 121 = .ok (.ireturn, 1) := by decide +kernel
theorem dX1_day_0 : decode cX1_day 0 = .ok (.aload_n 0, 1) := by decide +kernel
theorem dX1_day_1 : decode cX1_day 1 = .ok (.getfield 33, 3) := by decide +kernel
theorem dX1_day_4 : decode cX1_day 4 = .ok (.ireturn, 1) := by decide +kernel
theorem dX1_spans_0 : decode cX1_spans 0 = .ok (.iconst 0, 1) := by decide +kernel
theorem dX1_spans_1 : decode cX1_spans 1 = .ok (.istore_n 1, 1) := by decide +kernel
theorem dX1_spans_2 : decode cX1_spans 2 = .ok (.aload_n 0, 1) := by decide +kernel
theorem dX1_spans_3 : decode cX1_spans 3 = .ok (.getfield 18, 3) := by decide +kernel
theorem dX1_spans_6 : decode cX1_spans 6 = .ok (.astore_n 2, 1) := by decide +kernel
theorem dX1_spans_7 : decode cX1_spans 7 = .ok (.aload_n 2, 1) := by decide +kernel
theorem dX1_spans_8 : decode cX1_spans 8 = .ok (.arraylength, 1) := by decide +kernel
theorem dX1_spans_9 : decode cX1_spans 9 = .ok (.istore_n 3, 1) := by decide +kernel
theorem dX1_spans_10 : decode cX1_spans 10 = .ok (.iconst 0, 1) := by decide +kernel
theorem dX1_spans_11 : decode cX1_spans 11 = .ok (.istore 4, 2) := by decide +kernel
theorem dX1_spans_13 : decode cX1_spans 13 = .ok (.iload 4, 2) := by decide +kernel
theorem dX1_spans_15 : decode cX1_spans 15 = .ok (.iload_n 3, 1) := by decide +kernel
theorem dX1_spans_16 : decode cX1_spans 16 = .ok (.if_icmp .ge 23, 3) := by decide +kernel
theorem dX1_spans_19 : decode cX1_spans 19 = .ok (.aload_n 2, 1) := by decide +kernel
theorem dX1_spans_20 : decode cX1_spans 20 = .ok (.iload 4, 2) := by decide +kernel
theorem dX1_spans_22 : decode cX1_spans 22 = .ok (.aaload, 1) := by decide +kernel
theorem dX1_spans_23 : decode cX1_spans 23 = .ok (.astore 5, 2) := by decide +kernel
theorem dX1_spans_25 : decode cX1_spans 25 = .ok (.aload 5, 2) := by decide +kernel
theorem dX1_spans_27 : decode cX1_spans 27 = .ok (.ifnull 6, 3) := by decide +kernel
theorem dX1_spans_30 : decode cX1_spans 30 = .ok (.iinc 1 1, 3) := by decide +kernel
theorem dX1_spans_33 : decode cX1_spans 33 = .ok (.iinc 4 1, 3) := by decide +kernel
theorem dX1_spans_36 : decode cX1_spans 36 = .ok (.goto (-23), 3) := by decide +kernel
theorem dX1_spans_39 : decode cX1_spans 39 = .ok (.iload_n 1, 1) := by decide +kernel
theorem dX1_spans_40 : decode cX1_spans 40 = .ok (.ireturn, 1) := by decide +kernel
theorem dX1_isThere_0 : decode cX1_isThere 0 = .ok (.aload_n 0, 1) := by decide +kernel
theorem dX1_isThere_1 : decode cX1_isThere 1 = .ok (.iload_n 1, 1) := by decide +kernel
theorem dX1_isThere_2 : decode cX1_isThere 2 = .ok (.invokevirtual 151, 3) := by decide +kernel
theorem dX1_isThere_5 : decode cX1_isThere 5 = .ok (.ifnull 7, 3) := by decide +kernel
theorem dX1_isThere_8 : decode cX1_isThere 8 = .ok (.iconst 1, 1) := by decide +kernel
theorem dX1_isThere_9 : decode cX1_isThere 9 = .ok (.goto 4, 3) := by decide +kernel
theorem dX1_isThere_12 : decode cX1_isThere 12 = .ok (.iconst 0, 1) := by decide +kernel
theorem dX1_isThere_13 : decode cX1_isThere 13 = .ok (.ireturn, 1) := by decide +kernel
theorem dX1_base_0 : decode cX1_base 0 = .ok (.aload_n 0, 1) := by decide +kernel
theorem dX1_base_1 : decode cX1_base 1 = .ok (.iload_n 1, 1) := by decide +kernel
theorem dX1_base_2 : decode cX1_base 2 = .ok (.invokevirtual 43, 3) := by decide +kernel
theorem dX1_base_5 : decode cX1_base 5 = .ok (.getfield 101, 3) := by decide +kernel
theorem dX1_base_8 : decode cX1_base 8 = .ok (.ireturn, 1) := by decide +kernel
theorem dX1_size_0 : decode cX1_size 0 = .ok (.aload_n 0, 1) := by decide +kernel
theorem dX1_size_1 : decode cX1_size 1 = .ok (.iload_n 1, 1) := by decide +kernel
theorem dX1_size_2 : decode cX1_size 2 = .ok (.invokevirtual 43, 3) := by decide +kernel
theorem dX1_size_5 : decode cX1_size 5 = .ok (.getfield 114, 3) := by decide +kernel
theorem dX1_size_8 : decode cX1_size 8 = .ok (.ireturn, 1) := by decide +kernel
theorem dX1_parent_0 : decode cX1_parent 0 = .ok (.aload_n 0, 1) := by decide +kernel
theorem dX1_parent_1 : decode cX1_parent 1 = .ok (.iload_n 1, 1) := by decide +kernel
theorem dX1_parent_2 : decode cX1_parent 2 = .ok (.invokevirtual 43, 3) := by decide +kernel
theorem dX1_parent_5 : decode cX1_parent 5 = .ok (.getfield 94, 3) := by decide +kernel
theorem dX1_parent_8 : decode cX1_parent 8 = .ok (.astore_n 2, 1) := by decide +kernel
theorem dX1_parent_9 : decode cX1_parent 9 = .ok (.aload_n 2, 1) := by decide +kernel
theorem dX1_parent_10 : decode cX1_parent 10 = .ok (.ifnonnull 7, 3) := by decide +kernel
theorem dX1_parent_13 : decode cX1_parent 13 = .ok (.iconst (-1), 1) := by decide +kernel
theorem dX1_parent_14 : decode cX1_parent 14 = .ok (.goto 7, 3) := by decide +kernel
theorem dX1_parent_17 : decode cX1_parent 17 = .ok (.aload_n 2, 1) := by decide +kernel
theorem dX1_parent_18 : decode cX1_parent 18 = .ok (.getfield 154, 3) := by decide +kernel
theorem dX1_parent_21 : decode cX1_parent 21 = .ok (.ireturn, 1) := by decide +kernel
theorem dX1_free_0 : decode cX1_free 0 = .ok (.aload_n 0, 1) := by decide +kernel
theorem dX1_free_1 : decode cX1_free 1 = .ok (.iload_n 1, 1) := by decide +kernel
theorem dX1_free_2 : decode cX1_free 2 = .ok (.invokevirtual 43, 3) := by decide +kernel
theorem dX1_free_5 : decode cX1_free 5 = .ok (.astore_n 2, 1) := by decide +kernel
theorem dX1_free_6 : decode cX1_free 6 = .ok (.aload_n 0, 1) := by decide +kernel
theorem dX1_free_7 : decode cX1_free 7 = .ok (.aload_n 2, 1) := by decide +kernel
theorem dX1_free_8 : decode cX1_free 8 = .ok (.invokevirtual 157, 3) := by decide +kernel
theorem dX1_free_11 : decode cX1_free 11 = .ok (.aload_n 0, 1) := by decide +kernel
theorem dX1_free_12 : decode cX1_free 12 = .ok (.aload_n 2, 1) := by decide +kernel
theorem dX1_free_13 : decode cX1_free 13 = .ok (.invokevirtual 160, 3) := by decide +kernel
theorem dX1_free_16 : decode cX1_free 16 = .ok (.isub, 1) := by decide +kernel
theorem dX1_free_17 : decode cX1_free 17 = .ok (.ireturn, 1) := by decide +kernel
theorem dX1_greatestFree_0 : decode cX1_greatestFree 0 = .ok (.aload_n 0, 1) := by decide +kernel
theorem dX1_greatestFree_1 : decode cX1_greatestFree 1 = .ok (.iload_n 1, 1) := by decide +kernel
theorem dX1_greatestFree_2 : decode cX1_greatestFree 2 = .ok (.invokevirtual 43, 3) := by decide +kernel
theorem dX1_greatestFree_5 : decode cX1_greatestFree 5 = .ok (.astore_n 2, 1) := by decide +kernel
theorem dX1_greatestFree_6 : decode cX1_greatestFree 6 = .ok (.aload_n 0, 1) := by decide +kernel
theorem dX1_greatestFree_7 : decode cX1_greatestFree 7 = .ok (.aload_n 2, 1) := by decide +kernel
theorem dX1_greatestFree_8 : decode cX1_greatestFree 8 = .ok (.iconst 1, 1) := by decide +kernel
theorem dX1_greatestFree_9 : decode cX1_greatestFree 9 = .ok (.iconst 0, 1) := by decide +kernel
theorem dX1_greatestFree_10 : decode cX1_greatestFree 10 = .ok (.invokevirtual 65, 3) := by decide +kernel
theorem dX1_greatestFree_13 : decode cX1_greatestFree 13 = .ok (.istore_n 3, 1) := by decide +kernel
theorem dX1_greatestFree_14 : decode cX1_greatestFree 14 = .ok (.iload_n 3, 1) := by decide +kernel
theorem dX1_greatestFree_15 : decode cX1_greatestFree 15 = .ok (.iconst (-1), 1) := by decide +kernel
theorem dX1_greatestFree_16 : decode cX1_greatestFree 16 = .ok (.if_icmp .ne 5, 3) := by decide +kernel
theorem dX1_greatestFree_19 : decode cX1_greatestFree 19 = .ok (.iconst 0, 1) := by decide +kernel
theorem dX1_greatestFree_20 : decode cX1_greatestFree 20 = .ok (.ireturn, 1) := by decide +kernel
theorem dX1_greatestFree_21 : decode cX1_greatestFree 21 = .ok (.aload_n 0, 1) := by decide +kernel
theorem dX1_greatestFree_22 : decode cX1_greatestFree 22 = .ok (.aload_n 2, 1) := by decide +kernel
theorem dX1_greatestFree_23 : decode cX1_greatestFree 23 = .ok (.iload_n 3, 1) := by decide +kernel
theorem dX1_greatestFree_24 : decode cX1_greatestFree 24 = .ok (.invokevirtual 74, 3) := by decide +kernel
theorem dX1_greatestFree_27 : decode cX1_greatestFree 27 = .ok (.istore 4, 2) := by decide +kernel
theorem dX1_greatestFree_29 : decode cX1_greatestFree 29 = .ok (.iload 4, 2) := by decide +kernel
theorem dX1_greatestFree_31 : decode cX1_greatestFree 31 = .ok (.aload_n 2, 1) := by decide +kernel
theorem dX1_greatestFree_32 : decode cX1_greatestFree 32 = .ok (.getfield 114, 3) := by decide +kernel
theorem dX1_greatestFree_35 : decode cX1_greatestFree 35 = .ok (.if_icmp .ge 8, 3) := by decide +kernel
theorem dX1_greatestFree_38 : decode cX1_greatestFree 38 = .ok (.iload 4, 2) := by decide +kernel
theorem dX1_greatestFree_40 : decode cX1_greatestFree 40 = .ok (.goto 9, 3) := by decide +kernel
theorem dX1_greatestFree_43 : decode cX1_greatestFree 43 = .ok (.aload_n 2, 1) := by decide +kernel
theorem dX1_greatestFree_44 : decode cX1_greatestFree 44 = .ok (.getfield 114, 3) := by decide +kernel
theorem dX1_greatestFree_47 : decode cX1_greatestFree 47 = .ok (.iconst 2, 1) := by decide +kernel
theorem dX1_greatestFree_48 : decode cX1_greatestFree 48 = .ok (.idiv, 1) := by decide +kernel
theorem dX1_greatestFree_49 : decode cX1_greatestFree 49 = .ok (.ireturn, 1) := by decide +kernel
theorem dX1_inTheWay_0 : decode cX1_inTheWay 0 = .ok (.aload_n 0, 1) := by decide +kernel
theorem dX1_inTheWay_1 : decode cX1_inTheWay 1 = .ok (.iload_n 1, 1) := by decide +kernel
theorem dX1_inTheWay_2 : decode cX1_inTheWay 2 = .ok (.invokevirtual 43, 3) := by decide +kernel
theorem dX1_inTheWay_5 : decode cX1_inTheWay 5 = .ok (.astore_n 3, 1) := by decide +kernel
theorem dX1_inTheWay_6 : decode cX1_inTheWay 6 = .ok (.iload_n 2, 1) := by decide +kernel
theorem dX1_inTheWay_7 : decode cX1_inTheWay 7 = .ok (.invokestatic 47, 3) := by decide +kernel
theorem dX1_inTheWay_10 : decode cX1_inTheWay 10 = .ok (.iload_n 2, 1) := by decide +kernel
theorem dX1_inTheWay_11 : decode cX1_inTheWay 11 = .ok (.aload_n 3, 1) := by decide +kernel
theorem dX1_inTheWay_12 : decode cX1_inTheWay 12 = .ok (.getfield 114, 3) := by decide +kernel
theorem dX1_inTheWay_15 : decode cX1_inTheWay 15 = .ok (.if_icmp .lt 5, 3) := by decide +kernel
theorem dX1_inTheWay_18 : decode cX1_inTheWay 18 = .ok (.iconst (-1), 1) := by decide +kernel
theorem dX1_inTheWay_19 : decode cX1_inTheWay 19 = .ok (.ireturn, 1) := by decide +kernel
theorem dX1_inTheWay_20 : decode cX1_inTheWay 20 = .ok (.bipush 60, 2) := by decide +kernel
theorem dX1_inTheWay_22 : decode cX1_inTheWay 22 = .ok (.istore 4, 2) := by decide +kernel
theorem dX1_inTheWay_24 : decode cX1_inTheWay 24 = .ok (.aload_n 3, 1) := by decide +kernel
theorem dX1_inTheWay_25 : decode cX1_inTheWay 25 = .ok (.getfield 101, 3) := by decide +kernel
theorem dX1_inTheWay_28 : decode cX1_inTheWay 28 = .ok (.istore 5, 2) := by decide +kernel
theorem dX1_inTheWay_30 : decode cX1_inTheWay 30 = .ok (.iconst 0, 1) := by decide +kernel
theorem dX1_inTheWay_31 : decode cX1_inTheWay 31 = .ok (.istore 6, 2) := by decide +kernel
theorem dX1_inTheWay_33 : decode cX1_inTheWay 33 = .ok (.iload 6, 2) := by decide +kernel
theorem dX1_inTheWay_35 : decode cX1_inTheWay 35 = .ok (.sipush 4096, 3) := by decide +kernel
theorem dX1_inTheWay_38 : decode cX1_inTheWay 38 = .ok (.if_icmp .ge 75, 3) := by decide +kernel
theorem dX1_inTheWay_41 : decode cX1_inTheWay 41 = .ok (.iload 5, 2) := by decide +kernel
theorem dX1_inTheWay_43 : decode cX1_inTheWay 43 = .ok (.aload_n 3, 1) := by decide +kernel
theorem dX1_inTheWay_44 : decode cX1_inTheWay 44 = .ok (.invokevirtual 104, 3) := by decide +kernel
theorem dX1_inTheWay_47 : decode cX1_inTheWay 47 = .ok (.if_icmp .ge 66, 3) := by decide +kernel
theorem dX1_inTheWay_50 : decode cX1_inTheWay 50 = .ok (.iload 4, 2) := by decide +kernel
theorem dX1_inTheWay_52 : decode cX1_inTheWay 52 = .ok (.ifCond .le 61, 3) := by decide +kernel
theorem dX1_inTheWay_55 : decode cX1_inTheWay 55 = .ok (.iload 4, 2) := by decide +kernel
theorem dX1_inTheWay_57 : decode cX1_inTheWay 57 = .ok (.aload_n 0, 1) := by decide +kernel
theorem dX1_inTheWay_58 : decode cX1_inTheWay 58 = .ok (.aload_n 3, 1) := by decide +kernel
theorem dX1_inTheWay_59 : decode cX1_inTheWay 59 = .ok (.iload 5, 2) := by decide +kernel
theorem dX1_inTheWay_61 : decode cX1_inTheWay 61 = .ok (.iload_n 2, 1) := by decide +kernel
theorem dX1_inTheWay_62 : decode cX1_inTheWay 62 = .ok (.invokevirtual 88, 3) := by decide +kernel
theorem dX1_inTheWay_65 : decode cX1_inTheWay 65 = .ok (.invokestatic 163, 3) := by decide +kernel
theorem dX1_inTheWay_68 : decode cX1_inTheWay 68 = .ok (.istore 4, 2) := by decide +kernel
theorem dX1_inTheWay_70 : decode cX1_inTheWay 70 = .ok (.aload_n 0, 1) := by decide +kernel
theorem dX1_inTheWay_71 : decode cX1_inTheWay 71 = .ok (.aload_n 3, 1) := by decide +kernel
theorem dX1_inTheWay_72 : decode cX1_inTheWay 72 = .ok (.iload 5, 2) := by decide +kernel
theorem dX1_inTheWay_74 : decode cX1_inTheWay 74 = .ok (.invokevirtual 168, 3) := by decide +kernel
theorem dX1_inTheWay_77 : decode cX1_inTheWay 77 = .ok (.astore 7, 2) := by decide +kernel
theorem dX1_inTheWay_79 : decode cX1_inTheWay 79 = .ok (.aload 7, 2) := by decide +kernel
theorem dX1_inTheWay_81 : decode cX1_inTheWay 81 = .ok (.ifnull 20, 3) := by decide +kernel
theorem dX1_inTheWay_84 : decode cX1_inTheWay 84 = .ok (.aload 7, 2) := by decide +kernel
theorem dX1_inTheWay_86 : decode cX1_inTheWay 86 = .ok (.getfield 114, 3) := by decide +kernel
theorem dX1_inTheWay_89 : decode cX1_inTheWay 89 = .ok (.iload_n 2, 1) := by decide +kernel
theorem dX1_inTheWay_90 : decode cX1_inTheWay 90 = .ok (.if_icmp .le 11, 3) := by decide +kernel
theorem dX1_inTheWay_93 : decode cX1_inTheWay 93 = .ok (.aload 7, 2) := by decide +kernel
theorem dX1_inTheWay_95 : decode cX1_inTheWay 95 = .ok (.invokevirtual 104, 3) := by decide +kernel
theorem dX1_inTheWay_98 : decode cX1_inTheWay 98 = .ok (.goto 7, 3) := by decide +kernel
theorem dX1_inTheWay_101 : decode cX1_inTheWay 101 = .ok (.iload 5, 2) := by decide +kernel
theorem dX1_inTheWay_103 : decode cX1_inTheWay 103 = .ok (.iload_n 2, 1) := by decide +kernel
theorem dX1_inTheWay_104 : decode cX1_inTheWay 104 = .ok (.iadd, 1) := by decide +kernel
theorem dX1_inTheWay_105 : decode cX1_inTheWay 105 = .ok (.istore 5, 2) := by decide +kernel
theorem dX1_inTheWay_107 : decode cX1_inTheWay 107 = .ok (.iinc 6 1, 3) := by decide +kernel
theorem dX1_inTheWay_110 : decode cX1_inTheWay 110 = .ok (.goto (-77), 3) := by decide +kernel
theorem dX1_inTheWay_113 : decode cX1_inTheWay 113 = .ok (.iload 4, 2) := by decide +kernel
theorem dX1_inTheWay_115 : decode cX1_inTheWay 115 = .ok (.ireturn, 1) := by decide +kernel
theorem dX1_lent_0 : decode cX1_lent 0 = .ok (.aload_n 0, 1) := by decide +kernel
theorem dX1_lent_1 : decode cX1_lent 1 = .ok (.getfield 30, 3) := by decide +kernel
theorem dX1_lent_4 : decode cX1_lent 4 = .ok (.ireturn, 1) := by decide +kernel
theorem dX1_nearest_0 : decode cX1_nearest 0 = .ok (.iload_n 1, 1) := by decide +kernel
theorem dX1_nearest_1 : decode cX1_nearest 1 = .ok (.invokestatic 141, 3) := by decide +kernel
theorem dX1_nearest_4 : decode cX1_nearest 4 = .ok (.aload_n 0, 1) := by decide +kernel
theorem dX1_nearest_5 : decode cX1_nearest 5 = .ok (.getfield 14, 3) := by decide +kernel
theorem dX1_nearest_8 : decode cX1_nearest 8 = .ok (.astore_n 2, 1) := by decide +kernel
theorem dX1_nearest_9 : decode cX1_nearest 9 = .ok (.iconst 0, 1) := by decide +kernel
theorem dX1_nearest_10 : decode cX1_nearest 10 = .ok (.istore_n 3, 1) := by decide +kernel
theorem dX1_nearest_11 : decode cX1_nearest 11 = .ok (.iload_n 3, 1) := by decide +kernel
theorem dX1_nearest_12 : decode cX1_nearest 12 = .ok (.bipush 60, 2) := by decide +kernel
theorem dX1_nearest_14 : decode cX1_nearest 14 = .ok (.if_icmp .ge 30, 3) := by decide +kernel
theorem dX1_nearest_17 : decode cX1_nearest 17 = .ok (.aload_n 0, 1) := by decide +kernel
theorem dX1_nearest_18 : decode cX1_nearest 18 = .ok (.aload_n 2, 1) := by decide +kernel
theorem dX1_nearest_19 : decode cX1_nearest 19 = .ok (.iload_n 1, 1) := by decide +kernel
theorem dX1_nearest_20 : decode cX1_nearest 20 = .ok (.invokevirtual 168, 3) := by decide +kernel
theorem dX1_nearest_23 : decode cX1_nearest 23 = .ok (.astore 4, 2) := by decide +kernel
theorem dX1_nearest_25 : decode cX1_nearest 25 = .ok (.aload 4, 2) := by decide +kernel
theorem dX1_nearest_27 : decode cX1_nearest 27 = .ok (.ifnonnull 8, 3) := by decide +kernel
theorem dX1_nearest_30 : decode cX1_nearest 30 = .ok (.aload_n 2, 1) := by decide +kernel
theorem dX1_nearest_31 : decode cX1_nearest 31 = .ok (.getfield 154, 3) := by decide +kernel
theorem dX1_nearest_34 : decode cX1_nearest 34 = .ok (.ireturn, 1) := by decide +kernel
theorem dX1_nearest_35 : decode cX1_nearest 35 = .ok (.aload 4, 2) := by decide +kernel
theorem dX1_nearest_37 : decode cX1_nearest 37 = .ok (.astore_n 2, 1) := by decide +kernel
theorem dX1_nearest_38 : decode cX1_nearest 38 = .ok (.iinc 3 1, 3) := by decide +kernel
theorem dX1_nearest_41 : decode cX1_nearest 41 = .ok (.goto (-30), 3) := by decide +kernel
theorem dX1_nearest_44 : decode cX1_nearest 44 = .ok (.aload_n 2, 1) := by decide +kernel
theorem dX1_nearest_45 : decode cX1_nearest 45 = .ok (.getfield 154, 3) := by decide +kernel
theorem dX1_nearest_48 : decode cX1_nearest 48 = .ok (.ireturn, 1) := by decide +kernel
theorem dX1_nearestByRow_0 : decode cX1_nearestByRow 0 = .ok (.iload_n 1, 1) := by decide +kernel
theorem dX1_nearestByRow_1 : decode cX1_nearestByRow 1 = .ok (.invokestatic 141, 3) := by decide +kernel
theorem dX1_nearestByRow_4 : decode cX1_nearestByRow 4 = .ok (.aload_n 0, 1) := by decide +kernel
theorem dX1_nearestByRow_5 : decode cX1_nearestByRow 5 = .ok (.invokevirtual 172, 3) := by decide +kernel
theorem dX1_nearestByRow_8 : decode cX1_nearestByRow 8 = .ok (.aload_n 0, 1) := by decide +kernel
theorem dX1_nearestByRow_9 : decode cX1_nearestByRow 9 = .ok (.getfield 36, 3) := by decide +kernel
theorem dX1_nearestByRow_12 : decode cX1_nearestByRow 12 = .ok (.iload_n 1, 1) := by decide +kernel
theorem dX1_nearestByRow_13 : decode cX1_nearestByRow 13 = .ok (.iaload, 1) := by decide +kernel
theorem dX1_nearestByRow_14 : decode cX1_nearestByRow 14 = .ok (.ireturn, 1) := by decide +kernel
theorem dX1_owned_0 : decode cX1_owned 0 = .ok (.iload_n 1, 1) := by decide +kernel
theorem dX1_owned_1 : decode cX1_owned 1 = .ok (.invokestatic 51, 3) := by decide +kernel
theorem dX1_owned_4 : decode cX1_owned 4 = .ok (.iconst 0, 1) := by decide +kernel
theorem dX1_owned_5 : decode cX1_owned 5 = .ok (.istore_n 2, 1) := by decide +kernel
theorem dX1_owned_6 : decode cX1_owned 6 = .ok (.aload_n 0, 1) := by decide +kernel
theorem dX1_owned_7 : decode cX1_owned 7 = .ok (.getfield 18, 3) := by decide +kernel
theorem dX1_owned_10 : decode cX1_owned 10 = .ok (.astore_n 3, 1) := by decide +kernel
theorem dX1_owned_11 : decode cX1_owned 11 = .ok (.aload_n 3, 1) := by decide +kernel
theorem dX1_owned_12 : decode cX1_owned 12 = .ok (.arraylength, 1) := by decide +kernel
theorem dX1_owned_13 : decode cX1_owned 13 = .ok (.istore 4, 2) := by decide +kernel
theorem dX1_owned_15 : decode cX1_owned 15 = .ok (.iconst 0, 1) := by decide +kernel
theorem dX1_owned_16 : decode cX1_owned 16 = .ok (.istore 5, 2) := by decide +kernel
theorem dX1_owned_18 : decode cX1_owned 18 = .ok (.iload 5, 2) := by decide +kernel
theorem dX1_owned_20 : decode cX1_owned 20 = .ok (.iload 4, 2) := by decide +kernel
theorem dX1_owned_22 : decode cX1_owned 22 = .ok (.if_icmp .ge 38, 3) := by decide +kernel
theorem dX1_owned_25 : decode cX1_owned 25 = .ok (.aload_n 3, 1) := by decide +kernel
theorem dX1_owned_26 : decode cX1_owned 26 = .ok (.iload 5, 2) := by decide +kernel
theorem dX1_owned_28 : decode cX1_owned 28 = .ok (.aaload, 1) := by decide +kernel
theorem dX1_owned_29 : decode cX1_owned 29 = .ok (.astore 6, 2) := by decide +kernel
theorem dX1_owned_31 : decode cX1_owned 31 = .ok (.aload 6, 2) := by decide +kernel
theorem dX1_owned_33 : decode cX1_owned 33 = .ok (.ifnull 21, 3) := by decide +kernel
theorem dX1_owned_36 : decode cX1_owned 36 = .ok (.aload 6, 2) := by decide +kernel
theorem dX1_owned_38 : decode cX1_owned 38 = .ok (.getfield 125, 3) := by decide +kernel
theorem dX1_owned_41 : decode cX1_owned 41 = .ok (.iload_n 1, 1) := by decide +kernel
theorem dX1_owned_42 : decode cX1_owned 42 = .ok (.if_icmp .ne 12, 3) := by decide +kernel
theorem dX1_owned_45 : decode cX1_owned 45 = .ok (.iload_n 2, 1) := by decide +kernel
theorem dX1_owned_46 : decode cX1_owned 46 = .ok (.aload_n 0, 1) := by decide +kernel
theorem dX1_owned_47 : decode cX1_owned 47 = .ok (.aload 6, 2) := by decide +kernel
theorem dX1_owned_49 : decode cX1_owned 49 = .ok (.invokevirtual 157, 3) := by decide +kernel
theorem dX1_owned_52 : decode cX1_owned 52 = .ok (.iadd, 1) := by decide +kernel
theorem dX1_owned_53 : decode cX1_owned 53 = .ok (.istore_n 2, 1) := by decide +kernel
theorem dX1_owned_54 : decode cX1_owned 54 = .ok (.iinc 5 1, 3) := by decide +kernel
theorem dX1_owned_57 : decode cX1_owned 57 = .ok (.goto (-39), 3) := by decide +kernel
theorem dX1_owned_60 : decode cX1_owned 60 = .ok (.iload_n 2, 1) := by decide +kernel
theorem dX1_owned_61 : decode cX1_owned 61 = .ok (.ireturn, 1) := by decide +kernel
theorem dX1_blocks_0 : decode cX1_blocks 0 = .ok (.iload_n 1, 1) := by decide +kernel
theorem dX1_blocks_1 : decode cX1_blocks 1 = .ok (.invokestatic 51, 3) := by decide +kernel
theorem dX1_blocks_4 : decode cX1_blocks 4 = .ok (.aload_n 0, 1) := by decide +kernel
theorem dX1_blocks_5 : decode cX1_blocks 5 = .ok (.invokevirtual 172, 3) := by decide +kernel
theorem dX1_blocks_8 : decode cX1_blocks 8 = .ok (.iconst 0, 1) := by decide +kernel
theorem dX1_blocks_9 : decode cX1_blocks 9 = .ok (.istore_n 2, 1) := by decide +kernel
theorem dX1_blocks_10 : decode cX1_blocks 10 = .ok (.iconst 0, 1) := by decide +kernel
theorem dX1_blocks_11 : decode cX1_blocks 11 = .ok (.istore_n 3, 1) := by decide +kernel
theorem dX1_blocks_12 : decode cX1_blocks 12 = .ok (.iconst 0, 1) := by decide +kernel
theorem dX1_blocks_13 : decode cX1_blocks 13 = .ok (.istore 4, 2) := by decide +kernel
theorem dX1_blocks_15 : decode cX1_blocks 15 = .ok (.iload 4, 2) := by decide +kernel
theorem dX1_blocks_17 : decode cX1_blocks 17 = .ok (.aload_n 0, 1) := by decide +kernel
theorem dX1_blocks_18 : decode cX1_blocks 18 = .ok (.getfield 36, 3) := by decide +kernel
theorem dX1_blocks_21 : decode cX1_blocks 21 = .ok (.arraylength, 1) := by decide +kernel
theorem dX1_blocks_22 : decode cX1_blocks 22 = .ok (.if_icmp .ge 50, 3) := by decide +kernel
theorem dX1_blocks_25 : decode cX1_blocks 25 = .ok (.aload_n 0, 1) := by decide +kernel
theorem dX1_blocks_26 : decode cX1_blocks 26 = .ok (.aload_n 0, 1) := by decide +kernel
theorem dX1_blocks_27 : decode cX1_blocks 27 = .ok (.getfield 36, 3) := by decide +kernel
theorem dX1_blocks_30 : decode cX1_blocks 30 = .ok (.iload 4, 2) := by decide +kernel
theorem dX1_blocks_32 : decode cX1_blocks 32 = .ok (.iaload, 1) := by decide +kernel
theorem dX1_blocks_33 : decode cX1_blocks 33 = .ok (.invokevirtual 151, 3) := by decide +kernel
theorem dX1_blocks_36 : decode cX1_blocks 36 = .ok (.astore 5, 2) := by decide +kernel
theorem dX1_blocks_38 : decode cX1_blocks 38 = .ok (.aload 5, 2) := by decide +kernel
theorem dX1_blocks_40 : decode cX1_blocks 40 = .ok (.ifnull 12, 3) := by decide +kernel
theorem dX1_blocks_43 : decode cX1_blocks 43 = .ok (.aload 5, 2) := by decide +kernel
theorem dX1_blocks_45 : decode cX1_blocks 45 = .ok (.getfield 125, 3) := by decide +kernel
theorem dX1_blocks_48 : decode cX1_blocks 48 = .ok (.iload_n 1, 1) := by decide +kernel
theorem dX1_blocks_49 : decode cX1_blocks 49 = .ok (.if_icmp .eq 17, 3) := by decide +kernel
theorem dX1_blocks_52 : decode cX1_blocks 52 = .ok (.iload_n 2, 1) := by decide +kernel
theorem dX1_blocks_53 : decode cX1_blocks 53 = .ok (.iload_n 3, 1) := by decide +kernel
theorem dX1_blocks_54 : decode cX1_blocks 54 = .ok (.iload 4, 2) := by decide +kernel
theorem dX1_blocks_56 : decode cX1_blocks 56 = .ok (.invokestatic 175, 3) := by decide +kernel
theorem dX1_blocks_59 : decode cX1_blocks 59 = .ok (.iadd, 1) := by decide +kernel
theorem dX1_blocks_60 : decode cX1_blocks 60 = .ok (.istore_n 2, 1) := by decide +kernel
theorem dX1_blocks_61 : decode cX1_blocks 61 = .ok (.iload 4, 2) := by decide +kernel
theorem dX1_blocks_63 : decode cX1_blocks 63 = .ok (.iconst 1, 1) := by decide +kernel
theorem dX1_blocks_64 : decode cX1_blocks 64 = .ok (.iadd, 1) := by decide +kernel
theorem dX1_blocks_65 : decode cX1_blocks 65 = .ok (.istore_n 3, 1) := by decide +kernel
theorem dX1_blocks_66 : decode cX1_blocks 66 = .ok (.iinc 4 1, 3) := by decide +kernel
theorem dX1_blocks_69 : decode cX1_blocks 69 = .ok (.goto (-54), 3) := by decide +kernel
theorem dX1_blocks_72 : decode cX1_blocks 72 = .ok (.iload_n 2, 1) := by decide +kernel
theorem dX1_blocks_73 : decode cX1_blocks 73 = .ok (.iload_n 3, 1) := by decide +kernel
theorem dX1_blocks_74 : decode cX1_blocks 74 = .ok (.aload_n 0, 1) := by decide +kernel
theorem dX1_blocks_75 : decode cX1_blocks 75 = .ok (.getfield 36, 3) := by decide +kernel
theorem dX1_blocks_78 : decode cX1_blocks 78 = .ok (.arraylength, 1) := by decide +kernel
theorem dX1_blocks_79 : decode cX1_blocks 79 = .ok (.invokestatic 175, 3) := by decide +kernel
theorem dX1_blocks_82 : decode cX1_blocks 82 = .ok (.iadd, 1) := by decide +kernel
theorem dX1_blocks_83 : decode cX1_blocks 83 = .ok (.ireturn, 1) := by decide +kernel
theorem dX1_findSpan_0 : decode cX1_findSpan 0 = .ok (.iload_n 1, 1) := by decide +kernel
theorem dX1_findSpan_1 : decode cX1_findSpan 1 = .ok (.ifCond .lt 12, 3) := by decide +kernel
theorem dX1_findSpan_4 : decode cX1_findSpan 4 = .ok (.iload_n 1, 1) := by decide +kernel
theorem dX1_findSpan_5 : decode cX1_findSpan 5 = .ok (.aload_n 0, 1) := by decide +kernel
theorem dX1_findSpan_6 : decode cX1_findSpan 6 = .ok (.getfield 18, 3) := by decide +kernel
theorem dX1_findSpan_9 : decode cX1_findSpan 9 = .ok (.arraylength, 1) := by decide +kernel
theorem dX1_findSpan_10 : decode cX1_findSpan 10 = .ok (.if_icmp .lt 7, 3) := by decide +kernel
theorem dX1_findSpan_13 : decode cX1_findSpan 13 = .ok (.aconst_null, 1) := by decide +kernel
theorem dX1_findSpan_14 : decode cX1_findSpan 14 = .ok (.goto 9, 3) := by decide +kernel
theorem dX1_findSpan_17 : decode cX1_findSpan 17 = .ok (.aload_n 0, 1) := by decide +kernel
theorem dX1_findSpan_18 : decode cX1_findSpan 18 = .ok (.getfield 18, 3) := by decide +kernel
theorem dX1_findSpan_21 : decode cX1_findSpan 21 = .ok (.iload_n 1, 1) := by decide +kernel
theorem dX1_findSpan_22 : decode cX1_findSpan 22 = .ok (.aaload, 1) := by decide +kernel
theorem dX1_findSpan_23 : decode cX1_findSpan 23 = .ok (.areturn, 1) := by decide +kernel
theorem dX1_spanOf_0 : decode cX1_spanOf 0 = .ok (.aload_n 0, 1) := by decide +kernel
theorem dX1_spanOf_1 : decode cX1_spanOf 1 = .ok (.iload_n 1, 1) := by decide +kernel
theorem dX1_spanOf_2 : decode cX1_spanOf 2 = .ok (.invokevirtual 151, 3) := by decide +kernel
theorem dX1_spanOf_5 : decode cX1_spanOf 5 = .ok (.astore_n 2, 1) := by decide +kernel
theorem dX1_spanOf_6 : decode cX1_spanOf 6 = .ok (.aload_n 2, 1) := by decide +kernel
theorem dX1_spanOf_7 : decode cX1_spanOf 7 = .ok (.ifnonnull 13, 3) := by decide +kernel
theorem dX1_spanOf_10 : decode cX1_spanOf 10 = .ok (.new 178, 3) := by decide +kernel
theorem dX1_spanOf_13 : decode cX1_spanOf 13 = .ok (.dup, 1) := by decide +kernel
theorem dX1_spanOf_14 : decode cX1_spanOf 14 = .ok (.ldc 180, 2) := by decide +kernel
theorem dX1_spanOf_16 : decode cX1_spanOf 16 = .ok (.invokespecial 182, 3) := by decide +kernel
theorem dX1_spanOf_19 : decode cX1_spanOf 19 = .ok (.athrow, 1) := by decide +kernel
theorem dX1_spanOf_20 : decode cX1_spanOf 20 = .ok (.aload_n 2, 1) := by decide +kernel
theorem dX1_spanOf_21 : decode cX1_spanOf 21 = .ok (.areturn, 1) := by decide +kernel
theorem dX1_isAddress_0 : decode cX1_isAddress 0 = .ok (.iload_n 0, 1) := by decide +kernel
theorem dX1_isAddress_1 : decode cX1_isAddress 1 = .ok (.ifCond .lt 14, 3) := by decide +kernel
theorem dX1_isAddress_4 : decode cX1_isAddress 4 = .ok (.iload_n 0, 1) := by decide +kernel
theorem dX1_isAddress_5 : decode cX1_isAddress 5 = .ok (.sipush 4096, 3) := by decide +kernel
theorem dX1_isAddress_8 : decode cX1_isAddress 8 = .ok (.if_icmp .ge 7, 3) := by decide +kernel
theorem dX1_isAddress_11 : decode cX1_isAddress 11 = .ok (.iconst 1, 1) := by decide +kernel
theorem dX1_isAddress_12 : decode cX1_isAddress 12 = .ok (.goto 4, 3) := by decide +kernel
theorem dX1_isAddress_15 : decode cX1_isAddress 15 = .ok (.iconst 0, 1) := by decide +kernel
theorem dX1_isAddress_16 : decode cX1_isAddress 16 = .ok (.ireturn, 1) := by decide +kernel
theorem dX1_checkAddress_0 : decode cX1_checkAddress 0 = .ok (.iload_n 0, 1) := by decide +kernel
theorem dX1_checkAddress_1 : decode cX1_checkAddress 1 = .ok (.invokestatic 136, 3) := by decide +kernel
theorem dX1_checkAddress_4 : decode cX1_checkAddress 4 = .ok (.ifCond .ne 13, 3) := by decide +kernel
theorem dX1_checkAddress_7 : decode cX1_checkAddress 7 = .ok (.new 178, 3) := by decide +kernel
theorem dX1_checkAddress_10 : decode cX1_checkAddress 10 = .ok (.dup, 1) := by decide +kernel
theorem dX1_checkAddress_11 : decode cX1_checkAddress 11 = .ok (.ldc 183, 2) := by decide +kernel
theorem dX1_checkAddress_13 : decode cX1_checkAddress 13 = .ok (.invokespecial 182, 3) := by decide +kernel
theorem dX1_checkAddress_16 : decode cX1_checkAddress 16 = .ok (.athrow, 1) := by decide +kernel
theorem dX1_checkAddress_17 : decode cX1_checkAddress 17 = .ok (.return_, 1) := by decide +kernel
theorem dX1_checkSize_0 : decode cX1_checkSize 0 = .ok (.iload_n 0, 1) := by decide +kernel
theorem dX1_checkSize_1 : decode cX1_checkSize 1 = .ok (.iconst 1, 1) := by decide +kernel
theorem dX1_checkSize_2 : decode cX1_checkSize 2 = .ok (.if_icmp .lt 18, 3) := by decide +kernel
theorem dX1_checkSize_5 : decode cX1_checkSize 5 = .ok (.iload_n 0, 1) := by decide +kernel
theorem dX1_checkSize_6 : decode cX1_checkSize 6 = .ok (.sipush 2048, 3) := by decide +kernel
theorem dX1_checkSize_9 : decode cX1_checkSize 9 = .ok (.if_icmp .gt 11, 3) := by decide +kernel
theorem dX1_checkSize_12 : decode cX1_checkSize 12 = .ok (.iload_n 0, 1) := by decide +kernel
theorem dX1_checkSize_13 : decode cX1_checkSize 13 = .ok (.iload_n 0, 1) := by decide +kernel
theorem dX1_checkSize_14 : decode cX1_checkSize 14 = .ok (.iconst 1, 1) := by decide +kernel
theorem dX1_checkSize_15 : decode cX1_checkSize 15 = .ok (.isub, 1) := by decide +kernel
theorem dX1_checkSize_16 : decode cX1_checkSize 16 = .ok (.iand, 1) := by decide +kernel
theorem dX1_checkSize_17 : decode cX1_checkSize 17 = .ok (.ifCond .eq 13, 3) := by decide +kernel
theorem dX1_checkSize_20 : decode cX1_checkSize 20 = .ok (.new 54, 3) := by decide +kernel
theorem dX1_checkSize_23 : decode cX1_checkSize 23 = .ok (.dup, 1) := by decide +kernel
theorem dX1_checkSize_24 : decode cX1_checkSize 24 = .ok (.ldc 185, 2) := by decide +kernel
theorem dX1_checkSize_26 : decode cX1_checkSize 26 = .ok (.invokespecial 58, 3) := by decide +kernel
theorem dX1_checkSize_29 : decode cX1_checkSize 29 = .ok (.athrow, 1) := by decide +kernel
theorem dX1_checkSize_30 : decode cX1_checkSize 30 = .ok (.return_, 1) := by decide +kernel
theorem dX1_checkOwner_0 : decode cX1_checkOwner 0 = .ok (.iload_n 0, 1) := by decide +kernel
theorem dX1_checkOwner_1 : decode cX1_checkOwner 1 = .ok (.ifCond .lt 9, 3) := by decide +kernel
theorem dX1_checkOwner_4 : decode cX1_checkOwner 4 = .ok (.iload_n 0, 1) := by decide +kernel
theorem dX1_checkOwner_5 : decode cX1_checkOwner 5 = .ok (.bipush 8, 2) := by decide +kernel
theorem dX1_checkOwner_7 : decode cX1_checkOwner 7 = .ok (.if_icmp .lt 13, 3) := by decide +kernel
theorem dX1_checkOwner_10 : decode cX1_checkOwner 10 = .ok (.new 54, 3) := by decide +kernel
theorem dX1_checkOwner_13 : decode cX1_checkOwner 13 = .ok (.dup, 1) := by decide +kernel
theorem dX1_checkOwner_14 : decode cX1_checkOwner 14 = .ok (.ldc 187, 2) := by decide +kernel
theorem dX1_checkOwner_16 : decode cX1_checkOwner 16 = .ok (.invokespecial 58, 3) := by decide +kernel
theorem dX1_checkOwner_19 : decode cX1_checkOwner 19 = .ok (.athrow, 1) := by decide +kernel
theorem dX1_checkOwner_20 : decode cX1_checkOwner 20 = .ok (.return_, 1) := by decide +kernel
theorem dX1_checkCarving_0 : decode cX1_checkCarving 0 = .ok (.aload_n 0, 1) := by decide +kernel
theorem dX1_checkCarving_1 : decode cX1_checkCarving 1 = .ok (.getfield 22, 3) := by decide +kernel
theorem dX1_checkCarving_4 : decode cX1_checkCarving 4 = .ok (.bipush 60, 2) := by decide +kernel
theorem dX1_checkCarving_6 : decode cX1_checkCarving 6 = .ok (.if_icmp .ge 19, 3) := by decide +kernel
theorem dX1_checkCarving_9 : decode cX1_checkCarving 9 = .ok (.iload_n 2, 1) := by decide +kernel
theorem dX1_checkCarving_10 : decode cX1_checkCarving 10 = .ok (.aload_n 1, 1) := by decide +kernel
theorem dX1_checkCarving_11 : decode cX1_checkCarving 11 = .ok (.getfield 114, 3) := by decide +kernel
theorem dX1_checkCarving_14 : decode cX1_checkCarving 14 = .ok (.if_icmp .ge 11, 3) := by decide +kernel
theorem dX1_checkCarving_17 : decode cX1_checkCarving 17 = .ok (.aload_n 0, 1) := by decide +kernel
theorem dX1_checkCarving_18 : decode cX1_checkCarving 18 = .ok (.aload_n 1, 1) := by decide +kernel
theorem dX1_checkCarving_19 : decode cX1_checkCarving 19 = .ok (.invokevirtual 160, 3) := by decide +kernel
theorem dX1_checkCarving_22 : decode cX1_checkCarving 22 = .ok (.ifCond .le 13, 3) := by decide +kernel
theorem dX1_checkCarving_25 : decode cX1_checkCarving 25 = .ok (.new 69, 3) := by decide +kernel
theorem dX1_checkCarving_28 : decode cX1_checkCarving 28 = .ok (.dup, 1) := by decide +kernel
theorem dX1_checkCarving_29 : decode cX1_checkCarving 29 = .ok (.ldc 189, 2) := by decide +kernel
theorem dX1_checkCarving_31 : decode cX1_checkCarving 31 = .ok (.invokespecial 73, 3) := by decide +kernel
theorem dX1_checkCarving_34 : decode cX1_checkCarving 34 = .ok (.athrow, 1) := by decide +kernel
theorem dX1_checkCarving_35 : decode cX1_checkCarving 35 = .ok (.return_, 1) := by decide +kernel
theorem dX1_makeSpan_0 : decode cX1_makeSpan 0 = .ok (.aload_n 0, 1) := by decide +kernel
theorem dX1_makeSpan_1 : decode cX1_makeSpan 1 = .ok (.getfield 22, 3) := by decide +kernel
theorem dX1_makeSpan_4 : decode cX1_makeSpan 4 = .ok (.istore 5, 2) := by decide +kernel
theorem dX1_makeSpan_6 : decode cX1_makeSpan 6 = .ok (.iload 5, 2) := by decide +kernel
theorem dX1_makeSpan_8 : decode cX1_makeSpan 8 = .ok (.aload_n 0, 1) := by decide +kernel
theorem dX1_makeSpan_9 : decode cX1_makeSpan 9 = .ok (.getfield 18, 3) := by decide +kernel
theorem dX1_makeSpan_12 : decode cX1_makeSpan 12 = .ok (.arraylength, 1) := by decide +kernel
theorem dX1_makeSpan_13 : decode cX1_makeSpan 13 = .ok (.if_icmp .lt 13, 3) := by decide +kernel
theorem dX1_makeSpan_16 : decode cX1_makeSpan 16 = .ok (.new 69, 3) := by decide +kernel
theorem dX1_makeSpan_19 : decode cX1_makeSpan 19 = .ok (.dup, 1) := by decide +kernel
theorem dX1_makeSpan_20 : decode cX1_makeSpan 20 = .ok (.ldc 191, 2) := by decide +kernel
theorem dX1_makeSpan_22 : decode cX1_makeSpan 22 = .ok (.invokespecial 73, 3) := by decide +kernel
theorem dX1_makeSpan_25 : decode cX1_makeSpan 25 = .ok (.athrow, 1) := by decide +kernel
theorem dX1_makeSpan_26 : decode cX1_makeSpan 26 = .ok (.aload_n 0, 1) := by decide +kernel
theorem dX1_makeSpan_27 : decode cX1_makeSpan 27 = .ok (.getfield 18, 3) := by decide +kernel
theorem dX1_makeSpan_30 : decode cX1_makeSpan 30 = .ok (.iload 5, 2) := by decide +kernel
theorem dX1_makeSpan_32 : decode cX1_makeSpan 32 = .ok (.new 7, 3) := by decide +kernel
theorem dX1_makeSpan_35 : decode cX1_makeSpan 35 = .ok (.dup, 1) := by decide +kernel
theorem dX1_makeSpan_36 : decode cX1_makeSpan 36 = .ok (.iload 5, 2) := by decide +kernel
theorem dX1_makeSpan_38 : decode cX1_makeSpan 38 = .ok (.aload_n 1, 1) := by decide +kernel
theorem dX1_makeSpan_39 : decode cX1_makeSpan 39 = .ok (.iload_n 2, 1) := by decide +kernel
theorem dX1_makeSpan_40 : decode cX1_makeSpan 40 = .ok (.iload_n 3, 1) := by decide +kernel
theorem dX1_makeSpan_41 : decode cX1_makeSpan 41 = .ok (.iload 4, 2) := by decide +kernel
theorem dX1_makeSpan_43 : decode cX1_makeSpan 43 = .ok (.invokespecial 11, 3) := by decide +kernel
theorem dX1_makeSpan_46 : decode cX1_makeSpan 46 = .ok (.aastore, 1) := by decide +kernel
theorem dX1_makeSpan_47 : decode cX1_makeSpan 47 = .ok (.aload_n 0, 1) := by decide +kernel
theorem dX1_makeSpan_48 : decode cX1_makeSpan 48 = .ok (.dup, 1) := by decide +kernel
theorem dX1_makeSpan_49 : decode cX1_makeSpan 49 = .ok (.getfield 22, 3) := by decide +kernel
theorem dX1_makeSpan_52 : decode cX1_makeSpan 52 = .ok (.iconst 1, 1) := by decide +kernel
theorem dX1_makeSpan_53 : decode cX1_makeSpan 53 = .ok (.iadd, 1) := by decide +kernel
theorem dX1_makeSpan_54 : decode cX1_makeSpan 54 = .ok (.putfield 22, 3) := by decide +kernel
theorem dX1_makeSpan_57 : decode cX1_makeSpan 57 = .ok (.aload_n 0, 1) := by decide +kernel
theorem dX1_makeSpan_58 : decode cX1_makeSpan 58 = .ok (.iconst 0, 1) := by decide +kernel
theorem dX1_makeSpan_59 : decode cX1_makeSpan 59 = .ok (.putfield 39, 3) := by decide +kernel
theorem dX1_makeSpan_62 : decode cX1_makeSpan 62 = .ok (.iload 5, 2) := by decide +kernel
theorem dX1_makeSpan_64 : decode cX1_makeSpan 64 = .ok (.ireturn, 1) := by decide +kernel
theorem dX1_childAt_0 : decode cX1_childAt 0 = .ok (.aload_n 0, 1) := by decide +kernel
theorem dX1_childAt_1 : decode cX1_childAt 1 = .ok (.getfield 18, 3) := by decide +kernel
theorem dX1_childAt_4 : decode cX1_childAt 4 = .ok (.astore_n 3, 1) := by decide +kernel
theorem dX1_childAt_5 : decode cX1_childAt 5 = .ok (.aload_n 3, 1) := by decide +kernel
theorem dX1_childAt_6 : decode cX1_childAt 6 = .ok (.arraylength, 1) := by decide +kernel
theorem dX1_childAt_7 : decode cX1_childAt 7 = .ok (.istore 4, 2) := by decide +kernel
theorem dX1_childAt_9 : decode cX1_childAt 9 = .ok (.iconst 0, 1) := by decide +kernel
theorem dX1_childAt_10 : decode cX1_childAt 10 = .ok (.istore 5, 2) := by decide +kernel
theorem dX1_childAt_12 : decode cX1_childAt 12 = .ok (.iload 5, 2) := by decide +kernel
theorem dX1_childAt_14 : decode cX1_childAt 14 = .ok (.iload 4, 2) := by decide +kernel
theorem dX1_childAt_16 : decode cX1_childAt 16 = .ok (.if_icmp .ge 41, 3) := by decide +kernel
theorem dX1_childAt_19 : decode cX1_childAt 19 = .ok (.aload_n 3, 1) := by decide +kernel
theorem dX1_childAt_20 : decode cX1_childAt 20 = .ok (.iload 5, 2) := by decide +kernel
theorem dX1_childAt_22 : decode cX1_childAt 22 = .ok (.aaload, 1) := by decide +kernel
theorem dX1_childAt_23 : decode cX1_childAt 23 = .ok (.astore 6, 2) := by decide +kernel
theorem dX1_childAt_25 : decode cX1_childAt 25 = .ok (.aload 6, 2) := by decide +kernel
theorem dX1_childAt_27 : decode cX1_childAt 27 = .ok (.ifnull 24, 3) := by decide +kernel
theorem dX1_childAt_30 : decode cX1_childAt 30 = .ok (.aload 6, 2) := by decide +kernel
theorem dX1_childAt_32 : decode cX1_childAt 32 = .ok (.getfield 94, 3) := by decide +kernel
theorem dX1_childAt_35 : decode cX1_childAt 35 = .ok (.aload_n 1, 1) := by decide +kernel
theorem dX1_childAt_36 : decode cX1_childAt 36 = .ok (.if_acmp .ne 15, 3) := by decide +kernel
theorem dX1_childAt_39 : decode cX1_childAt 39 = .ok (.aload 6, 2) := by decide +kernel
theorem dX1_childAt_41 : decode cX1_childAt 41 = .ok (.iload_n 2, 1) := by decide +kernel
theorem dX1_childAt_42 : decode cX1_childAt 42 = .ok (.invokevirtual 84, 3) := by decide +kernel
theorem dX1_childAt_45 : decode cX1_childAt 45 = .ok (.ifCond .eq 6, 3) := by decide +kernel
theorem dX1_childAt_48 : decode cX1_childAt 48 = .ok (.aload 6, 2) := by decide +kernel
theorem dX1_childAt_50 : decode cX1_childAt 50 = .ok (.areturn, 1) := by decide +kernel
theorem dX1_childAt_51 : decode cX1_childAt 51 = .ok (.iinc 5 1, 3) := by decide +kernel
theorem dX1_childAt_54 : decode cX1_childAt 54 = .ok (.goto (-42), 3) := by decide +kernel
theorem dX1_childAt_57 : decode cX1_childAt 57 = .ok (.aconst_null, 1) := by decide +kernel
theorem dX1_childAt_58 : decode cX1_childAt 58 = .ok (.areturn, 1) := by decide +kernel
theorem dX1_countChildren_0 : decode cX1_countChildren 0 = .ok (.iconst 0, 1) := by decide +kernel
theorem dX1_countChildren_1 : decode cX1_countChildren 1 = .ok (.istore 4, 2) := by decide +kernel
theorem dX1_countChildren_3 : decode cX1_countChildren 3 = .ok (.aload_n 0, 1) := by decide +kernel
theorem dX1_countChildren_4 : decode cX1_countChildren 4 = .ok (.getfield 18, 3) := by decide +kernel
theorem dX1_countChildren_7 : decode cX1_countChildren 7 = .ok (.astore 5, 2) := by decide +kernel
theorem dX1_countChildren_9 : decode cX1_countChildren 9 = .ok (.aload 5, 2) := by decide +kernel
theorem dX1_countChildren_11 : decode cX1_countChildren 11 = .ok (.arraylength, 1) := by decide +kernel
theorem dX1_countChildren_12 : decode cX1_countChildren 12 = .ok (.istore 6, 2) := by decide +kernel
theorem dX1_countChildren_14 : decode cX1_countChildren 14 = .ok (.iconst 0, 1) := by decide +kernel
theorem dX1_countChildren_15 : decode cX1_countChildren 15 = .ok (.istore 7, 2) := by decide +kernel
theorem dX1_countChildren_17 : decode cX1_countChildren 17 = .ok (.iload 7, 2) := by decide +kernel
theorem dX1_countChildren_19 : decode cX1_countChildren 19 = .ok (.iload 6, 2) := by decide +kernel
theorem dX1_countChildren_21 : decode cX1_countChildren 21 = .ok (.if_icmp .ge 43, 3) := by decide +kernel
theorem dX1_countChildren_24 : decode cX1_countChildren 24 = .ok (.aload 5, 2) := by decide +kernel
theorem dX1_countChildren_26 : decode cX1_countChildren 26 = .ok (.iload 7, 2) := by decide +kernel
theorem dX1_countChildren_28 : decode cX1_countChildren 28 = .ok (.aaload, 1) := by decide +kernel
theorem dX1_countChildren_29 : decode cX1_countChildren 29 = .ok (.astore 8, 2) := by decide +kernel
theorem dX1_countChildren_31 : decode cX1_countChildren 31 = .ok (.aload 8, 2) := by decide +kernel
theorem dX1_countChildren_33 : decode cX1_countChildren 33 = .ok (.ifnull 25, 3) := by decide +kernel
theorem dX1_countChildren_36 : decode cX1_countChildren 36 = .ok (.aload 8, 2) := by decide +kernel
theorem dX1_countChildren_38 : decode cX1_countChildren 38 = .ok (.getfield 94, 3) := by decide +kernel
theorem dX1_countChildren_41 : decode cX1_countChildren 41 = .ok (.aload_n 1, 1) := by decide +kernel
theorem dX1_countChildren_42 : decode cX1_countChildren 42 = .ok (.if_acmp .ne 16, 3) := by decide +kernel
theorem dX1_countChildren_45 : decode cX1_countChildren 45 = .ok (.aload 8, 2) := by decide +kernel
theorem dX1_countChildren_47 : decode cX1_countChildren 47 = .ok (.iload_n 2, 1) := by decide +kernel
theorem dX1_countChildren_48 : decode cX1_countChildren 48 = .ok (.iload_n 3, 1) := by decide +kernel
theorem dX1_countChildren_49 : decode cX1_countChildren 49 = .ok (.invokevirtual 193, 3) := by decide +kernel
theorem dX1_countChildren_52 : decode cX1_countChildren 52 = .ok (.ifCond .eq 6, 3) := by decide +kernel
theorem dX1_countChildren_55 : decode cX1_countChildren 55 = .ok (.iinc 4 1, 3) := by decide +kernel
theorem dX1_countChildren_58 : decode cX1_countChildren 58 = .ok (.iinc 7 1, 3) := by decide +kernel
theorem dX1_countChildren_61 : decode cX1_countChildren 61 = .ok (.goto (-44), 3) := by decide +kernel
theorem dX1_countChildren_64 : decode cX1_countChildren 64 = .ok (.iload 4, 2) := by decide +kernel
theorem dX1_countChildren_66 : decode cX1_countChildren 66 = .ok (.ireturn, 1) := by decide +kernel
theorem dX1_hasChildren_0 : decode cX1_hasChildren 0 = .ok (.aload_n 0, 1) := by decide +kernel
theorem dX1_hasChildren_1 : decode cX1_hasChildren 1 = .ok (.aload_n 1, 1) := by decide +kernel
theorem dX1_hasChildren_2 : decode cX1_hasChildren 2 = .ok (.aload_n 1, 1) := by decide +kernel
theorem dX1_hasChildren_3 : decode cX1_hasChildren 3 = .ok (.getfield 101, 3) := by decide +kernel
theorem dX1_hasChildren_6 : decode cX1_hasChildren 6 = .ok (.aload_n 1, 1) := by decide +kernel
theorem dX1_hasChildren_7 : decode cX1_hasChildren 7 = .ok (.getfield 114, 3) := by decide +kernel
theorem dX1_hasChildren_10 : decode cX1_hasChildren 10 = .ok (.invokevirtual 88, 3) := by decide +kernel
theorem dX1_hasChildren_13 : decode cX1_hasChildren 13 = .ok (.ifCond .le 7, 3) := by decide +kernel
theorem dX1_hasChildren_16 : decode cX1_hasChildren 16 = .ok (.iconst 1, 1) := by decide +kernel
theorem dX1_hasChildren_17 : decode cX1_hasChildren 17 = .ok (.goto 4, 3) := by decide +kernel
theorem dX1_hasChildren_20 : decode cX1_hasChildren 20 = .ok (.iconst 0, 1) := by decide +kernel
theorem dX1_hasChildren_21 : decode cX1_hasChildren 21 = .ok (.ireturn, 1) := by decide +kernel
theorem dX1_outsideChildren_0 : decode cX1_outsideChildren 0 = .ok (.aload_n 1, 1) := by decide +kernel
theorem dX1_outsideChildren_1 : decode cX1_outsideChildren 1 = .ok (.getfield 114, 3) := by decide +kernel
theorem dX1_outsideChildren_4 : decode cX1_outsideChildren 4 = .ok (.istore_n 2, 1) := by decide +kernel
theorem dX1_outsideChildren_5 : decode cX1_outsideChildren 5 = .ok (.aload_n 0, 1) := by decide +kernel
theorem dX1_outsideChildren_6 : decode cX1_outsideChildren 6 = .ok (.getfield 18, 3) := by decide +kernel
theorem dX1_outsideChildren_9 : decode cX1_outsideChildren 9 = .ok (.astore_n 3, 1) := by decide +kernel
theorem dX1_outsideChildren_10 : decode cX1_outsideChildren 10 = .ok (.aload_n 3, 1) := by decide +kernel
theorem dX1_outsideChildren_11 : decode cX1_outsideChildren 11 = .ok (.arraylength, 1) := by decide +kernel
theorem dX1_outsideChildren_12 : decode cX1_outsideChildren 12 = .ok (.istore 4, 2) := by decide +kernel
theorem dX1_outsideChildren_14 : decode cX1_outsideChildren 14 = .ok (.iconst 0, 1) := by decide +kernel
theorem dX1_outsideChildren_15 : decode cX1_outsideChildren 15 = .ok (.istore 5, 2) := by decide +kernel
theorem dX1_outsideChildren_17 : decode cX1_outsideChildren 17 = .ok (.iload 5, 2) := by decide +kernel
theorem dX1_outsideChildren_19 : decode cX1_outsideChildren 19 = .ok (.iload 4, 2) := by decide +kernel
theorem dX1_outsideChildren_21 : decode cX1_outsideChildren 21 = .ok (.if_icmp .ge 37, 3) := by decide +kernel
theorem dX1_outsideChildren_24 : decode cX1_outsideChildren 24 = .ok (.aload_n 3, 1) := by decide +kernel
theorem dX1_outsideChildren_25 : decode cX1_outsideChildren 25 = .ok (.iload 5, 2) := by decide +kernel
theorem dX1_outsideChildren_27 : decode cX1_outsideChildren 27 = .ok (.aaload, 1) := by decide +kernel
theorem dX1_outsideChildren_28 : decode cX1_outsideChildren 28 = .ok (.astore 6, 2) := by decide +kernel
theorem dX1_outsideChildren_30 : decode cX1_outsideChildren 30 = .ok (.aload 6, 2) := by decide +kernel
theorem dX1_outsideChildren_32 : decode cX1_outsideChildren 32 = .ok (.ifnull 20, 3) := by decide +kernel
theorem dX1_outsideChildren_35 : decode cX1_outsideChildren 35 = .ok (.aload 6, 2) := by decide +kernel
theorem dX1_outsideChildren_37 : decode cX1_outsideChildren 37 = .ok (.getfield 94, 3) := by decide +kernel
theorem dX1_outsideChildren_40 : decode cX1_outsideChildren 40 = .ok (.aload_n 1, 1) := by decide +kernel
theorem dX1_outsideChildren_41 : decode cX1_outsideChildren 41 = .ok (.if_acmp .ne 11, 3) := by decide +kernel
theorem dX1_outsideChildren_44 : decode cX1_outsideChildren 44 = .ok (.iload_n 2, 1) := by decide +kernel
theorem dX1_outsideChildren_45 : decode cX1_outsideChildren 45 = .ok (.aload 6, 2) := by decide +kernel
theorem dX1_outsideChildren_47 : decode cX1_outsideChildren 47 = .ok (.getfield 114, 3) := by decide +kernel
theorem dX1_outsideChildren_50 : decode cX1_outsideChildren 50 = .ok (.isub, 1) := by decide +kernel
theorem dX1_outsideChildren_51 : decode cX1_outsideChildren 51 = .ok (.istore_n 2, 1) := by decide +kernel
theorem dX1_outsideChildren_52 : decode cX1_outsideChildren 52 = .ok (.iinc 5 1, 3) := by decide +kernel
theorem dX1_outsideChildren_55 : decode cX1_outsideChildren 55 = .ok (.goto (-38), 3) := by decide +kernel
theorem dX1_outsideChildren_58 : decode cX1_outsideChildren 58 = .ok (.iload_n 2, 1) := by decide +kernel
theorem dX1_outsideChildren_59 : decode cX1_outsideChildren 59 = .ok (.ireturn, 1) := by decide +kernel
theorem dX1_chosenBlock_0 : decode cX1_chosenBlock 0 = .ok (.iconst (-1), 1) := by decide +kernel
theorem dX1_chosenBlock_1 : decode cX1_chosenBlock 1 = .ok (.istore 4, 2) := by decide +kernel
theorem dX1_chosenBlock_3 : decode cX1_chosenBlock 3 = .ok (.iconst 0, 1) := by decide +kernel
theorem dX1_chosenBlock_4 : decode cX1_chosenBlock 4 = .ok (.istore 5, 2) := by decide +kernel
theorem dX1_chosenBlock_6 : decode cX1_chosenBlock 6 = .ok (.aload_n 1, 1) := by decide +kernel
theorem dX1_chosenBlock_7 : decode cX1_chosenBlock 7 = .ok (.getfield 101, 3) := by decide +kernel
theorem dX1_chosenBlock_10 : decode cX1_chosenBlock 10 = .ok (.istore 6, 2) := by decide +kernel
theorem dX1_chosenBlock_12 : decode cX1_chosenBlock 12 = .ok (.iconst 0, 1) := by decide +kernel
theorem dX1_chosenBlock_13 : decode cX1_chosenBlock 13 = .ok (.istore 7, 2) := by decide +kernel
theorem dX1_chosenBlock_15 : decode cX1_chosenBlock 15 = .ok (.iload 7, 2) := by decide +kernel
theorem dX1_chosenBlock_17 : decode cX1_chosenBlock 17 = .ok (.sipush 4096, 3) := by decide +kernel
theorem dX1_chosenBlock_20 : decode cX1_chosenBlock 20 = .ok (.if_icmp .ge 111, 3) := by decide +kernel
theorem dX1_chosenBlock_23 : decode cX1_chosenBlock 23 = .ok (.iload 6, 2) := by decide +kernel
theorem dX1_chosenBlock_25 : decode cX1_chosenBlock 25 = .ok (.aload_n 1, 1) := by decide +kernel
theorem dX1_chosenBlock_26 : decode cX1_chosenBlock 26 = .ok (.invokevirtual 104, 3) := by decide +kernel
theorem dX1_chosenBlock_29 : decode cX1_chosenBlock 29 = .ok (.if_icmp .ge 102, 3) := by decide +kernel
theorem dX1_chosenBlock_32 : decode cX1_chosenBlock 32 = .ok (.aload_n 0, 1) := by decide +kernel
theorem dX1_chosenBlock_33 : decode cX1_chosenBlock 33 = .ok (.aload_n 1, 1) := by decide +kernel
theorem dX1_chosenBlock_34 : decode cX1_chosenBlock 34 = .ok (.iload 6, 2) := by decide +kernel
theorem dX1_chosenBlock_36 : decode cX1_chosenBlock 36 = .ok (.invokevirtual 168, 3) := by decide +kernel
theorem dX1_chosenBlock_39 : decode cX1_chosenBlock 39 = .ok (.astore 8, 2) := by decide +kernel
theorem dX1_chosenBlock_41 : decode cX1_chosenBlock 41 = .ok (.aload 8, 2) := by decide +kernel
theorem dX1_chosenBlock_43 : decode cX1_chosenBlock 43 = .ok (.ifnull 13, 3) := by decide +kernel
theorem dX1_chosenBlock_46 : decode cX1_chosenBlock 46 = .ok (.aload 8, 2) := by decide +kernel
theorem dX1_chosenBlock_48 : decode cX1_chosenBlock 48 = .ok (.invokevirtual 104, 3) := by decide +kernel
theorem dX1_chosenBlock_51 : decode cX1_chosenBlock 51 = .ok (.istore 6, 2) := by decide +kernel
theorem dX1_chosenBlock_53 : decode cX1_chosenBlock 53 = .ok (.goto 72, 3) := by decide +kernel
theorem dX1_chosenBlock_56 : decode cX1_chosenBlock 56 = .ok (.aload_n 0, 1) := by decide +kernel
theorem dX1_chosenBlock_57 : decode cX1_chosenBlock 57 = .ok (.aload_n 1, 1) := by decide +kernel
theorem dX1_chosenBlock_58 : decode cX1_chosenBlock 58 = .ok (.iload 6, 2) := by decide +kernel
theorem dX1_chosenBlock_60 : decode cX1_chosenBlock 60 = .ok (.invokevirtual 74, 3) := by decide +kernel
theorem dX1_chosenBlock_63 : decode cX1_chosenBlock 63 = .ok (.istore 9, 2) := by decide +kernel
theorem dX1_chosenBlock_65 : decode cX1_chosenBlock 65 = .ok (.iload 4, 2) := by decide +kernel
theorem dX1_chosenBlock_67 : decode cX1_chosenBlock 67 = .ok (.iconst (-1), 1) := by decide +kernel
theorem dX1_chosenBlock_68 : decode cX1_chosenBlock 68 = .ok (.if_icmp .eq 24, 3) := by decide +kernel
theorem dX1_chosenBlock_71 : decode cX1_chosenBlock 71 = .ok (.iload_n 3, 1) := by decide +kernel
theorem dX1_chosenBlock_72 : decode cX1_chosenBlock 72 = .ok (.ifCond .eq 13, 3) := by decide +kernel
theorem dX1_chosenBlock_75 : decode cX1_chosenBlock 75 = .ok (.iload 9, 2) := by decide +kernel
theorem dX1_chosenBlock_77 : decode cX1_chosenBlock 77 = .ok (.iload 5, 2) := by decide +kernel
theorem dX1_chosenBlock_79 : decode cX1_chosenBlock 79 = .ok (.if_icmp .ge 17, 3) := by decide +kernel
theorem dX1_chosenBlock_82 : decode cX1_chosenBlock 82 = .ok (.goto 10, 3) := by decide +kernel
theorem dX1_chosenBlock_85 : decode cX1_chosenBlock 85 = .ok (.iload 9, 2) := by decide +kernel
theorem dX1_chosenBlock_87 : decode cX1_chosenBlock 87 = .ok (.iload 5, 2) := by decide +kernel
theorem dX1_chosenBlock_89 : decode cX1_chosenBlock 89 = .ok (.if_icmp .le 7, 3) := by decide +kernel
theorem dX1_chosenBlock_92 : decode cX1_chosenBlock 92 = .ok (.iconst 1, 1) := by decide +kernel
theorem dX1_chosenBlock_93 : decode cX1_chosenBlock 93 = .ok (.goto 4, 3) := by decide +kernel
theorem dX1_chosenBlock_96 : decode cX1_chosenBlock 96 = .ok (.iconst 0, 1) := by decide +kernel
theorem dX1_chosenBlock_97 : decode cX1_chosenBlock 97 = .ok (.istore 10, 2) := by decide +kernel
theorem dX1_chosenBlock_99 : decode cX1_chosenBlock 99 = .ok (.iload 9, 2) := by decide +kernel
theorem dX1_chosenBlock_101 : decode cX1_chosenBlock 101 = .ok (.iload_n 2, 1) := by decide +kernel
theorem dX1_chosenBlock_102 : decode cX1_chosenBlock 102 = .ok (.if_icmp .lt 16, 3) := by decide +kernel
theorem dX1_chosenBlock_105 : decode cX1_chosenBlock 105 = .ok (.iload 10, 2) := by decide +kernel
theorem dX1_chosenBlock_107 : decode cX1_chosenBlock 107 = .ok (.ifCond .eq 11, 3) := by decide +kernel
theorem dX1_chosenBlock_110 : decode cX1_chosenBlock 110 = .ok (.iload 6, 2) := by decide +kernel
theorem dX1_chosenBlock_112 : decode cX1_chosenBlock 112 = .ok (.istore 4, 2) := by decide +kernel
theorem dX1_chosenBlock_114 : decode cX1_chosenBlock 114 = .ok (.iload 9, 2) := by decide +kernel
theorem dX1_chosenBlock_116 : decode cX1_chosenBlock 116 = .ok (.istore 5, 2) := by decide +kernel
theorem dX1_chosenBlock_118 : decode cX1_chosenBlock 118 = .ok (.iload 6, 2) := by decide +kernel
theorem dX1_chosenBlock_120 : decode cX1_chosenBlock 120 = .ok (.iload 9, 2) := by decide +kernel
theorem dX1_chosenBlock_122 : decode cX1_chosenBlock 122 = .ok (.iadd, 1) := by decide +kernel
theorem dX1_chosenBlock_123 : decode cX1_chosenBlock 123 = .ok (.istore 6, 2) := by decide +kernel
theorem dX1_chosenBlock_125 : decode cX1_chosenBlock 125 = .ok (.iinc 7 1, 3) := by decide +kernel
theorem dX1_chosenBlock_128 : decode cX1_chosenBlock 128 = .ok (.goto (-113), 3) := by decide +kernel
theorem dX1_chosenBlock_131 : decode cX1_chosenBlock 131 = .ok (.iload 4, 2) := by decide +kernel
theorem dX1_chosenBlock_133 : decode cX1_chosenBlock 133 = .ok (.ireturn, 1) := by decide +kernel
theorem dX1_roomAt_0 : decode cX1_roomAt 0 = .ok (.aload_n 1, 1) := by decide +kernel
theorem dX1_roomAt_1 : decode cX1_roomAt 1 = .ok (.invokevirtual 104, 3) := by decide +kernel
theorem dX1_roomAt_4 : decode cX1_roomAt 4 = .ok (.istore_n 3, 1) := by decide +kernel
theorem dX1_roomAt_5 : decode cX1_roomAt 5 = .ok (.aload_n 0, 1) := by decide +kernel
theorem dX1_roomAt_6 : decode cX1_roomAt 6 = .ok (.getfield 18, 3) := by decide +kernel
theorem dX1_roomAt_9 : decode cX1_roomAt 9 = .ok (.astore 4, 2) := by decide +kernel
theorem dX1_roomAt_11 : decode cX1_roomAt 11 = .ok (.aload 4, 2) := by decide +kernel
theorem dX1_roomAt_13 : decode cX1_roomAt 13 = .ok (.arraylength, 1) := by decide +kernel
theorem dX1_roomAt_14 : decode cX1_roomAt 14 = .ok (.istore 5, 2) := by decide +kernel
theorem dX1_roomAt_16 : decode cX1_roomAt 16 = .ok (.iconst 0, 1) := by decide +kernel
theorem dX1_roomAt_17 : decode cX1_roomAt 17 = .ok (.istore 6, 2) := by decide +kernel
theorem dX1_roomAt_19 : decode cX1_roomAt 19 = .ok (.iload 6, 2) := by decide +kernel
theorem dX1_roomAt_21 : decode cX1_roomAt 21 = .ok (.iload 5, 2) := by decide +kernel
theorem dX1_roomAt_23 : decode cX1_roomAt 23 = .ok (.if_icmp .ge 49, 3) := by decide +kernel
theorem dX1_roomAt_26 : decode cX1_roomAt 26 = .ok (.aload 4, 2) := by decide +kernel
theorem dX1_roomAt_28 : decode cX1_roomAt 28 = .ok (.iload 6, 2) := by decide +kernel
theorem dX1_roomAt_30 : decode cX1_roomAt 30 = .ok (.aaload, 1) := by decide +kernel
theorem dX1_roomAt_31 : decode cX1_roomAt 31 = .ok (.astore 7, 2) := by decide +kernel
theorem dX1_roomAt_33 : decode cX1_roomAt 33 = .ok (.aload 7, 2) := by decide +kernel
theorem dX1_roomAt_35 : decode cX1_roomAt 35 = .ok (.ifnull 31, 3) := by decide +kernel
theorem dX1_roomAt_38 : decode cX1_roomAt 38 = .ok (.aload 7, 2) := by decide +kernel
theorem dX1_roomAt_40 : decode cX1_roomAt 40 = .ok (.getfield 94, 3) := by decide +kernel
theorem dX1_roomAt_43 : decode cX1_roomAt 43 = .ok (.aload_n 1, 1) := by decide +kernel
theorem dX1_roomAt_44 : decode cX1_roomAt 44 = .ok (.if_acmp .ne 22, 3) := by decide +kernel
theorem dX1_roomAt_47 : decode cX1_roomAt 47 = .ok (.aload 7, 2) := by decide +kernel
theorem dX1_roomAt_49 : decode cX1_roomAt 49 = .ok (.getfield 101, 3) := by decide +kernel
theorem dX1_roomAt_52 : decode cX1_roomAt 52 = .ok (.iload_n 2, 1) := by decide +kernel
theorem dX1_roomAt_53 : decode cX1_roomAt 53 = .ok (.if_icmp .le 13, 3) := by decide +kernel
theorem dX1_roomAt_56 : decode cX1_roomAt 56 = .ok (.iload_n 3, 1) := by decide +kernel
theorem dX1_roomAt_57 : decode cX1_roomAt 57 = .ok (.aload 7, 2) := by decide +kernel
theorem dX1_roomAt_59 : decode cX1_roomAt 59 = .ok (.getfield 101, 3) := by decide +kernel
theorem dX1_roomAt_62 : decode cX1_roomAt 62 = .ok (.invokestatic 163, 3) := by decide +kernel
theorem dX1_roomAt_65 : decode cX1_roomAt 65 = .ok (.istore_n 3, 1) := by decide +kernel
theorem dX1_roomAt_66 : decode cX1_roomAt 66 = .ok (.iinc 6 1, 3) := by decide +kernel
theorem dX1_roomAt_69 : decode cX1_roomAt 69 = .ok (.goto (-50), 3) := by decide +kernel
theorem dX1_roomAt_72 : decode cX1_roomAt 72 = .ok (.iload_n 2, 1) := by decide +kernel
theorem dX1_roomAt_73 : decode cX1_roomAt 73 = .ok (.iload_n 3, 1) := by decide +kernel
theorem dX1_roomAt_74 : decode cX1_roomAt 74 = .ok (.invokestatic 197, 3) := by decide +kernel
theorem dX1_roomAt_77 : decode cX1_roomAt 77 = .ok (.ireturn, 1) := by decide +kernel
theorem dX1_greatestBlock_0 : decode cX1_greatestBlock 0 = .ok (.iconst 1, 1) := by decide +kernel
theorem dX1_greatestBlock_1 : decode cX1_greatestBlock 1 = .ok (.istore_n 2, 1) := by decide +kernel
theorem dX1_greatestBlock_2 : decode cX1_greatestBlock 2 = .ok (.iconst 2, 1) := by decide +kernel
theorem dX1_greatestBlock_3 : decode cX1_greatestBlock 3 = .ok (.istore_n 3, 1) := by decide +kernel
theorem dX1_greatestBlock_4 : decode cX1_greatestBlock 4 = .ok (.iload_n 3, 1) := by decide +kernel
theorem dX1_greatestBlock_5 : decode cX1_greatestBlock 5 = .ok (.iload_n 1, 1) := by decide +kernel
theorem dX1_greatestBlock_6 : decode cX1_greatestBlock 6 = .ok (.iload_n 0, 1) := by decide +kernel
theorem dX1_greatestBlock_7 : decode cX1_greatestBlock 7 = .ok (.isub, 1) := by decide +kernel
theorem dX1_greatestBlock_8 : decode cX1_greatestBlock 8 = .ok (.if_icmp .gt 27, 3) := by decide +kernel
theorem dX1_greatestBlock_11 : decode cX1_greatestBlock 11 = .ok (.iload_n 3, 1) := by decide +kernel
theorem dX1_greatestBlock_12 : decode cX1_greatestBlock 12 = .ok (.sipush 4096, 3) := by decide +kernel
theorem dX1_greatestBlock_15 : decode cX1_greatestBlock 15 = .ok (.if_icmp .gt 20, 3) := by decide +kernel
theorem dX1_greatestBlock_18 : decode cX1_greatestBlock 18 = .ok (.iload_n 0, 1) := by decide +kernel
theorem dX1_greatestBlock_19 : decode cX1_greatestBlock 19 = .ok (.iload_n 3, 1) := by decide +kernel
theorem dX1_greatestBlock_20 : decode cX1_greatestBlock 20 = .ok (.iconst 1, 1) := by decide +kernel
theorem dX1_greatestBlock_21 : decode cX1_greatestBlock 21 = .ok (.isub, 1) := by decide +kernel
theorem dX1_greatestBlock_22 : decode cX1_greatestBlock 22 = .ok (.iand, 1) := by decide +kernel
theorem dX1_greatestBlock_23 : decode cX1_greatestBlock 23 = .ok (.ifCond .ne 12, 3) := by decide +kernel
theorem dX1_greatestBlock_26 : decode cX1_greatestBlock 26 = .ok (.iload_n 3, 1) := by decide +kernel
theorem dX1_greatestBlock_27 : decode cX1_greatestBlock 27 = .ok (.istore_n 2, 1) := by decide +kernel
theorem dX1_greatestBlock_28 : decode cX1_greatestBlock 28 = .ok (.iload_n 3, 1) := by decide +kernel
theorem dX1_greatestBlock_29 : decode cX1_greatestBlock 29 = .ok (.iconst 2, 1) := by decide +kernel
theorem dX1_greatestBlock_30 : decode cX1_greatestBlock 30 = .ok (.imul, 1) := by decide +kernel
theorem dX1_greatestBlock_31 : decode cX1_greatestBlock 31 = .ok (.istore_n 3, 1) := by decide +kernel
theorem dX1_greatestBlock_32 : decode cX1_greatestBlock 32 = .ok (.goto (-28), 3) := by decide +kernel
theorem dX1_greatestBlock_35 : decode cX1_greatestBlock 35 = .ok (.iload_n 2, 1) := by decide +kernel
theorem dX1_greatestBlock_36 : decode cX1_greatestBlock 36 = .ok (.ireturn, 1) := by decide +kernel
theorem dX1_countBlocks_0 : decode cX1_countBlocks 0 = .ok (.iconst 0, 1) := by decide +kernel
theorem dX1_countBlocks_1 : decode cX1_countBlocks 1 = .ok (.istore_n 2, 1) := by decide +kernel
theorem dX1_countBlocks_2 : decode cX1_countBlocks 2 = .ok (.iload_n 0, 1) := by decide +kernel
theorem dX1_countBlocks_3 : decode cX1_countBlocks 3 = .ok (.istore_n 3, 1) := by decide +kernel
theorem dX1_countBlocks_4 : decode cX1_countBlocks 4 = .ok (.iload_n 3, 1) := by decide +kernel
theorem dX1_countBlocks_5 : decode cX1_countBlocks 5 = .ok (.iload_n 1, 1) := by decide +kernel
theorem dX1_countBlocks_6 : decode cX1_countBlocks 6 = .ok (.if_icmp .ge 24, 3) := by decide +kernel
theorem dX1_countBlocks_9 : decode cX1_countBlocks 9 = .ok (.iload_n 2, 1) := by decide +kernel
theorem dX1_countBlocks_10 : decode cX1_countBlocks 10 = .ok (.sipush 4096, 3) := by decide +kernel
theorem dX1_countBlocks_13 : decode cX1_countBlocks 13 = .ok (.if_icmp .ge 17, 3) := by decide +kernel
theorem dX1_countBlocks_16 : decode cX1_countBlocks 16 = .ok (.iload_n 3, 1) := by decide +kernel
theorem dX1_countBlocks_17 : decode cX1_countBlocks 17 = .ok (.iload_n 3, 1) := by decide +kernel
theorem dX1_countBlocks_18 : decode cX1_countBlocks 18 = .ok (.iload_n 1, 1) := by decide +kernel
theorem dX1_countBlocks_19 : decode cX1_countBlocks 19 = .ok (.invokestatic 197, 3) := by decide +kernel
theorem dX1_countBlocks_22 : decode cX1_countBlocks 22 = .ok (.iadd, 1) := by decide +kernel
theorem dX1_countBlocks_23 : decode cX1_countBlocks 23 = .ok (.istore_n 3, 1) := by decide +kernel
theorem dX1_countBlocks_24 : decode cX1_countBlocks 24 = .ok (.iinc 2 1, 3) := by decide +kernel
theorem dX1_countBlocks_27 : decode cX1_countBlocks 27 = .ok (.goto (-23), 3) := by decide +kernel
theorem dX1_countBlocks_30 : decode cX1_countBlocks 30 = .ok (.iload_n 2, 1) := by decide +kernel
theorem dX1_countBlocks_31 : decode cX1_countBlocks 31 = .ok (.ireturn, 1) := by decide +kernel
theorem dX1_countLent_0 : decode cX1_countLent 0 = .ok (.iconst 0, 1) := by decide +kernel
theorem dX1_countLent_1 : decode cX1_countLent 1 = .ok (.istore_n 3, 1) := by decide +kernel
theorem dX1_countLent_2 : decode cX1_countLent 2 = .ok (.iload_n 1, 1) := by decide +kernel
theorem dX1_countLent_3 : decode cX1_countLent 3 = .ok (.istore 4, 2) := by decide +kernel
theorem dX1_countLent_5 : decode cX1_countLent 5 = .ok (.iload 4, 2) := by decide +kernel
theorem dX1_countLent_7 : decode cX1_countLent 7 = .ok (.iload_n 2, 1) := by decide +kernel
theorem dX1_countLent_8 : decode cX1_countLent 8 = .ok (.if_icmp .ge 30, 3) := by decide +kernel
theorem dX1_countLent_11 : decode cX1_countLent 11 = .ok (.iload 4, 2) := by decide +kernel
theorem dX1_countLent_13 : decode cX1_countLent 13 = .ok (.invokestatic 136, 3) := by decide +kernel
theorem dX1_countLent_16 : decode cX1_countLent 16 = .ok (.ifCond .eq 22, 3) := by decide +kernel
theorem dX1_countLent_19 : decode cX1_countLent 19 = .ok (.aload_n 0, 1) := by decide +kernel
theorem dX1_countLent_20 : decode cX1_countLent 20 = .ok (.getfield 26, 3) := by decide +kernel
theorem dX1_countLent_23 : decode cX1_countLent 23 = .ok (.iload 4, 2) := by decide +kernel
theorem dX1_countLent_25 : decode cX1_countLent 25 = .ok (.iaload, 1) := by decide +kernel
theorem dX1_countLent_26 : decode cX1_countLent 26 = .ok (.ifCond .eq 6, 3) := by decide +kernel
theorem dX1_countLent_29 : decode cX1_countLent 29 = .ok (.iinc 3 1, 3) := by decide +kernel
theorem dX1_countLent_32 : decode cX1_countLent 32 = .ok (.iinc 4 1, 3) := by decide +kernel
theorem dX1_countLent_35 : decode cX1_countLent 35 = .ok (.goto (-30), 3) := by decide +kernel
theorem dX1_countLent_38 : decode cX1_countLent 38 = .ok (.iload_n 3, 1) := by decide +kernel
theorem dX1_countLent_39 : decode cX1_countLent 39 = .ok (.ireturn, 1) := by decide +kernel
theorem dX1_lentInItself_0 : decode cX1_lentInItself 0 = .ok (.aload_n 0, 1) := by decide +kernel
theorem dX1_lentInItself_1 : decode cX1_lentInItself 1 = .ok (.getfield 30, 3) := by decide +kernel
theorem dX1_lentInItself_4 : decode cX1_lentInItself 4 = .ok (.ifCond .eq 11, 3) := by decide +kernel
theorem dX1_lentInItself_7 : decode cX1_lentInItself 7 = .ok (.aload_n 0, 1) := by decide +kernel
theorem dX1_lentInItself_8 : decode cX1_lentInItself 8 = .ok (.aload_n 1, 1) := by decide +kernel
theorem dX1_lentInItself_9 : decode cX1_lentInItself 9 = .ok (.invokevirtual 97, 3) := by decide +kernel
theorem dX1_lentInItself_12 : decode cX1_lentInItself 12 = .ok (.ifCond .eq 7, 3) := by decide +kernel
theorem dX1_lentInItself_15 : decode cX1_lentInItself 15 = .ok (.iconst 0, 1) := by decide +kernel
theorem dX1_lentInItself_16 : decode cX1_lentInItself 16 = .ok (.goto 15, 3) := by decide +kernel
theorem dX1_lentInItself_19 : decode cX1_lentInItself 19 = .ok (.aload_n 0, 1) := by decide +kernel
theorem dX1_lentInItself_20 : decode cX1_lentInItself 20 = .ok (.aload_n 1, 1) := by decide +kernel
theorem dX1_lentInItself_21 : decode cX1_lentInItself 21 = .ok (.getfield 101, 3) := by decide +kernel
theorem dX1_lentInItself_24 : decode cX1_lentInItself 24 = .ok (.aload_n 1, 1) := by decide +kernel
theorem dX1_lentInItself_25 : decode cX1_lentInItself 25 = .ok (.invokevirtual 104, 3) := by decide +kernel
theorem dX1_lentInItself_28 : decode cX1_lentInItself 28 = .ok (.invokevirtual 108, 3) := by decide +kernel
theorem dX1_lentInItself_31 : decode cX1_lentInItself 31 = .ok (.ireturn, 1) := by decide +kernel
theorem dX1_lowestFree_0 : decode cX1_lowestFree 0 = .ok (.aload_n 1, 1) := by decide +kernel
theorem dX1_lowestFree_1 : decode cX1_lowestFree 1 = .ok (.getfield 101, 3) := by decide +kernel
theorem dX1_lowestFree_4 : decode cX1_lowestFree 4 = .ok (.istore_n 2, 1) := by decide +kernel
theorem dX1_lowestFree_5 : decode cX1_lowestFree 5 = .ok (.iload_n 2, 1) := by decide +kernel
theorem dX1_lowestFree_6 : decode cX1_lowestFree 6 = .ok (.aload_n 1, 1) := by decide +kernel
theorem dX1_lowestFree_7 : decode cX1_lowestFree 7 = .ok (.invokevirtual 104, 3) := by decide +kernel
theorem dX1_lowestFree_10 : decode cX1_lowestFree 10 = .ok (.if_icmp .ge 27, 3) := by decide +kernel
theorem dX1_lowestFree_13 : decode cX1_lowestFree 13 = .ok (.iload_n 2, 1) := by decide +kernel
theorem dX1_lowestFree_14 : decode cX1_lowestFree 14 = .ok (.invokestatic 136, 3) := by decide +kernel
theorem dX1_lowestFree_17 : decode cX1_lowestFree 17 = .ok (.ifCond .eq 20, 3) := by decide +kernel
theorem dX1_lowestFree_20 : decode cX1_lowestFree 20 = .ok (.aload_n 0, 1) := by decide +kernel
theorem dX1_lowestFree_21 : decode cX1_lowestFree 21 = .ok (.getfield 26, 3) := by decide +kernel
theorem dX1_lowestFree_24 : decode cX1_lowestFree 24 = .ok (.iload_n 2, 1) := by decide +kernel
theorem dX1_lowestFree_25 : decode cX1_lowestFree 25 = .ok (.iaload, 1) := by decide +kernel
theorem dX1_lowestFree_26 : decode cX1_lowestFree 26 = .ok (.ifCond .ne 5, 3) := by decide +kernel
theorem dX1_lowestFree_29 : decode cX1_lowestFree 29 = .ok (.iload_n 2, 1) := by decide +kernel
theorem dX1_lowestFree_30 : decode cX1_lowestFree 30 = .ok (.ireturn, 1) := by decide +kernel
theorem dX1_lowestFree_31 : decode cX1_lowestFree 31 = .ok (.iinc 2 1, 3) := by decide +kernel
theorem dX1_lowestFree_34 : decode cX1_lowestFree 34 = .ok (.goto (-29), 3) := by decide +kernel
theorem dX1_lowestFree_37 : decode cX1_lowestFree 37 = .ok (.iconst (-1), 1) := by decide +kernel
theorem dX1_lowestFree_38 : decode cX1_lowestFree 38 = .ok (.ireturn, 1) := by decide +kernel
theorem dX1_layRow_0 : decode cX1_layRow 0 = .ok (.aload_n 0, 1) := by decide +kernel
theorem dX1_layRow_1 : decode cX1_layRow 1 = .ok (.getfield 39, 3) := by decide +kernel
theorem dX1_layRow_4 : decode cX1_layRow 4 = .ok (.ifCond .eq 4, 3) := by decide +kernel
theorem dX1_layRow_7 : decode cX1_layRow 7 = .ok (.return_, 1) := by decide +kernel
theorem dX1_layRow_8 : decode cX1_layRow 8 = .ok (.sipush 4096, 3) := by decide +kernel
theorem dX1_layRow_11 : decode cX1_layRow 11 = .ok (.istore_n 1, 1) := by decide +kernel
theorem dX1_layRow_12 : decode cX1_layRow 12 = .ok (.iload_n 1, 1) := by decide +kernel
theorem dX1_layRow_13 : decode cX1_layRow 13 = .ok (.iconst 1, 1) := by decide +kernel
theorem dX1_layRow_14 : decode cX1_layRow 14 = .ok (.if_icmp .lt 59, 3) := by decide +kernel
theorem dX1_layRow_17 : decode cX1_layRow 17 = .ok (.aload_n 0, 1) := by decide +kernel
theorem dX1_layRow_18 : decode cX1_layRow 18 = .ok (.getfield 18, 3) := by decide +kernel
theorem dX1_layRow_21 : decode cX1_layRow 21 = .ok (.astore_n 2, 1) := by decide +kernel
theorem dX1_layRow_22 : decode cX1_layRow 22 = .ok (.aload_n 2, 1) := by decide +kernel
theorem dX1_layRow_23 : decode cX1_layRow 23 = .ok (.arraylength, 1) := by decide +kernel
theorem dX1_layRow_24 : decode cX1_layRow 24 = .ok (.istore_n 3, 1) := by decide +kernel
theorem dX1_layRow_25 : decode cX1_layRow 25 = .ok (.iconst 0, 1) := by decide +kernel
theorem dX1_layRow_26 : decode cX1_layRow 26 = .ok (.istore 4, 2) := by decide +kernel
theorem dX1_layRow_28 : decode cX1_layRow 28 = .ok (.iload 4, 2) := by decide +kernel
theorem dX1_layRow_30 : decode cX1_layRow 30 = .ok (.iload_n 3, 1) := by decide +kernel
theorem dX1_layRow_31 : decode cX1_layRow 31 = .ok (.if_icmp .ge 35, 3) := by decide +kernel
theorem dX1_layRow_34 : decode cX1_layRow 34 = .ok (.aload_n 2, 1) := by decide +kernel
theorem dX1_layRow_35 : decode cX1_layRow 35 = .ok (.iload 4, 2) := by decide +kernel
theorem dX1_layRow_37 : decode cX1_layRow 37 = .ok (.aaload, 1) := by decide +kernel
theorem dX1_layRow_38 : decode cX1_layRow 38 = .ok (.astore 5, 2) := by decide +kernel
theorem dX1_layRow_40 : decode cX1_layRow 40 = .ok (.aload 5, 2) := by decide +kernel
theorem dX1_layRow_42 : decode cX1_layRow 42 = .ok (.ifnull 18, 3) := by decide +kernel
theorem dX1_layRow_45 : decode cX1_layRow 45 = .ok (.aload 5, 2) := by decide +kernel
theorem dX1_layRow_47 : decode cX1_layRow 47 = .ok (.getfield 114, 3) := by decide +kernel
theorem dX1_layRow_50 : decode cX1_layRow 50 = .ok (.iload_n 1, 1) := by decide +kernel
theorem dX1_layRow_51 : decode cX1_layRow 51 = .ok (.if_icmp .ne 9, 3) := by decide +kernel
theorem dX1_layRow_54 : decode cX1_layRow 54 = .ok (.aload_n 0, 1) := by decide +kernel
theorem dX1_layRow_55 : decode cX1_layRow 55 = .ok (.aload 5, 2) := by decide +kernel
theorem dX1_layRow_57 : decode cX1_layRow 57 = .ok (.invokevirtual 200, 3) := by decide +kernel
theorem dX1_layRow_60 : decode cX1_layRow 60 = .ok (.iinc 4 1, 3) := by decide +kernel
theorem dX1_layRow_63 : decode cX1_layRow 63 = .ok (.goto (-35), 3) := by decide +kernel
theorem dX1_layRow_66 : decode cX1_layRow 66 = .ok (.iload_n 1, 1) := by decide +kernel
theorem dX1_layRow_67 : decode cX1_layRow 67 = .ok (.iconst 2, 1) := by decide +kernel
theorem dX1_layRow_68 : decode cX1_layRow 68 = .ok (.idiv, 1) := by decide +kernel
theorem dX1_layRow_69 : decode cX1_layRow 69 = .ok (.istore_n 1, 1) := by decide +kernel
theorem dX1_layRow_70 : decode cX1_layRow 70 = .ok (.goto (-58), 3) := by decide +kernel
theorem dX1_layRow_73 : decode cX1_layRow 73 = .ok (.aload_n 0, 1) := by decide +kernel
theorem dX1_layRow_74 : decode cX1_layRow 74 = .ok (.iconst 1, 1) := by decide +kernel
theorem dX1_layRow_75 : decode cX1_layRow 75 = .ok (.putfield 39, 3) := by decide +kernel
theorem dX1_layRow_78 : decode cX1_layRow 78 = .ok (.return_, 1) := by decide +kernel
theorem dX1_laySpan_0 : decode cX1_laySpan 0 = .ok (.aload_n 1, 1) := by decide +kernel
theorem dX1_laySpan_1 : decode cX1_laySpan 1 = .ok (.getfield 101, 3) := by decide +kernel
theorem dX1_laySpan_4 : decode cX1_laySpan 4 = .ok (.istore_n 2, 1) := by decide +kernel
theorem dX1_laySpan_5 : decode cX1_laySpan 5 = .ok (.iload_n 2, 1) := by decide +kernel
theorem dX1_laySpan_6 : decode cX1_laySpan 6 = .ok (.aload_n 1, 1) := by decide +kernel
theorem dX1_laySpan_7 : decode cX1_laySpan 7 = .ok (.invokevirtual 104, 3) := by decide +kernel
theorem dX1_laySpan_10 : decode cX1_laySpan 10 = .ok (.if_icmp .ge 26, 3) := by decide +kernel
theorem dX1_laySpan_13 : decode cX1_laySpan 13 = .ok (.iload_n 2, 1) := by decide +kernel
theorem dX1_laySpan_14 : decode cX1_laySpan 14 = .ok (.invokestatic 136, 3) := by decide +kernel
theorem dX1_laySpan_17 : decode cX1_laySpan 17 = .ok (.ifCond .eq 19, 3) := by decide +kernel
theorem dX1_laySpan_20 : decode cX1_laySpan 20 = .ok (.aload_n 0, 1) := by decide +kernel
theorem dX1_laySpan_21 : decode cX1_laySpan 21 = .ok (.getfield 36, 3) := by decide +kernel
theorem dX1_laySpan_24 : decode cX1_laySpan 24 = .ok (.iload_n 2, 1) := by decide +kernel
theorem dX1_laySpan_25 : decode cX1_laySpan 25 = .ok (.aload_n 1, 1) := by decide +kernel
theorem dX1_laySpan_26 : decode cX1_laySpan 26 = .ok (.getfield 154, 3) := by decide +kernel
theorem dX1_laySpan_29 : decode cX1_laySpan 29 = .ok (.iastore, 1) := by decide +kernel
theorem dX1_laySpan_30 : decode cX1_laySpan 30 = .ok (.iinc 2 1, 3) := by decide +kernel
theorem dX1_laySpan_33 : decode cX1_laySpan 33 = .ok (.goto (-28), 3) := by decide +kernel
theorem dX1_laySpan_36 : decode cX1_laySpan 36 = .ok (.return_, 1) := by decide +kernel
