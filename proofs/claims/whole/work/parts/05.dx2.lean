theorem dX2_init_0 : decode cX2_init 0 = .ok (.aload_n 0, 1) := by decide +kernel
theorem dX2_init_1 : decode cX2_init 1 = .ok (.invokespecial 1, 3) := by decide +kernel
theorem dX2_init_4 : decode cX2_init 4 = .ok (.aload_n 0, 1) := by decide +kernel
theorem dX2_init_5 : decode cX2_init 5 = .ok (.bipush 64, 2) := by decide +kernel
theorem dX2_init_7 : decode cX2_init 7 = .ok (.newarray .int, 2) := by decide +kernel
theorem dX2_init_9 : decode cX2_init 9 = .ok (.putfield 7, 3) := by decide +kernel
theorem dX2_init_12 : decode cX2_init 12 = .ok (.aload_n 0, 1) := by decide +kernel
theorem dX2_init_13 : decode cX2_init 13 = .ok (.bipush 64, 2) := by decide +kernel
theorem dX2_init_15 : decode cX2_init 15 = .ok (.newarray .int, 2) := by decide +kernel
theorem dX2_init_17 : decode cX2_init 17 = .ok (.putfield 13, 3) := by decide +kernel
theorem dX2_init_20 : decode cX2_init 20 = .ok (.aload_n 0, 1) := by decide +kernel
theorem dX2_init_21 : decode cX2_init 21 = .ok (.bipush 64, 2) := by decide +kernel
theorem dX2_init_23 : decode cX2_init 23 = .ok (.newarray .int, 2) := by decide +kernel
theorem dX2_init_25 : decode cX2_init 25 = .ok (.putfield 16, 3) := by decide +kernel
theorem dX2_init_28 : decode cX2_init 28 = .ok (.aload_n 0, 1) := by decide +kernel
theorem dX2_init_29 : decode cX2_init 29 = .ok (.bipush 64, 2) := by decide +kernel
theorem dX2_init_31 : decode cX2_init 31 = .ok (.newarray .int, 2) := by decide +kernel
theorem dX2_init_33 : decode cX2_init 33 = .ok (.putfield 19, 3) := by decide +kernel
theorem dX2_init_36 : decode cX2_init 36 = .ok (.aload_n 0, 1) := by decide +kernel
theorem dX2_init_37 : decode cX2_init 37 = .ok (.bipush 64, 2) := by decide +kernel
theorem dX2_init_39 : decode cX2_init 39 = .ok (.newarray .boolean, 2) := by decide +kernel
theorem dX2_init_41 : decode cX2_init 41 = .ok (.putfield 22, 3) := by decide +kernel
theorem dX2_init_44 : decode cX2_init 44 = .ok (.aload_n 0, 1) := by decide +kernel
theorem dX2_init_45 : decode cX2_init 45 = .ok (.iconst 1, 1) := by decide +kernel
theorem dX2_init_46 : decode cX2_init 46 = .ok (.putfield 26, 3) := by decide +kernel
theorem dX2_init_49 : decode cX2_init 49 = .ok (.aload_n 0, 1) := by decide +kernel
theorem dX2_init_50 : decode cX2_init 50 = .ok (.sipush 4096, 3) := by decide +kernel
theorem dX2_init_53 : decode cX2_init 53 = .ok (.newarray .int, 2) := by decide +kernel
theorem dX2_init_55 : decode cX2_init 55 = .ok (.putfield 30, 3) := by decide +kernel
theorem dX2_init_58 : decode cX2_init 58 = .ok (.aload_n 0, 1) := by decide +kernel
theorem dX2_init_59 : decode cX2_init 59 = .ok (.sipush 4097, 3) := by decide +kernel
theorem dX2_init_62 : decode cX2_init 62 = .ok (.newarray .int, 2) := by decide +kernel
theorem dX2_init_64 : decode cX2_init 64 = .ok (.putfield 33, 3) := by decide +kernel
theorem dX2_init_67 : decode cX2_init 67 = .ok (.aload_n 0, 1) := by decide +kernel
theorem dX2_init_68 : decode cX2_init 68 = .ok (.getfield 13, 3) := by decide +kernel
theorem dX2_init_71 : decode cX2_init 71 = .ok (.iconst 0, 1) := by decide +kernel
theorem dX2_init_72 : decode cX2_init 72 = .ok (.sipush 4096, 3) := by decide +kernel
theorem dX2_init_75 : decode cX2_init 75 = .ok (.iastore, 1) := by decide +kernel
theorem dX2_init_76 : decode cX2_init 76 = .ok (.aload_n 0, 1) := by decide +kernel
theorem dX2_init_77 : decode cX2_init 77 = .ok (.getfield 16, 3) := by decide +kernel
theorem dX2_init_80 : decode cX2_init 80 = .ok (.iconst 0, 1) := by decide +kernel
theorem dX2_init_81 : decode cX2_init 81 = .ok (.iconst (-1), 1) := by decide +kernel
theorem dX2_init_82 : decode cX2_init 82 = .ok (.iastore, 1) := by decide +kernel
theorem dX2_init_83 : decode cX2_init 83 = .ok (.aload_n 0, 1) := by decide +kernel
theorem dX2_init_84 : decode cX2_init 84 = .ok (.getfield 22, 3) := by decide +kernel
theorem dX2_init_87 : decode cX2_init 87 = .ok (.iconst 0, 1) := by decide +kernel
theorem dX2_init_88 : decode cX2_init 88 = .ok (.iconst 1, 1) := by decide +kernel
theorem dX2_init_89 : decode cX2_init 89 = .ok (.bastore, 1) := by decide +kernel
theorem dX2_init_90 : decode cX2_init 90 = .ok (.return_, 1) := by decide +kernel
theorem dX2_thrown_0 : decode cX2_thrown 0 = .ok (.aload_n 0, 1) := by decide +kernel
theorem dX2_thrown_1 : decode cX2_thrown 1 = .ok (.getfield 36, 3) := by decide +kernel
theorem dX2_thrown_4 : decode cX2_thrown 4 = .ok (.ireturn, 1) := by decide +kernel
theorem dX2_goesWell_0 : decode cX2_goesWell 0 = .ok (.aload_n 0, 1) := by decide +kernel
theorem dX2_goesWell_1 : decode cX2_goesWell 1 = .ok (.iload_n 1, 1) := by decide +kernel
theorem dX2_goesWell_2 : decode cX2_goesWell 2 = .ok (.putfield 36, 3) := by decide +kernel
theorem dX2_goesWell_5 : decode cX2_goesWell 5 = .ok (.iload_n 1, 1) := by decide +kernel
theorem dX2_goesWell_6 : decode cX2_goesWell 6 = .ok (.ifCond .ne 7, 3) := by decide +kernel
theorem dX2_goesWell_9 : decode cX2_goesWell 9 = .ok (.iconst 1, 1) := by decide +kernel
theorem dX2_goesWell_10 : decode cX2_goesWell 10 = .ok (.goto 4, 3) := by decide +kernel
theorem dX2_goesWell_13 : decode cX2_goesWell 13 = .ok (.iconst 0, 1) := by decide +kernel
theorem dX2_goesWell_14 : decode cX2_goesWell 14 = .ok (.ireturn, 1) := by decide +kernel
theorem dX2_in_0 : decode cX2_in 0 = .ok (.iload_n 0, 1) := by decide +kernel
theorem dX2_in_1 : decode cX2_in 1 = .ok (.iload_n 1, 1) := by decide +kernel
theorem dX2_in_2 : decode cX2_in 2 = .ok (.if_icmp .lt 12, 3) := by decide +kernel
theorem dX2_in_5 : decode cX2_in 5 = .ok (.iload_n 0, 1) := by decide +kernel
theorem dX2_in_6 : decode cX2_in 6 = .ok (.iload_n 2, 1) := by decide +kernel
theorem dX2_in_7 : decode cX2_in 7 = .ok (.if_icmp .gt 7, 3) := by decide +kernel
theorem dX2_in_10 : decode cX2_in 10 = .ok (.iconst 1, 1) := by decide +kernel
theorem dX2_in_11 : decode cX2_in 11 = .ok (.goto 4, 3) := by decide +kernel
theorem dX2_in_14 : decode cX2_in 14 = .ok (.iconst 0, 1) := by decide +kernel
theorem dX2_in_15 : decode cX2_in 15 = .ok (.ireturn, 1) := by decide +kernel
theorem dX2_isSpan_0 : decode cX2_isSpan 0 = .ok (.iload_n 1, 1) := by decide +kernel
theorem dX2_isSpan_1 : decode cX2_isSpan 1 = .ok (.iconst 0, 1) := by decide +kernel
theorem dX2_isSpan_2 : decode cX2_isSpan 2 = .ok (.aload_n 0, 1) := by decide +kernel
theorem dX2_isSpan_3 : decode cX2_isSpan 3 = .ok (.getfield 26, 3) := by decide +kernel
theorem dX2_isSpan_6 : decode cX2_isSpan 6 = .ok (.iconst 1, 1) := by decide +kernel
theorem dX2_isSpan_7 : decode cX2_isSpan 7 = .ok (.isub, 1) := by decide +kernel
theorem dX2_isSpan_8 : decode cX2_isSpan 8 = .ok (.invokestatic 39, 3) := by decide +kernel
theorem dX2_isSpan_11 : decode cX2_isSpan 11 = .ok (.ifCond .eq 16, 3) := by decide +kernel
theorem dX2_isSpan_14 : decode cX2_isSpan 14 = .ok (.aload_n 0, 1) := by decide +kernel
theorem dX2_isSpan_15 : decode cX2_isSpan 15 = .ok (.getfield 22, 3) := by decide +kernel
theorem dX2_isSpan_18 : decode cX2_isSpan 18 = .ok (.iload_n 1, 1) := by decide +kernel
theorem dX2_isSpan_19 : decode cX2_isSpan 19 = .ok (.baload, 1) := by decide +kernel
theorem dX2_isSpan_20 : decode cX2_isSpan 20 = .ok (.ifCond .eq 7, 3) := by decide +kernel
theorem dX2_isSpan_23 : decode cX2_isSpan 23 = .ok (.iconst 1, 1) := by decide +kernel
theorem dX2_isSpan_24 : decode cX2_isSpan 24 = .ok (.goto 4, 3) := by decide +kernel
theorem dX2_isSpan_27 : decode cX2_isSpan 27 = .ok (.iconst 0, 1) := by decide +kernel
theorem dX2_isSpan_28 : decode cX2_isSpan 28 = .ok (.ireturn, 1) := by decide +kernel
theorem dX2_isSize_0 : decode cX2_isSize 0 = .ok (.iload_n 0, 1) := by decide +kernel
theorem dX2_isSize_1 : decode cX2_isSize 1 = .ok (.iconst 1, 1) := by decide +kernel
theorem dX2_isSize_2 : decode cX2_isSize 2 = .ok (.sipush 2048, 3) := by decide +kernel
theorem dX2_isSize_5 : decode cX2_isSize 5 = .ok (.invokestatic 39, 3) := by decide +kernel
theorem dX2_isSize_8 : decode cX2_isSize 8 = .ok (.ifCond .eq 15, 3) := by decide +kernel
theorem dX2_isSize_11 : decode cX2_isSize 11 = .ok (.iload_n 0, 1) := by decide +kernel
theorem dX2_isSize_12 : decode cX2_isSize 12 = .ok (.iload_n 0, 1) := by decide +kernel
theorem dX2_isSize_13 : decode cX2_isSize 13 = .ok (.iconst 1, 1) := by decide +kernel
theorem dX2_isSize_14 : decode cX2_isSize 14 = .ok (.isub, 1) := by decide +kernel
theorem dX2_isSize_15 : decode cX2_isSize 15 = .ok (.iand, 1) := by decide +kernel
theorem dX2_isSize_16 : decode cX2_isSize 16 = .ok (.ifCond .ne 7, 3) := by decide +kernel
theorem dX2_isSize_19 : decode cX2_isSize 19 = .ok (.iconst 1, 1) := by decide +kernel
theorem dX2_isSize_20 : decode cX2_isSize 20 = .ok (.goto 4, 3) := by decide +kernel
theorem dX2_isSize_23 : decode cX2_isSize 23 = .ok (.iconst 0, 1) := by decide +kernel
theorem dX2_isSize_24 : decode cX2_isSize 24 = .ok (.ireturn, 1) := by decide +kernel
theorem dX2_isOwner_0 : decode cX2_isOwner 0 = .ok (.iload_n 0, 1) := by decide +kernel
theorem dX2_isOwner_1 : decode cX2_isOwner 1 = .ok (.iconst 0, 1) := by decide +kernel
theorem dX2_isOwner_2 : decode cX2_isOwner 2 = .ok (.bipush 7, 2) := by decide +kernel
theorem dX2_isOwner_4 : decode cX2_isOwner 4 = .ok (.invokestatic 39, 3) := by decide +kernel
theorem dX2_isOwner_7 : decode cX2_isOwner 7 = .ok (.ireturn, 1) := by decide +kernel
theorem dX2_isAddress_0 : decode cX2_isAddress 0 = .ok (.iload_n 0, 1) := by decide +kernel
theorem dX2_isAddress_1 : decode cX2_isAddress 1 = .ok (.iconst 0, 1) := by decide +kernel
theorem dX2_isAddress_2 : decode cX2_isAddress 2 = .ok (.sipush 4095, 3) := by decide +kernel
theorem dX2_isAddress_5 : decode cX2_isAddress 5 = .ok (.invokestatic 39, 3) := by decide +kernel
theorem dX2_isAddress_8 : decode cX2_isAddress 8 = .ok (.ireturn, 1) := by decide +kernel
theorem dX2_countIn_0 : decode cX2_countIn 0 = .ok (.iconst 0, 1) := by decide +kernel
theorem dX2_countIn_1 : decode cX2_countIn 1 = .ok (.istore 5, 2) := by decide +kernel
theorem dX2_countIn_3 : decode cX2_countIn 3 = .ok (.iconst 0, 1) := by decide +kernel
theorem dX2_countIn_4 : decode cX2_countIn 4 = .ok (.istore 6, 2) := by decide +kernel
theorem dX2_countIn_6 : decode cX2_countIn 6 = .ok (.iload 6, 2) := by decide +kernel
theorem dX2_countIn_8 : decode cX2_countIn 8 = .ok (.aload_n 0, 1) := by decide +kernel
theorem dX2_countIn_9 : decode cX2_countIn 9 = .ok (.getfield 26, 3) := by decide +kernel
theorem dX2_countIn_12 : decode cX2_countIn 12 = .ok (.if_icmp .ge 91, 3) := by decide +kernel
theorem dX2_countIn_15 : decode cX2_countIn 15 = .ok (.aload_n 0, 1) := by decide +kernel
theorem dX2_countIn_16 : decode cX2_countIn 16 = .ok (.getfield 22, 3) := by decide +kernel
theorem dX2_countIn_19 : decode cX2_countIn 19 = .ok (.iload 6, 2) := by decide +kernel
theorem dX2_countIn_21 : decode cX2_countIn 21 = .ok (.baload, 1) := by decide +kernel
theorem dX2_countIn_22 : decode cX2_countIn 22 = .ok (.ifCond .eq 25, 3) := by decide +kernel
theorem dX2_countIn_25 : decode cX2_countIn 25 = .ok (.aload_n 0, 1) := by decide +kernel
theorem dX2_countIn_26 : decode cX2_countIn 26 = .ok (.getfield 16, 3) := by decide +kernel
theorem dX2_countIn_29 : decode cX2_countIn 29 = .ok (.iload 6, 2) := by decide +kernel
theorem dX2_countIn_31 : decode cX2_countIn 31 = .ok (.iaload, 1) := by decide +kernel
theorem dX2_countIn_32 : decode cX2_countIn 32 = .ok (.iload_n 1, 1) := by decide +kernel
theorem dX2_countIn_33 : decode cX2_countIn 33 = .ok (.if_icmp .ne 14, 3) := by decide +kernel
theorem dX2_countIn_36 : decode cX2_countIn 36 = .ok (.iload 6, 2) := by decide +kernel
theorem dX2_countIn_38 : decode cX2_countIn 38 = .ok (.iload 4, 2) := by decide +kernel
theorem dX2_countIn_40 : decode cX2_countIn 40 = .ok (.if_icmp .eq 7, 3) := by decide +kernel
theorem dX2_countIn_43 : decode cX2_countIn 43 = .ok (.iconst 1, 1) := by decide +kernel
theorem dX2_countIn_44 : decode cX2_countIn 44 = .ok (.goto 4, 3) := by decide +kernel
theorem dX2_countIn_47 : decode cX2_countIn 47 = .ok (.iconst 0, 1) := by decide +kernel
theorem dX2_countIn_48 : decode cX2_countIn 48 = .ok (.istore 7, 2) := by decide +kernel
theorem dX2_countIn_50 : decode cX2_countIn 50 = .ok (.iload 5, 2) := by decide +kernel
theorem dX2_countIn_52 : decode cX2_countIn 52 = .ok (.iload 7, 2) := by decide +kernel
theorem dX2_countIn_54 : decode cX2_countIn 54 = .ok (.ifCond .eq 39, 3) := by decide +kernel
theorem dX2_countIn_57 : decode cX2_countIn 57 = .ok (.aload_n 0, 1) := by decide +kernel
theorem dX2_countIn_58 : decode cX2_countIn 58 = .ok (.getfield 7, 3) := by decide +kernel
theorem dX2_countIn_61 : decode cX2_countIn 61 = .ok (.iload 6, 2) := by decide +kernel
theorem dX2_countIn_63 : decode cX2_countIn 63 = .ok (.iaload, 1) := by decide +kernel
theorem dX2_countIn_64 : decode cX2_countIn 64 = .ok (.iload_n 2, 1) := by decide +kernel
theorem dX2_countIn_65 : decode cX2_countIn 65 = .ok (.iload_n 3, 1) := by decide +kernel
theorem dX2_countIn_66 : decode cX2_countIn 66 = .ok (.iadd, 1) := by decide +kernel
theorem dX2_countIn_67 : decode cX2_countIn 67 = .ok (.if_icmp .ge 26, 3) := by decide +kernel
theorem dX2_countIn_70 : decode cX2_countIn 70 = .ok (.iload_n 2, 1) := by decide +kernel
theorem dX2_countIn_71 : decode cX2_countIn 71 = .ok (.aload_n 0, 1) := by decide +kernel
theorem dX2_countIn_72 : decode cX2_countIn 72 = .ok (.getfield 7, 3) := by decide +kernel
theorem dX2_countIn_75 : decode cX2_countIn 75 = .ok (.iload 6, 2) := by decide +kernel
theorem dX2_countIn_77 : decode cX2_countIn 77 = .ok (.iaload, 1) := by decide +kernel
theorem dX2_countIn_78 : decode cX2_countIn 78 = .ok (.aload_n 0, 1) := by decide +kernel
theorem dX2_countIn_79 : decode cX2_countIn 79 = .ok (.getfield 13, 3) := by decide +kernel
theorem dX2_countIn_82 : decode cX2_countIn 82 = .ok (.iload 6, 2) := by decide +kernel
theorem dX2_countIn_84 : decode cX2_countIn 84 = .ok (.iaload, 1) := by decide +kernel
theorem dX2_countIn_85 : decode cX2_countIn 85 = .ok (.iadd, 1) := by decide +kernel
theorem dX2_countIn_86 : decode cX2_countIn 86 = .ok (.if_icmp .ge 7, 3) := by decide +kernel
theorem dX2_countIn_89 : decode cX2_countIn 89 = .ok (.iconst 1, 1) := by decide +kernel
theorem dX2_countIn_90 : decode cX2_countIn 90 = .ok (.goto 4, 3) := by decide +kernel
theorem dX2_countIn_93 : decode cX2_countIn 93 = .ok (.iconst 0, 1) := by decide +kernel
theorem dX2_countIn_94 : decode cX2_countIn 94 = .ok (.iadd, 1) := by decide +kernel
theorem dX2_countIn_95 : decode cX2_countIn 95 = .ok (.istore 5, 2) := by decide +kernel
theorem dX2_countIn_97 : decode cX2_countIn 97 = .ok (.iinc 6 1, 3) := by decide +kernel
theorem dX2_countIn_100 : decode cX2_countIn 100 = .ok (.goto (-94), 3) := by decide +kernel
theorem dX2_countIn_103 : decode cX2_countIn 103 = .ok (.iload 5, 2) := by decide +kernel
theorem dX2_countIn_105 : decode cX2_countIn 105 = .ok (.ireturn, 1) := by decide +kernel
theorem dX2_liesIn_0 : decode cX2_liesIn 0 = .ok (.iload_n 2, 1) := by decide +kernel
theorem dX2_liesIn_1 : decode cX2_liesIn 1 = .ok (.aload_n 0, 1) := by decide +kernel
theorem dX2_liesIn_2 : decode cX2_liesIn 2 = .ok (.getfield 7, 3) := by decide +kernel
theorem dX2_liesIn_5 : decode cX2_liesIn 5 = .ok (.iload_n 1, 1) := by decide +kernel
theorem dX2_liesIn_6 : decode cX2_liesIn 6 = .ok (.iaload, 1) := by decide +kernel
theorem dX2_liesIn_7 : decode cX2_liesIn 7 = .ok (.if_icmp .lt 26, 3) := by decide +kernel
theorem dX2_liesIn_10 : decode cX2_liesIn 10 = .ok (.iload_n 2, 1) := by decide +kernel
theorem dX2_liesIn_11 : decode cX2_liesIn 11 = .ok (.iload_n 3, 1) := by decide +kernel
theorem dX2_liesIn_12 : decode cX2_liesIn 12 = .ok (.iadd, 1) := by decide +kernel
theorem dX2_liesIn_13 : decode cX2_liesIn 13 = .ok (.aload_n 0, 1) := by decide +kernel
theorem dX2_liesIn_14 : decode cX2_liesIn 14 = .ok (.getfield 7, 3) := by decide +kernel
theorem dX2_liesIn_17 : decode cX2_liesIn 17 = .ok (.iload_n 1, 1) := by decide +kernel
theorem dX2_liesIn_18 : decode cX2_liesIn 18 = .ok (.iaload, 1) := by decide +kernel
theorem dX2_liesIn_19 : decode cX2_liesIn 19 = .ok (.aload_n 0, 1) := by decide +kernel
theorem dX2_liesIn_20 : decode cX2_liesIn 20 = .ok (.getfield 13, 3) := by decide +kernel
theorem dX2_liesIn_23 : decode cX2_liesIn 23 = .ok (.iload_n 1, 1) := by decide +kernel
theorem dX2_liesIn_24 : decode cX2_liesIn 24 = .ok (.iaload, 1) := by decide +kernel
theorem dX2_liesIn_25 : decode cX2_liesIn 25 = .ok (.iadd, 1) := by decide +kernel
theorem dX2_liesIn_26 : decode cX2_liesIn 26 = .ok (.if_icmp .gt 7, 3) := by decide +kernel
theorem dX2_liesIn_29 : decode cX2_liesIn 29 = .ok (.iconst 1, 1) := by decide +kernel
theorem dX2_liesIn_30 : decode cX2_liesIn 30 = .ok (.goto 4, 3) := by decide +kernel
theorem dX2_liesIn_33 : decode cX2_liesIn 33 = .ok (.iconst 0, 1) := by decide +kernel
theorem dX2_liesIn_34 : decode cX2_liesIn 34 = .ok (.ireturn, 1) := by decide +kernel
theorem dX2_isFree_0 : decode cX2_isFree 0 = .ok (.aload_n 0, 1) := by decide +kernel
theorem dX2_isFree_1 : decode cX2_isFree 1 = .ok (.iload_n 1, 1) := by decide +kernel
theorem dX2_isFree_2 : decode cX2_isFree 2 = .ok (.iload_n 2, 1) := by decide +kernel
theorem dX2_isFree_3 : decode cX2_isFree 3 = .ok (.iload_n 3, 1) := by decide +kernel
theorem dX2_isFree_4 : decode cX2_isFree 4 = .ok (.invokevirtual 43, 3) := by decide +kernel
theorem dX2_isFree_7 : decode cX2_isFree 7 = .ok (.ifCond .eq 18, 3) := by decide +kernel
theorem dX2_isFree_10 : decode cX2_isFree 10 = .ok (.aload_n 0, 1) := by decide +kernel
theorem dX2_isFree_11 : decode cX2_isFree 11 = .ok (.iload_n 1, 1) := by decide +kernel
theorem dX2_isFree_12 : decode cX2_isFree 12 = .ok (.iload_n 2, 1) := by decide +kernel
theorem dX2_isFree_13 : decode cX2_isFree 13 = .ok (.iload_n 3, 1) := by decide +kernel
theorem dX2_isFree_14 : decode cX2_isFree 14 = .ok (.iconst (-1), 1) := by decide +kernel
theorem dX2_isFree_15 : decode cX2_isFree 15 = .ok (.invokevirtual 46, 3) := by decide +kernel
theorem dX2_isFree_18 : decode cX2_isFree 18 = .ok (.ifCond .ne 7, 3) := by decide +kernel
theorem dX2_isFree_21 : decode cX2_isFree 21 = .ok (.iconst 1, 1) := by decide +kernel
theorem dX2_isFree_22 : decode cX2_isFree 22 = .ok (.goto 4, 3) := by decide +kernel
theorem dX2_isFree_25 : decode cX2_isFree 25 = .ok (.iconst 0, 1) := by decide +kernel
theorem dX2_isFree_26 : decode cX2_isFree 26 = .ok (.ireturn, 1) := by decide +kernel
theorem dX2_isWhole_0 : decode cX2_isWhole 0 = .ok (.iload_n 2, 1) := by decide +kernel
theorem dX2_isWhole_1 : decode cX2_isWhole 1 = .ok (.bipush (-2), 2) := by decide +kernel
theorem dX2_isWhole_3 : decode cX2_isWhole 3 = .ok (.iload_n 3, 1) := by decide +kernel
theorem dX2_isWhole_4 : decode cX2_isWhole 4 = .ok (.imul, 1) := by decide +kernel
theorem dX2_isWhole_5 : decode cX2_isWhole 5 = .ok (.iand, 1) := by decide +kernel
theorem dX2_isWhole_6 : decode cX2_isWhole 6 = .ok (.istore 4, 2) := by decide +kernel
theorem dX2_isWhole_8 : decode cX2_isWhole 8 = .ok (.aload_n 0, 1) := by decide +kernel
theorem dX2_isWhole_9 : decode cX2_isWhole 9 = .ok (.iload_n 1, 1) := by decide +kernel
theorem dX2_isWhole_10 : decode cX2_isWhole 10 = .ok (.iload_n 2, 1) := by decide +kernel
theorem dX2_isWhole_11 : decode cX2_isWhole 11 = .ok (.iload_n 3, 1) := by decide +kernel
theorem dX2_isWhole_12 : decode cX2_isWhole 12 = .ok (.invokevirtual 50, 3) := by decide +kernel
theorem dX2_isWhole_15 : decode cX2_isWhole 15 = .ok (.ifCond .eq 20, 3) := by decide +kernel
theorem dX2_isWhole_18 : decode cX2_isWhole 18 = .ok (.aload_n 0, 1) := by decide +kernel
theorem dX2_isWhole_19 : decode cX2_isWhole 19 = .ok (.iload_n 1, 1) := by decide +kernel
theorem dX2_isWhole_20 : decode cX2_isWhole 20 = .ok (.iload 4, 2) := by decide +kernel
theorem dX2_isWhole_22 : decode cX2_isWhole 22 = .ok (.iconst 2, 1) := by decide +kernel
theorem dX2_isWhole_23 : decode cX2_isWhole 23 = .ok (.iload_n 3, 1) := by decide +kernel
theorem dX2_isWhole_24 : decode cX2_isWhole 24 = .ok (.imul, 1) := by decide +kernel
theorem dX2_isWhole_25 : decode cX2_isWhole 25 = .ok (.invokevirtual 50, 3) := by decide +kernel
theorem dX2_isWhole_28 : decode cX2_isWhole 28 = .ok (.ifCond .ne 7, 3) := by decide +kernel
theorem dX2_isWhole_31 : decode cX2_isWhole 31 = .ok (.iconst 1, 1) := by decide +kernel
theorem dX2_isWhole_32 : decode cX2_isWhole 32 = .ok (.goto 4, 3) := by decide +kernel
theorem dX2_isWhole_35 : decode cX2_isWhole 35 = .ok (.iconst 0, 1) := by decide +kernel
theorem dX2_isWhole_36 : decode cX2_isWhole 36 = .ok (.ireturn, 1) := by decide +kernel
theorem dX2_find_0 : decode cX2_find 0 = .ok (.iconst (-1), 1) := by decide +kernel
theorem dX2_find_1 : decode cX2_find 1 = .ok (.istore 4, 2) := by decide +kernel
theorem dX2_find_3 : decode cX2_find 3 = .ok (.iconst 0, 1) := by decide +kernel
theorem dX2_find_4 : decode cX2_find 4 = .ok (.istore 5, 2) := by decide +kernel
theorem dX2_find_6 : decode cX2_find 6 = .ok (.iload_n 2, 1) := by decide +kernel
theorem dX2_find_7 : decode cX2_find 7 = .ok (.istore 6, 2) := by decide +kernel
theorem dX2_find_9 : decode cX2_find 9 = .ok (.iload 6, 2) := by decide +kernel
theorem dX2_find_11 : decode cX2_find 11 = .ok (.aload_n 0, 1) := by decide +kernel
theorem dX2_find_12 : decode cX2_find 12 = .ok (.getfield 13, 3) := by decide +kernel
theorem dX2_find_15 : decode cX2_find 15 = .ok (.iload_n 1, 1) := by decide +kernel
theorem dX2_find_16 : decode cX2_find 16 = .ok (.iaload, 1) := by decide +kernel
theorem dX2_find_17 : decode cX2_find 17 = .ok (.if_icmp .gt 97, 3) := by decide +kernel
theorem dX2_find_20 : decode cX2_find 20 = .ok (.aload_n 0, 1) := by decide +kernel
theorem dX2_find_21 : decode cX2_find 21 = .ok (.getfield 7, 3) := by decide +kernel
theorem dX2_find_24 : decode cX2_find 24 = .ok (.iload_n 1, 1) := by decide +kernel
theorem dX2_find_25 : decode cX2_find 25 = .ok (.iaload, 1) := by decide +kernel
theorem dX2_find_26 : decode cX2_find 26 = .ok (.istore 7, 2) := by decide +kernel
theorem dX2_find_28 : decode cX2_find 28 = .ok (.iload 7, 2) := by decide +kernel
theorem dX2_find_30 : decode cX2_find 30 = .ok (.aload_n 0, 1) := by decide +kernel
theorem dX2_find_31 : decode cX2_find 31 = .ok (.getfield 7, 3) := by decide +kernel
theorem dX2_find_34 : decode cX2_find 34 = .ok (.iload_n 1, 1) := by decide +kernel
theorem dX2_find_35 : decode cX2_find 35 = .ok (.iaload, 1) := by decide +kernel
theorem dX2_find_36 : decode cX2_find 36 = .ok (.aload_n 0, 1) := by decide +kernel
theorem dX2_find_37 : decode cX2_find 37 = .ok (.getfield 13, 3) := by decide +kernel
theorem dX2_find_40 : decode cX2_find 40 = .ok (.iload_n 1, 1) := by decide +kernel
theorem dX2_find_41 : decode cX2_find 41 = .ok (.iaload, 1) := by decide +kernel
theorem dX2_find_42 : decode cX2_find 42 = .ok (.iadd, 1) := by decide +kernel
theorem dX2_find_43 : decode cX2_find 43 = .ok (.if_icmp .ge 62, 3) := by decide +kernel
theorem dX2_find_46 : decode cX2_find 46 = .ok (.iload 4, 2) := by decide +kernel
theorem dX2_find_48 : decode cX2_find 48 = .ok (.iconst (-1), 1) := by decide +kernel
theorem dX2_find_49 : decode cX2_find 49 = .ok (.if_icmp .eq 14, 3) := by decide +kernel
theorem dX2_find_52 : decode cX2_find 52 = .ok (.iload_n 3, 1) := by decide +kernel
theorem dX2_find_53 : decode cX2_find 53 = .ok (.ifCond .le 14, 3) := by decide +kernel
theorem dX2_find_56 : decode cX2_find 56 = .ok (.iload 6, 2) := by decide +kernel
theorem dX2_find_58 : decode cX2_find 58 = .ok (.iload 5, 2) := by decide +kernel
theorem dX2_find_60 : decode cX2_find 60 = .ok (.if_icmp .le 7, 3) := by decide +kernel
theorem dX2_find_63 : decode cX2_find 63 = .ok (.iconst 1, 1) := by decide +kernel
theorem dX2_find_64 : decode cX2_find 64 = .ok (.goto 4, 3) := by decide +kernel
theorem dX2_find_67 : decode cX2_find 67 = .ok (.iconst 0, 1) := by decide +kernel
theorem dX2_find_68 : decode cX2_find 68 = .ok (.istore 8, 2) := by decide +kernel
theorem dX2_find_70 : decode cX2_find 70 = .ok (.iload 8, 2) := by decide +kernel
theorem dX2_find_72 : decode cX2_find 72 = .ok (.ifCond .eq 23, 3) := by decide +kernel
theorem dX2_find_75 : decode cX2_find 75 = .ok (.aload_n 0, 1) := by decide +kernel
theorem dX2_find_76 : decode cX2_find 76 = .ok (.iload_n 1, 1) := by decide +kernel
theorem dX2_find_77 : decode cX2_find 77 = .ok (.iload 7, 2) := by decide +kernel
theorem dX2_find_79 : decode cX2_find 79 = .ok (.iload 6, 2) := by decide +kernel
theorem dX2_find_81 : decode cX2_find 81 = .ok (.invokevirtual 53, 3) := by decide +kernel
theorem dX2_find_84 : decode cX2_find 84 = .ok (.ifCond .eq 11, 3) := by decide +kernel
theorem dX2_find_87 : decode cX2_find 87 = .ok (.iload 7, 2) := by decide +kernel
theorem dX2_find_89 : decode cX2_find 89 = .ok (.istore 4, 2) := by decide +kernel
theorem dX2_find_91 : decode cX2_find 91 = .ok (.iload 6, 2) := by decide +kernel
theorem dX2_find_93 : decode cX2_find 93 = .ok (.istore 5, 2) := by decide +kernel
theorem dX2_find_95 : decode cX2_find 95 = .ok (.iload 7, 2) := by decide +kernel
theorem dX2_find_97 : decode cX2_find 97 = .ok (.iload 6, 2) := by decide +kernel
theorem dX2_find_99 : decode cX2_find 99 = .ok (.iadd, 1) := by decide +kernel
theorem dX2_find_100 : decode cX2_find 100 = .ok (.istore 7, 2) := by decide +kernel
theorem dX2_find_102 : decode cX2_find 102 = .ok (.goto (-74), 3) := by decide +kernel
theorem dX2_find_105 : decode cX2_find 105 = .ok (.iload 6, 2) := by decide +kernel
theorem dX2_find_107 : decode cX2_find 107 = .ok (.iconst 2, 1) := by decide +kernel
theorem dX2_find_108 : decode cX2_find 108 = .ok (.imul, 1) := by decide +kernel
theorem dX2_find_109 : decode cX2_find 109 = .ok (.istore 6, 2) := by decide +kernel
theorem dX2_find_111 : decode cX2_find 111 = .ok (.goto (-102), 3) := by decide +kernel
theorem dX2_find_114 : decode cX2_find 114 = .ok (.iload_n 3, 1) := by decide +kernel
theorem dX2_find_115 : decode cX2_find 115 = .ok (.iconst 2, 1) := by decide +kernel
theorem dX2_find_116 : decode cX2_find 116 = .ok (.if_icmp .ne 19, 3) := by decide +kernel
theorem dX2_find_119 : decode cX2_find 119 = .ok (.iload 5, 2) := by decide +kernel
theorem dX2_find_121 : decode cX2_find 121 = .ok (.iload_n 2, 1) := by decide +kernel
theorem dX2_find_122 : decode cX2_find 122 = .ok (.if_icmp .le 13, 3) := by decide +kernel
theorem dX2_find_125 : decode cX2_find 125 = .ok (.iload 4, 2) := by decide +kernel
theorem dX2_find_127 : decode cX2_find 127 = .ok (.iload 5, 2) := by decide +kernel
theorem dX2_find_129 : decode cX2_find 129 = .ok (.iconst 2, 1) := by decide +kernel
theorem dX2_find_130 : decode cX2_find 130 = .ok (.idiv, 1) := by decide +kernel
theorem dX2_find_131 : decode cX2_find 131 = .ok (.iadd, 1) := by decide +kernel
theorem dX2_find_132 : decode cX2_find 132 = .ok (.goto 5, 3) := by decide +kernel
theorem dX2_find_135 : decode cX2_find 135 = .ok (.iload 4, 2) := by decide +kernel
theorem dX2_find_137 : decode cX2_find 137 = .ok (.ireturn, 1) := by decide +kernel
theorem dX2_lentIn_0 : decode cX2_lentIn 0 = .ok (.iconst 0, 1) := by decide +kernel
theorem dX2_lentIn_1 : decode cX2_lentIn 1 = .ok (.istore_n 3, 1) := by decide +kernel
theorem dX2_lentIn_2 : decode cX2_lentIn 2 = .ok (.iload_n 1, 1) := by decide +kernel
theorem dX2_lentIn_3 : decode cX2_lentIn 3 = .ok (.istore 4, 2) := by decide +kernel
theorem dX2_lentIn_5 : decode cX2_lentIn 5 = .ok (.iload 4, 2) := by decide +kernel
theorem dX2_lentIn_7 : decode cX2_lentIn 7 = .ok (.iload_n 1, 1) := by decide +kernel
theorem dX2_lentIn_8 : decode cX2_lentIn 8 = .ok (.iload_n 2, 1) := by decide +kernel
theorem dX2_lentIn_9 : decode cX2_lentIn 9 = .ok (.iadd, 1) := by decide +kernel
theorem dX2_lentIn_10 : decode cX2_lentIn 10 = .ok (.if_icmp .ge 27, 3) := by decide +kernel
theorem dX2_lentIn_13 : decode cX2_lentIn 13 = .ok (.iload_n 3, 1) := by decide +kernel
theorem dX2_lentIn_14 : decode cX2_lentIn 14 = .ok (.aload_n 0, 1) := by decide +kernel
theorem dX2_lentIn_15 : decode cX2_lentIn 15 = .ok (.getfield 30, 3) := by decide +kernel
theorem dX2_lentIn_18 : decode cX2_lentIn 18 = .ok (.iload 4, 2) := by decide +kernel
theorem dX2_lentIn_20 : decode cX2_lentIn 20 = .ok (.iaload, 1) := by decide +kernel
theorem dX2_lentIn_21 : decode cX2_lentIn 21 = .ok (.ifCond .ne 7, 3) := by decide +kernel
theorem dX2_lentIn_24 : decode cX2_lentIn 24 = .ok (.iconst 0, 1) := by decide +kernel
theorem dX2_lentIn_25 : decode cX2_lentIn 25 = .ok (.goto 4, 3) := by decide +kernel
theorem dX2_lentIn_28 : decode cX2_lentIn 28 = .ok (.iconst 1, 1) := by decide +kernel
theorem dX2_lentIn_29 : decode cX2_lentIn 29 = .ok (.iadd, 1) := by decide +kernel
theorem dX2_lentIn_30 : decode cX2_lentIn 30 = .ok (.istore_n 3, 1) := by decide +kernel
theorem dX2_lentIn_31 : decode cX2_lentIn 31 = .ok (.iinc 4 1, 3) := by decide +kernel
theorem dX2_lentIn_34 : decode cX2_lentIn 34 = .ok (.goto (-29), 3) := by decide +kernel
theorem dX2_lentIn_37 : decode cX2_lentIn 37 = .ok (.iload_n 3, 1) := by decide +kernel
theorem dX2_lentIn_38 : decode cX2_lentIn 38 = .ok (.ireturn, 1) := by decide +kernel
theorem dX2_hasSpans_0 : decode cX2_hasSpans 0 = .ok (.aload_n 0, 1) := by decide +kernel
theorem dX2_hasSpans_1 : decode cX2_hasSpans 1 = .ok (.iload_n 1, 1) := by decide +kernel
theorem dX2_hasSpans_2 : decode cX2_hasSpans 2 = .ok (.aload_n 0, 1) := by decide +kernel
theorem dX2_hasSpans_3 : decode cX2_hasSpans 3 = .ok (.getfield 7, 3) := by decide +kernel
theorem dX2_hasSpans_6 : decode cX2_hasSpans 6 = .ok (.iload_n 1, 1) := by decide +kernel
theorem dX2_hasSpans_7 : decode cX2_hasSpans 7 = .ok (.iaload, 1) := by decide +kernel
theorem dX2_hasSpans_8 : decode cX2_hasSpans 8 = .ok (.aload_n 0, 1) := by decide +kernel
theorem dX2_hasSpans_9 : decode cX2_hasSpans 9 = .ok (.getfield 13, 3) := by decide +kernel
theorem dX2_hasSpans_12 : decode cX2_hasSpans 12 = .ok (.iload_n 1, 1) := by decide +kernel
theorem dX2_hasSpans_13 : decode cX2_hasSpans 13 = .ok (.iaload, 1) := by decide +kernel
theorem dX2_hasSpans_14 : decode cX2_hasSpans 14 = .ok (.iconst (-1), 1) := by decide +kernel
theorem dX2_hasSpans_15 : decode cX2_hasSpans 15 = .ok (.invokevirtual 46, 3) := by decide +kernel
theorem dX2_hasSpans_18 : decode cX2_hasSpans 18 = .ok (.ifCond .le 7, 3) := by decide +kernel
theorem dX2_hasSpans_21 : decode cX2_hasSpans 21 = .ok (.iconst 1, 1) := by decide +kernel
theorem dX2_hasSpans_22 : decode cX2_hasSpans 22 = .ok (.goto 4, 3) := by decide +kernel
theorem dX2_hasSpans_25 : decode cX2_hasSpans 25 = .ok (.iconst 0, 1) := by decide +kernel
theorem dX2_hasSpans_26 : decode cX2_hasSpans 26 = .ok (.ireturn, 1) := by decide +kernel
theorem dX2_isClosed_0 : decode cX2_isClosed 0 = .ok (.aload_n 0, 1) := by decide +kernel
theorem dX2_isClosed_1 : decode cX2_isClosed 1 = .ok (.iload_n 1, 1) := by decide +kernel
theorem dX2_isClosed_2 : decode cX2_isClosed 2 = .ok (.invokevirtual 56, 3) := by decide +kernel
theorem dX2_isClosed_5 : decode cX2_isClosed 5 = .ok (.ifCond .ne 26, 3) := by decide +kernel
theorem dX2_isClosed_8 : decode cX2_isClosed 8 = .ok (.aload_n 0, 1) := by decide +kernel
theorem dX2_isClosed_9 : decode cX2_isClosed 9 = .ok (.aload_n 0, 1) := by decide +kernel
theorem dX2_isClosed_10 : decode cX2_isClosed 10 = .ok (.getfield 7, 3) := by decide +kernel
theorem dX2_isClosed_13 : decode cX2_isClosed 13 = .ok (.iload_n 1, 1) := by decide +kernel
theorem dX2_isClosed_14 : decode cX2_isClosed 14 = .ok (.iaload, 1) := by decide +kernel
theorem dX2_isClosed_15 : decode cX2_isClosed 15 = .ok (.aload_n 0, 1) := by decide +kernel
theorem dX2_isClosed_16 : decode cX2_isClosed 16 = .ok (.getfield 13, 3) := by decide +kernel
theorem dX2_isClosed_19 : decode cX2_isClosed 19 = .ok (.iload_n 1, 1) := by decide +kernel
theorem dX2_isClosed_20 : decode cX2_isClosed 20 = .ok (.iaload, 1) := by decide +kernel
theorem dX2_isClosed_21 : decode cX2_isClosed 21 = .ok (.invokevirtual 60, 3) := by decide +kernel
theorem dX2_isClosed_24 : decode cX2_isClosed 24 = .ok (.ifCond .le 7, 3) := by decide +kernel
theorem dX2_isClosed_27 : decode cX2_isClosed 27 = .ok (.iconst 1, 1) := by decide +kernel
theorem dX2_isClosed_28 : decode cX2_isClosed 28 = .ok (.goto 4, 3) := by decide +kernel
theorem dX2_isClosed_31 : decode cX2_isClosed 31 = .ok (.iconst 0, 1) := by decide +kernel
theorem dX2_isClosed_32 : decode cX2_isClosed 32 = .ok (.istore_n 3, 1) := by decide +kernel
theorem dX2_isClosed_33 : decode cX2_isClosed 33 = .ok (.aload_n 0, 1) := by decide +kernel
theorem dX2_isClosed_34 : decode cX2_isClosed 34 = .ok (.getfield 26, 3) := by decide +kernel
theorem dX2_isClosed_37 : decode cX2_isClosed 37 = .ok (.bipush 60, 2) := by decide +kernel
theorem dX2_isClosed_39 : decode cX2_isClosed 39 = .ok (.if_icmp .eq 17, 3) := by decide +kernel
theorem dX2_isClosed_42 : decode cX2_isClosed 42 = .ok (.iload_n 3, 1) := by decide +kernel
theorem dX2_isClosed_43 : decode cX2_isClosed 43 = .ok (.ifCond .ne 13, 3) := by decide +kernel
theorem dX2_isClosed_46 : decode cX2_isClosed 46 = .ok (.iload_n 2, 1) := by decide +kernel
theorem dX2_isClosed_47 : decode cX2_isClosed 47 = .ok (.aload_n 0, 1) := by decide +kernel
theorem dX2_isClosed_48 : decode cX2_isClosed 48 = .ok (.getfield 13, 3) := by decide +kernel
theorem dX2_isClosed_51 : decode cX2_isClosed 51 = .ok (.iload_n 1, 1) := by decide +kernel
theorem dX2_isClosed_52 : decode cX2_isClosed 52 = .ok (.iaload, 1) := by decide +kernel
theorem dX2_isClosed_53 : decode cX2_isClosed 53 = .ok (.if_icmp .lt 7, 3) := by decide +kernel
theorem dX2_isClosed_56 : decode cX2_isClosed 56 = .ok (.iconst 1, 1) := by decide +kernel
theorem dX2_isClosed_57 : decode cX2_isClosed 57 = .ok (.goto 4, 3) := by decide +kernel
theorem dX2_isClosed_60 : decode cX2_isClosed 60 = .ok (.iconst 0, 1) := by decide +kernel
theorem dX2_isClosed_61 : decode cX2_isClosed 61 = .ok (.ireturn, 1) := by decide +kernel
theorem dX2_make_0 : decode cX2_make 0 = .ok (.aload_n 0, 1) := by decide +kernel
theorem dX2_make_1 : decode cX2_make 1 = .ok (.getfield 7, 3) := by decide +kernel
theorem dX2_make_4 : decode cX2_make 4 = .ok (.aload_n 0, 1) := by decide +kernel
theorem dX2_make_5 : decode cX2_make 5 = .ok (.getfield 26, 3) := by decide +kernel
theorem dX2_make_8 : decode cX2_make 8 = .ok (.iload_n 2, 1) := by decide +kernel
theorem dX2_make_9 : decode cX2_make 9 = .ok (.iastore, 1) := by decide +kernel
theorem dX2_make_10 : decode cX2_make 10 = .ok (.aload_n 0, 1) := by decide +kernel
theorem dX2_make_11 : decode cX2_make 11 = .ok (.getfield 13, 3) := by decide +kernel
theorem dX2_make_14 : decode cX2_make 14 = .ok (.aload_n 0, 1) := by decide +kernel
theorem dX2_make_15 : decode cX2_make 15 = .ok (.getfield 26, 3) := by decide +kernel
theorem dX2_make_18 : decode cX2_make 18 = .ok (.iload_n 3, 1) := by decide +kernel
theorem dX2_make_19 : decode cX2_make 19 = .ok (.iastore, 1) := by decide +kernel
theorem dX2_make_20 : decode cX2_make 20 = .ok (.aload_n 0, 1) := by decide +kernel
theorem dX2_make_21 : decode cX2_make 21 = .ok (.getfield 16, 3) := by decide +kernel
theorem dX2_make_24 : decode cX2_make 24 = .ok (.aload_n 0, 1) := by decide +kernel
theorem dX2_make_25 : decode cX2_make 25 = .ok (.getfield 26, 3) := by decide +kernel
theorem dX2_make_28 : decode cX2_make 28 = .ok (.iload_n 1, 1) := by decide +kernel
theorem dX2_make_29 : decode cX2_make 29 = .ok (.iastore, 1) := by decide +kernel
theorem dX2_make_30 : decode cX2_make 30 = .ok (.aload_n 0, 1) := by decide +kernel
theorem dX2_make_31 : decode cX2_make 31 = .ok (.getfield 19, 3) := by decide +kernel
theorem dX2_make_34 : decode cX2_make 34 = .ok (.aload_n 0, 1) := by decide +kernel
theorem dX2_make_35 : decode cX2_make 35 = .ok (.getfield 26, 3) := by decide +kernel
theorem dX2_make_38 : decode cX2_make 38 = .ok (.iload 4, 2) := by decide +kernel
theorem dX2_make_40 : decode cX2_make 40 = .ok (.iastore, 1) := by decide +kernel
theorem dX2_make_41 : decode cX2_make 41 = .ok (.aload_n 0, 1) := by decide +kernel
theorem dX2_make_42 : decode cX2_make 42 = .ok (.getfield 22, 3) := by decide +kernel
theorem dX2_make_45 : decode cX2_make 45 = .ok (.aload_n 0, 1) := by decide +kernel
theorem dX2_make_46 : decode cX2_make 46 = .ok (.getfield 26, 3) := by decide +kernel
theorem dX2_make_49 : decode cX2_make 49 = .ok (.iconst 1, 1) := by decide +kernel
theorem dX2_make_50 : decode cX2_make 50 = .ok (.bastore, 1) := by decide +kernel
theorem dX2_make_51 : decode cX2_make 51 = .ok (.aload_n 0, 1) := by decide +kernel
theorem dX2_make_52 : decode cX2_make 52 = .ok (.dup, 1) := by decide +kernel
theorem dX2_make_53 : decode cX2_make 53 = .ok (.getfield 26, 3) := by decide +kernel
theorem dX2_make_56 : decode cX2_make 56 = .ok (.iconst 1, 1) := by decide +kernel
theorem dX2_make_57 : decode cX2_make 57 = .ok (.iadd, 1) := by decide +kernel
theorem dX2_make_58 : decode cX2_make 58 = .ok (.putfield 26, 3) := by decide +kernel
theorem dX2_make_61 : decode cX2_make 61 = .ok (.aload_n 0, 1) := by decide +kernel
theorem dX2_make_62 : decode cX2_make 62 = .ok (.getfield 26, 3) := by decide +kernel
theorem dX2_make_65 : decode cX2_make 65 = .ok (.iconst 1, 1) := by decide +kernel
theorem dX2_make_66 : decode cX2_make 66 = .ok (.isub, 1) := by decide +kernel
theorem dX2_make_67 : decode cX2_make 67 = .ok (.ireturn, 1) := by decide +kernel
theorem dX2_carve_0 : decode cX2_carve 0 = .ok (.iload_n 2, 1) := by decide +kernel
theorem dX2_carve_1 : decode cX2_carve 1 = .ok (.invokestatic 64, 3) := by decide +kernel
theorem dX2_carve_4 : decode cX2_carve 4 = .ok (.ifCond .eq 24, 3) := by decide +kernel
theorem dX2_carve_7 : decode cX2_carve 7 = .ok (.iload_n 3, 1) := by decide +kernel
theorem dX2_carve_8 : decode cX2_carve 8 = .ok (.invokestatic 67, 3) := by decide +kernel
theorem dX2_carve_11 : decode cX2_carve 11 = .ok (.ifCond .eq 17, 3) := by decide +kernel
theorem dX2_carve_14 : decode cX2_carve 14 = .ok (.iload 4, 2) := by decide +kernel
theorem dX2_carve_16 : decode cX2_carve 16 = .ok (.iconst 0, 1) := by decide +kernel
theorem dX2_carve_17 : decode cX2_carve 17 = .ok (.iconst 2, 1) := by decide +kernel
theorem dX2_carve_18 : decode cX2_carve 18 = .ok (.invokestatic 39, 3) := by decide +kernel
theorem dX2_carve_21 : decode cX2_carve 21 = .ok (.ifCond .eq 7, 3) := by decide +kernel
theorem dX2_carve_24 : decode cX2_carve 24 = .ok (.iconst 1, 1) := by decide +kernel
theorem dX2_carve_25 : decode cX2_carve 25 = .ok (.goto 4, 3) := by decide +kernel
theorem dX2_carve_28 : decode cX2_carve 28 = .ok (.iconst 0, 1) := by decide +kernel
theorem dX2_carve_29 : decode cX2_carve 29 = .ok (.istore 5, 2) := by decide +kernel
theorem dX2_carve_31 : decode cX2_carve 31 = .ok (.aload_n 0, 1) := by decide +kernel
theorem dX2_carve_32 : decode cX2_carve 32 = .ok (.iload_n 1, 1) := by decide +kernel
theorem dX2_carve_33 : decode cX2_carve 33 = .ok (.invokevirtual 70, 3) := by decide +kernel
theorem dX2_carve_36 : decode cX2_carve 36 = .ok (.ifCond .eq 21, 3) := by decide +kernel
theorem dX2_carve_39 : decode cX2_carve 39 = .ok (.iload 5, 2) := by decide +kernel
theorem dX2_carve_41 : decode cX2_carve 41 = .ok (.ifCond .eq 16, 3) := by decide +kernel
theorem dX2_carve_44 : decode cX2_carve 44 = .ok (.aload_n 0, 1) := by decide +kernel
theorem dX2_carve_45 : decode cX2_carve 45 = .ok (.iload_n 1, 1) := by decide +kernel
theorem dX2_carve_46 : decode cX2_carve 46 = .ok (.iload_n 2, 1) := by decide +kernel
theorem dX2_carve_47 : decode cX2_carve 47 = .ok (.invokevirtual 73, 3) := by decide +kernel
theorem dX2_carve_50 : decode cX2_carve 50 = .ok (.ifCond .ne 7, 3) := by decide +kernel
theorem dX2_carve_53 : decode cX2_carve 53 = .ok (.iconst 1, 1) := by decide +kernel
theorem dX2_carve_54 : decode cX2_carve 54 = .ok (.goto 4, 3) := by decide +kernel
theorem dX2_carve_57 : decode cX2_carve 57 = .ok (.iconst 0, 1) := by decide +kernel
theorem dX2_carve_58 : decode cX2_carve 58 = .ok (.istore 6, 2) := by decide +kernel
theorem dX2_carve_60 : decode cX2_carve 60 = .ok (.iload 6, 2) := by decide +kernel
theorem dX2_carve_62 : decode cX2_carve 62 = .ok (.ifCond .eq 14, 3) := by decide +kernel
theorem dX2_carve_65 : decode cX2_carve 65 = .ok (.aload_n 0, 1) := by decide +kernel
theorem dX2_carve_66 : decode cX2_carve 66 = .ok (.iload_n 1, 1) := by decide +kernel
theorem dX2_carve_67 : decode cX2_carve 67 = .ok (.iload_n 2, 1) := by decide +kernel
theorem dX2_carve_68 : decode cX2_carve 68 = .ok (.iload 4, 2) := by decide +kernel
theorem dX2_carve_70 : decode cX2_carve 70 = .ok (.invokevirtual 77, 3) := by decide +kernel
theorem dX2_carve_73 : decode cX2_carve 73 = .ok (.goto 4, 3) := by decide +kernel
theorem dX2_carve_76 : decode cX2_carve 76 = .ok (.iconst (-1), 1) := by decide +kernel
theorem dX2_carve_77 : decode cX2_carve 77 = .ok (.istore 7, 2) := by decide +kernel
theorem dX2_carve_79 : decode cX2_carve 79 = .ok (.aload_n 0, 1) := by decide +kernel
theorem dX2_carve_80 : decode cX2_carve 80 = .ok (.aload_n 0, 1) := by decide +kernel
theorem dX2_carve_81 : decode cX2_carve 81 = .ok (.iload_n 1, 1) := by decide +kernel
theorem dX2_carve_82 : decode cX2_carve 82 = .ok (.invokevirtual 70, 3) := by decide +kernel
theorem dX2_carve_85 : decode cX2_carve 85 = .ok (.ifCond .ne 7, 3) := by decide +kernel
theorem dX2_carve_88 : decode cX2_carve 88 = .ok (.iconst 1, 1) := by decide +kernel
theorem dX2_carve_89 : decode cX2_carve 89 = .ok (.goto 23, 3) := by decide +kernel
theorem dX2_carve_92 : decode cX2_carve 92 = .ok (.iload 5, 2) := by decide +kernel
theorem dX2_carve_94 : decode cX2_carve 94 = .ok (.ifCond .ne 7, 3) := by decide +kernel
theorem dX2_carve_97 : decode cX2_carve 97 = .ok (.iconst 2, 1) := by decide +kernel
theorem dX2_carve_98 : decode cX2_carve 98 = .ok (.goto 14, 3) := by decide +kernel
theorem dX2_carve_101 : decode cX2_carve 101 = .ok (.iload 7, 2) := by decide +kernel
theorem dX2_carve_103 : decode cX2_carve 103 = .ok (.iconst (-1), 1) := by decide +kernel
theorem dX2_carve_104 : decode cX2_carve 104 = .ok (.if_icmp .ne 7, 3) := by decide +kernel
theorem dX2_carve_107 : decode cX2_carve 107 = .ok (.iconst 3, 1) := by decide +kernel
theorem dX2_carve_108 : decode cX2_carve 108 = .ok (.goto 4, 3) := by decide +kernel
theorem dX2_carve_111 : decode cX2_carve 111 = .ok (.iconst 0, 1) := by decide +kernel
theorem dX2_carve_112 : decode cX2_carve 112 = .ok (.invokevirtual 81, 3) := by decide +kernel
theorem dX2_carve_115 : decode cX2_carve 115 = .ok (.ifCond .ne 5, 3) := by decide +kernel
theorem dX2_carve_118 : decode cX2_carve 118 = .ok (.iconst 0, 1) := by decide +kernel
theorem dX2_carve_119 : decode cX2_carve 119 = .ok (.ireturn, 1) := by decide +kernel
theorem dX2_carve_120 : decode cX2_carve 120 = .ok (.aload_n 0, 1) := by decide +kernel
theorem dX2_carve_121 : decode cX2_carve 121 = .ok (.iload_n 1, 1) := by decide +kernel
theorem dX2_carve_122 : decode cX2_carve 122 = .ok (.iload 7, 2) := by decide +kernel
theorem dX2_carve_124 : decode cX2_carve 124 = .ok (.iload_n 2, 1) := by decide +kernel
theorem dX2_carve_125 : decode cX2_carve 125 = .ok (.iload_n 3, 1) := by decide +kernel
theorem dX2_carve_126 : decode cX2_carve 126 = .ok (.invokevirtual 84, 3) := by decide +kernel
theorem dX2_carve_129 : decode cX2_carve 129 = .ok (.ireturn, 1) := by decide +kernel
theorem dX2_carveAt_0 : decode cX2_carveAt 0 = .ok (.iload_n 3, 1) := by decide +kernel
theorem dX2_carveAt_1 : decode cX2_carveAt 1 = .ok (.invokestatic 64, 3) := by decide +kernel
theorem dX2_carveAt_4 : decode cX2_carveAt 4 = .ok (.ifCond .eq 25, 3) := by decide +kernel
theorem dX2_carveAt_7 : decode cX2_carveAt 7 = .ok (.iload 4, 2) := by decide +kernel
theorem dX2_carveAt_9 : decode cX2_carveAt 9 = .ok (.invokestatic 67, 3) := by decide +kernel
theorem dX2_carveAt_12 : decode cX2_carveAt 12 = .ok (.ifCond .eq 17, 3) := by decide +kernel
theorem dX2_carveAt_15 : decode cX2_carveAt 15 = .ok (.iload_n 2, 1) := by decide +kernel
theorem dX2_carveAt_16 : decode cX2_carveAt 16 = .ok (.ifCond .lt 13, 3) := by decide +kernel
theorem dX2_carveAt_19 : decode cX2_carveAt 19 = .ok (.iload_n 2, 1) := by decide +kernel
theorem dX2_carveAt_20 : decode cX2_carveAt 20 = .ok (.iload_n 3, 1) := by decide +kernel
theorem dX2_carveAt_21 : decode cX2_carveAt 21 = .ok (.irem, 1) := by decide +kernel
theorem dX2_carveAt_22 : decode cX2_carveAt 22 = .ok (.ifCond .ne 7, 3) := by decide +kernel
theorem dX2_carveAt_25 : decode cX2_carveAt 25 = .ok (.iconst 1, 1) := by decide +kernel
theorem dX2_carveAt_26 : decode cX2_carveAt 26 = .ok (.goto 4, 3) := by decide +kernel
theorem dX2_carveAt_29 : decode cX2_carveAt 29 = .ok (.iconst 0, 1) := by decide +kernel
theorem dX2_carveAt_30 : decode cX2_carveAt 30 = .ok (.istore 5, 2) := by decide +kernel
theorem dX2_carveAt_32 : decode cX2_carveAt 32 = .ok (.aload_n 0, 1) := by decide +kernel
theorem dX2_carveAt_33 : decode cX2_carveAt 33 = .ok (.iload_n 1, 1) := by decide +kernel
theorem dX2_carveAt_34 : decode cX2_carveAt 34 = .ok (.invokevirtual 70, 3) := by decide +kernel
theorem dX2_carveAt_37 : decode cX2_carveAt 37 = .ok (.ifCond .eq 42, 3) := by decide +kernel
theorem dX2_carveAt_40 : decode cX2_carveAt 40 = .ok (.iload 5, 2) := by decide +kernel
theorem dX2_carveAt_42 : decode cX2_carveAt 42 = .ok (.ifCond .eq 37, 3) := by decide +kernel
theorem dX2_carveAt_45 : decode cX2_carveAt 45 = .ok (.aload_n 0, 1) := by decide +kernel
theorem dX2_carveAt_46 : decode cX2_carveAt 46 = .ok (.iload_n 1, 1) := by decide +kernel
theorem dX2_carveAt_47 : decode cX2_carveAt 47 = .ok (.iload_n 3, 1) := by decide +kernel
theorem dX2_carveAt_48 : decode cX2_carveAt 48 = .ok (.invokevirtual 73, 3) := by decide +kernel
theorem dX2_carveAt_51 : decode cX2_carveAt 51 = .ok (.ifCond .ne 28, 3) := by decide +kernel
theorem dX2_carveAt_54 : decode cX2_carveAt 54 = .ok (.iload_n 2, 1) := by decide +kernel
theorem dX2_carveAt_55 : decode cX2_carveAt 55 = .ok (.iconst 0, 1) := by decide +kernel
theorem dX2_carveAt_56 : decode cX2_carveAt 56 = .ok (.sipush 4095, 3) := by decide +kernel
theorem dX2_carveAt_59 : decode cX2_carveAt 59 = .ok (.invokestatic 39, 3) := by decide +kernel
theorem dX2_carveAt_62 : decode cX2_carveAt 62 = .ok (.ifCond .eq 17, 3) := by decide +kernel
theorem dX2_carveAt_65 : decode cX2_carveAt 65 = .ok (.aload_n 0, 1) := by decide +kernel
theorem dX2_carveAt_66 : decode cX2_carveAt 66 = .ok (.iload_n 1, 1) := by decide +kernel
theorem dX2_carveAt_67 : decode cX2_carveAt 67 = .ok (.iload_n 2, 1) := by decide +kernel
theorem dX2_carveAt_68 : decode cX2_carveAt 68 = .ok (.iload_n 3, 1) := by decide +kernel
theorem dX2_carveAt_69 : decode cX2_carveAt 69 = .ok (.invokevirtual 50, 3) := by decide +kernel
theorem dX2_carveAt_72 : decode cX2_carveAt 72 = .ok (.ifCond .eq 7, 3) := by decide +kernel
theorem dX2_carveAt_75 : decode cX2_carveAt 75 = .ok (.iconst 1, 1) := by decide +kernel
theorem dX2_carveAt_76 : decode cX2_carveAt 76 = .ok (.goto 4, 3) := by decide +kernel
theorem dX2_carveAt_79 : decode cX2_carveAt 79 = .ok (.iconst 0, 1) := by decide +kernel
theorem dX2_carveAt_80 : decode cX2_carveAt 80 = .ok (.istore 6, 2) := by decide +kernel
theorem dX2_carveAt_82 : decode cX2_carveAt 82 = .ok (.aload_n 0, 1) := by decide +kernel
theorem dX2_carveAt_83 : decode cX2_carveAt 83 = .ok (.aload_n 0, 1) := by decide +kernel
theorem dX2_carveAt_84 : decode cX2_carveAt 84 = .ok (.iload_n 1, 1) := by decide +kernel
theorem dX2_carveAt_85 : decode cX2_carveAt 85 = .ok (.invokevirtual 70, 3) := by decide +kernel
theorem dX2_carveAt_88 : decode cX2_carveAt 88 = .ok (.ifCond .ne 7, 3) := by decide +kernel
theorem dX2_carveAt_91 : decode cX2_carveAt 91 = .ok (.iconst 1, 1) := by decide +kernel
theorem dX2_carveAt_92 : decode cX2_carveAt 92 = .ok (.goto 22, 3) := by decide +kernel
theorem dX2_carveAt_95 : decode cX2_carveAt 95 = .ok (.iload 5, 2) := by decide +kernel
theorem dX2_carveAt_97 : decode cX2_carveAt 97 = .ok (.ifCond .ne 7, 3) := by decide +kernel
theorem dX2_carveAt_100 : decode cX2_carveAt 100 = .ok (.iconst 2, 1) := by decide +kernel
theorem dX2_carveAt_101 : decode cX2_carveAt 101 = .ok (.goto 13, 3) := by decide +kernel
theorem dX2_carveAt_104 : decode cX2_carveAt 104 = .ok (.iload 6, 2) := by decide +kernel
theorem dX2_carveAt_106 : decode cX2_carveAt 106 = .ok (.ifCond .eq 7, 3) := by decide +kernel
theorem dX2_carveAt_109 : decode cX2_carveAt 109 = .ok (.iconst 0, 1) := by decide +kernel
theorem dX2_carveAt_110 : decode cX2_carveAt 110 = .ok (.goto 4, 3) := by decide +kernel
theorem dX2_carveAt_113 : decode cX2_carveAt 113 = .ok (.iconst 3, 1) := by decide +kernel
theorem dX2_carveAt_114 : decode cX2_carveAt 114 = .ok (.invokevirtual 81, 3) := by decide +kernel
theorem dX2_carveAt_117 : decode cX2_carveAt 117 = .ok (.ifCond .ne 5, 3) := by decide +kernel
theorem dX2_carveAt_120 : decode cX2_carveAt 120 = .ok (.iconst 0, 1) := by decide +kernel
theorem dX2_carveAt_121 : decode cX2_carveAt 121 = .ok (.ireturn, 1) := by decide +kernel
theorem dX2_carveAt_122 : decode cX2_carveAt 122 = .ok (.aload_n 0, 1) := by decide +kernel
theorem dX2_carveAt_123 : decode cX2_carveAt 123 = .ok (.iload_n 1, 1) := by decide +kernel
theorem dX2_carveAt_124 : decode cX2_carveAt 124 = .ok (.iload_n 2, 1) := by decide +kernel
theorem dX2_carveAt_125 : decode cX2_carveAt 125 = .ok (.iload_n 3, 1) := by decide +kernel
theorem dX2_carveAt_126 : decode cX2_carveAt 126 = .ok (.iload 4, 2) := by decide +kernel
theorem dX2_carveAt_128 : decode cX2_carveAt 128 = .ok (.invokevirtual 84, 3) := by decide +kernel
theorem dX2_carveAt_131 : decode cX2_carveAt 131 = .ok (.ireturn, 1) := by decide +kernel
theorem dX2_remove_0 : decode cX2_remove 0 = .ok (.iload_n 1, 1) := by decide +kernel
theorem dX2_remove_1 : decode cX2_remove 1 = .ok (.ifCond .eq 38, 3) := by decide +kernel
theorem dX2_remove_4 : decode cX2_remove 4 = .ok (.aload_n 0, 1) := by decide +kernel
theorem dX2_remove_5 : decode cX2_remove 5 = .ok (.iload_n 1, 1) := by decide +kernel
theorem dX2_remove_6 : decode cX2_remove 6 = .ok (.invokevirtual 70, 3) := by decide +kernel
theorem dX2_remove_9 : decode cX2_remove 9 = .ok (.ifCond .eq 34, 3) := by decide +kernel
theorem dX2_remove_12 : decode cX2_remove 12 = .ok (.aload_n 0, 1) := by decide +kernel
theorem dX2_remove_13 : decode cX2_remove 13 = .ok (.iload_n 1, 1) := by decide +kernel
theorem dX2_remove_14 : decode cX2_remove 14 = .ok (.invokevirtual 56, 3) := by decide +kernel
theorem dX2_remove_17 : decode cX2_remove 17 = .ok (.ifCond .ne 22, 3) := by decide +kernel
theorem dX2_remove_20 : decode cX2_remove 20 = .ok (.aload_n 0, 1) := by decide +kernel
theorem dX2_remove_21 : decode cX2_remove 21 = .ok (.aload_n 0, 1) := by decide +kernel
theorem dX2_remove_22 : decode cX2_remove 22 = .ok (.getfield 7, 3) := by decide +kernel
theorem dX2_remove_25 : decode cX2_remove 25 = .ok (.iload_n 1, 1) := by decide +kernel
theorem dX2_remove_26 : decode cX2_remove 26 = .ok (.iaload, 1) := by decide +kernel
theorem dX2_remove_27 : decode cX2_remove 27 = .ok (.aload_n 0, 1) := by decide +kernel
theorem dX2_remove_28 : decode cX2_remove 28 = .ok (.getfield 13, 3) := by decide +kernel
theorem dX2_remove_31 : decode cX2_remove 31 = .ok (.iload_n 1, 1) := by decide +kernel
theorem dX2_remove_32 : decode cX2_remove 32 = .ok (.iaload, 1) := by decide +kernel
theorem dX2_remove_33 : decode cX2_remove 33 = .ok (.invokevirtual 60, 3) := by decide +kernel
theorem dX2_remove_36 : decode cX2_remove 36 = .ok (.ifCond .le 7, 3) := by decide +kernel
theorem dX2_remove_39 : decode cX2_remove 39 = .ok (.iconst 1, 1) := by decide +kernel
theorem dX2_remove_40 : decode cX2_remove 40 = .ok (.goto 4, 3) := by decide +kernel
theorem dX2_remove_43 : decode cX2_remove 43 = .ok (.iconst 0, 1) := by decide +kernel
theorem dX2_remove_44 : decode cX2_remove 44 = .ok (.istore_n 2, 1) := by decide +kernel
theorem dX2_remove_45 : decode cX2_remove 45 = .ok (.aload_n 0, 1) := by decide +kernel
theorem dX2_remove_46 : decode cX2_remove 46 = .ok (.aload_n 0, 1) := by decide +kernel
theorem dX2_remove_47 : decode cX2_remove 47 = .ok (.iload_n 1, 1) := by decide +kernel
theorem dX2_remove_48 : decode cX2_remove 48 = .ok (.invokevirtual 70, 3) := by decide +kernel
theorem dX2_remove_51 : decode cX2_remove 51 = .ok (.ifCond .ne 7, 3) := by decide +kernel
theorem dX2_remove_54 : decode cX2_remove 54 = .ok (.iconst 1, 1) := by decide +kernel
theorem dX2_remove_55 : decode cX2_remove 55 = .ok (.goto 12, 3) := by decide +kernel
theorem dX2_remove_58 : decode cX2_remove 58 = .ok (.iload_n 2, 1) := by decide +kernel
theorem dX2_remove_59 : decode cX2_remove 59 = .ok (.ifCond .eq 7, 3) := by decide +kernel
theorem dX2_remove_62 : decode cX2_remove 62 = .ok (.iconst 2, 1) := by decide +kernel
theorem dX2_remove_63 : decode cX2_remove 63 = .ok (.goto 4, 3) := by decide +kernel
theorem dX2_remove_66 : decode cX2_remove 66 = .ok (.iconst 0, 1) := by decide +kernel
theorem dX2_remove_67 : decode cX2_remove 67 = .ok (.invokevirtual 81, 3) := by decide +kernel
theorem dX2_remove_70 : decode cX2_remove 70 = .ok (.ifCond .ne 5, 3) := by decide +kernel
theorem dX2_remove_73 : decode cX2_remove 73 = .ok (.iconst 0, 1) := by decide +kernel
theorem dX2_remove_74 : decode cX2_remove 74 = .ok (.ireturn, 1) := by decide +kernel
theorem dX2_remove_75 : decode cX2_remove 75 = .ok (.aload_n 0, 1) := by decide +kernel
theorem dX2_remove_76 : decode cX2_remove 76 = .ok (.getfield 22, 3) := by decide +kernel
theorem dX2_remove_79 : decode cX2_remove 79 = .ok (.iload_n 1, 1) := by decide +kernel
theorem dX2_remove_80 : decode cX2_remove 80 = .ok (.iconst 0, 1) := by decide +kernel
theorem dX2_remove_81 : decode cX2_remove 81 = .ok (.bastore, 1) := by decide +kernel
theorem dX2_remove_82 : decode cX2_remove 82 = .ok (.aload_n 0, 1) := by decide +kernel
theorem dX2_remove_83 : decode cX2_remove 83 = .ok (.getfield 13, 3) := by decide +kernel
theorem dX2_remove_86 : decode cX2_remove 86 = .ok (.iload_n 1, 1) := by decide +kernel
theorem dX2_remove_87 : decode cX2_remove 87 = .ok (.iaload, 1) := by decide +kernel
theorem dX2_remove_88 : decode cX2_remove 88 = .ok (.ireturn, 1) := by decide +kernel
theorem dX2_canGrow_0 : decode cX2_canGrow 0 = .ok (.iload_n 1, 1) := by decide +kernel
theorem dX2_canGrow_1 : decode cX2_canGrow 1 = .ok (.ifCond .ne 5, 3) := by decide +kernel
theorem dX2_canGrow_4 : decode cX2_canGrow 4 = .ok (.iconst 0, 1) := by decide +kernel
theorem dX2_canGrow_5 : decode cX2_canGrow 5 = .ok (.ireturn, 1) := by decide +kernel
theorem dX2_canGrow_6 : decode cX2_canGrow 6 = .ok (.iconst 2, 1) := by decide +kernel
theorem dX2_canGrow_7 : decode cX2_canGrow 7 = .ok (.aload_n 0, 1) := by decide +kernel
theorem dX2_canGrow_8 : decode cX2_canGrow 8 = .ok (.getfield 13, 3) := by decide +kernel
theorem dX2_canGrow_11 : decode cX2_canGrow 11 = .ok (.iload_n 1, 1) := by decide +kernel
theorem dX2_canGrow_12 : decode cX2_canGrow 12 = .ok (.iaload, 1) := by decide +kernel
theorem dX2_canGrow_13 : decode cX2_canGrow 13 = .ok (.imul, 1) := by decide +kernel
theorem dX2_canGrow_14 : decode cX2_canGrow 14 = .ok (.istore_n 2, 1) := by decide +kernel
theorem dX2_canGrow_15 : decode cX2_canGrow 15 = .ok (.aload_n 0, 1) := by decide +kernel
theorem dX2_canGrow_16 : decode cX2_canGrow 16 = .ok (.getfield 7, 3) := by decide +kernel
theorem dX2_canGrow_19 : decode cX2_canGrow 19 = .ok (.iload_n 1, 1) := by decide +kernel
theorem dX2_canGrow_20 : decode cX2_canGrow 20 = .ok (.iaload, 1) := by decide +kernel
theorem dX2_canGrow_21 : decode cX2_canGrow 21 = .ok (.iload_n 2, 1) := by decide +kernel
theorem dX2_canGrow_22 : decode cX2_canGrow 22 = .ok (.ineg, 1) := by decide +kernel
theorem dX2_canGrow_23 : decode cX2_canGrow 23 = .ok (.iand, 1) := by decide +kernel
theorem dX2_canGrow_24 : decode cX2_canGrow 24 = .ok (.istore_n 3, 1) := by decide +kernel
theorem dX2_canGrow_25 : decode cX2_canGrow 25 = .ok (.aload_n 0, 1) := by decide +kernel
theorem dX2_canGrow_26 : decode cX2_canGrow 26 = .ok (.getfield 16, 3) := by decide +kernel
theorem dX2_canGrow_29 : decode cX2_canGrow 29 = .ok (.iload_n 1, 1) := by decide +kernel
theorem dX2_canGrow_30 : decode cX2_canGrow 30 = .ok (.iaload, 1) := by decide +kernel
theorem dX2_canGrow_31 : decode cX2_canGrow 31 = .ok (.istore 4, 2) := by decide +kernel
theorem dX2_canGrow_33 : decode cX2_canGrow 33 = .ok (.aload_n 0, 1) := by decide +kernel
theorem dX2_canGrow_34 : decode cX2_canGrow 34 = .ok (.iload 4, 2) := by decide +kernel
theorem dX2_canGrow_36 : decode cX2_canGrow 36 = .ok (.iload_n 3, 1) := by decide +kernel
theorem dX2_canGrow_37 : decode cX2_canGrow 37 = .ok (.iload_n 2, 1) := by decide +kernel
theorem dX2_canGrow_38 : decode cX2_canGrow 38 = .ok (.invokevirtual 43, 3) := by decide +kernel
theorem dX2_canGrow_41 : decode cX2_canGrow 41 = .ok (.ifCond .eq 30, 3) := by decide +kernel
theorem dX2_canGrow_44 : decode cX2_canGrow 44 = .ok (.iload_n 2, 1) := by decide +kernel
theorem dX2_canGrow_45 : decode cX2_canGrow 45 = .ok (.aload_n 0, 1) := by decide +kernel
theorem dX2_canGrow_46 : decode cX2_canGrow 46 = .ok (.getfield 13, 3) := by decide +kernel
theorem dX2_canGrow_49 : decode cX2_canGrow 49 = .ok (.iload 4, 2) := by decide +kernel
theorem dX2_canGrow_51 : decode cX2_canGrow 51 = .ok (.iaload, 1) := by decide +kernel
theorem dX2_canGrow_52 : decode cX2_canGrow 52 = .ok (.if_icmp .ge 19, 3) := by decide +kernel
theorem dX2_canGrow_55 : decode cX2_canGrow 55 = .ok (.aload_n 0, 1) := by decide +kernel
theorem dX2_canGrow_56 : decode cX2_canGrow 56 = .ok (.iload 4, 2) := by decide +kernel
theorem dX2_canGrow_58 : decode cX2_canGrow 58 = .ok (.iload_n 3, 1) := by decide +kernel
theorem dX2_canGrow_59 : decode cX2_canGrow 59 = .ok (.iload_n 2, 1) := by decide +kernel
theorem dX2_canGrow_60 : decode cX2_canGrow 60 = .ok (.iload_n 1, 1) := by decide +kernel
theorem dX2_canGrow_61 : decode cX2_canGrow 61 = .ok (.invokevirtual 46, 3) := by decide +kernel
theorem dX2_canGrow_64 : decode cX2_canGrow 64 = .ok (.ifCond .ne 7, 3) := by decide +kernel
theorem dX2_canGrow_67 : decode cX2_canGrow 67 = .ok (.iconst 1, 1) := by decide +kernel
theorem dX2_canGrow_68 : decode cX2_canGrow 68 = .ok (.goto 4, 3) := by decide +kernel
theorem dX2_canGrow_71 : decode cX2_canGrow 71 = .ok (.iconst 0, 1) := by decide +kernel
theorem dX2_canGrow_72 : decode cX2_canGrow 72 = .ok (.ireturn, 1) := by decide +kernel
theorem dX2_grow_0 : decode cX2_grow 0 = .ok (.aload_n 0, 1) := by decide +kernel
theorem dX2_grow_1 : decode cX2_grow 1 = .ok (.iload_n 1, 1) := by decide +kernel
theorem dX2_grow_2 : decode cX2_grow 2 = .ok (.invokevirtual 70, 3) := by decide +kernel
theorem dX2_grow_5 : decode cX2_grow 5 = .ok (.ifCond .eq 15, 3) := by decide +kernel
theorem dX2_grow_8 : decode cX2_grow 8 = .ok (.aload_n 0, 1) := by decide +kernel
theorem dX2_grow_9 : decode cX2_grow 9 = .ok (.iload_n 1, 1) := by decide +kernel
theorem dX2_grow_10 : decode cX2_grow 10 = .ok (.invokevirtual 87, 3) := by decide +kernel
theorem dX2_grow_13 : decode cX2_grow 13 = .ok (.ifCond .eq 7, 3) := by decide +kernel
theorem dX2_grow_16 : decode cX2_grow 16 = .ok (.iconst 1, 1) := by decide +kernel
theorem dX2_grow_17 : decode cX2_grow 17 = .ok (.goto 4, 3) := by decide +kernel
theorem dX2_grow_20 : decode cX2_grow 20 = .ok (.iconst 0, 1) := by decide +kernel
theorem dX2_grow_21 : decode cX2_grow 21 = .ok (.istore_n 2, 1) := by decide +kernel
theorem dX2_grow_22 : decode cX2_grow 22 = .ok (.aload_n 0, 1) := by decide +kernel
theorem dX2_grow_23 : decode cX2_grow 23 = .ok (.aload_n 0, 1) := by decide +kernel
theorem dX2_grow_24 : decode cX2_grow 24 = .ok (.iload_n 1, 1) := by decide +kernel
theorem dX2_grow_25 : decode cX2_grow 25 = .ok (.invokevirtual 70, 3) := by decide +kernel
theorem dX2_grow_28 : decode cX2_grow 28 = .ok (.ifCond .ne 7, 3) := by decide +kernel
theorem dX2_grow_31 : decode cX2_grow 31 = .ok (.iconst 1, 1) := by decide +kernel
theorem dX2_grow_32 : decode cX2_grow 32 = .ok (.goto 12, 3) := by decide +kernel
theorem dX2_grow_35 : decode cX2_grow 35 = .ok (.iload_n 2, 1) := by decide +kernel
theorem dX2_grow_36 : decode cX2_grow 36 = .ok (.ifCond .eq 7, 3) := by decide +kernel
theorem dX2_grow_39 : decode cX2_grow 39 = .ok (.iconst 0, 1) := by decide +kernel
theorem dX2_grow_40 : decode cX2_grow 40 = .ok (.goto 4, 3) := by decide +kernel
theorem dX2_grow_43 : decode cX2_grow 43 = .ok (.iconst 2, 1) := by decide +kernel
theorem dX2_grow_44 : decode cX2_grow 44 = .ok (.invokevirtual 81, 3) := by decide +kernel
theorem dX2_grow_47 : decode cX2_grow 47 = .ok (.ifCond .ne 5, 3) := by decide +kernel
theorem dX2_grow_50 : decode cX2_grow 50 = .ok (.iconst 0, 1) := by decide +kernel
theorem dX2_grow_51 : decode cX2_grow 51 = .ok (.ireturn, 1) := by decide +kernel
theorem dX2_grow_52 : decode cX2_grow 52 = .ok (.aload_n 0, 1) := by decide +kernel
theorem dX2_grow_53 : decode cX2_grow 53 = .ok (.getfield 13, 3) := by decide +kernel
theorem dX2_grow_56 : decode cX2_grow 56 = .ok (.iload_n 1, 1) := by decide +kernel
theorem dX2_grow_57 : decode cX2_grow 57 = .ok (.dup2, 1) := by decide +kernel
theorem dX2_grow_58 : decode cX2_grow 58 = .ok (.iaload, 1) := by decide +kernel
theorem dX2_grow_59 : decode cX2_grow 59 = .ok (.iconst 2, 1) := by decide +kernel
theorem dX2_grow_60 : decode cX2_grow 60 = .ok (.imul, 1) := by decide +kernel
theorem dX2_grow_61 : decode cX2_grow 61 = .ok (.iastore, 1) := by decide +kernel
theorem dX2_grow_62 : decode cX2_grow 62 = .ok (.aload_n 0, 1) := by decide +kernel
theorem dX2_grow_63 : decode cX2_grow 63 = .ok (.getfield 7, 3) := by decide +kernel
theorem dX2_grow_66 : decode cX2_grow 66 = .ok (.iload_n 1, 1) := by decide +kernel
theorem dX2_grow_67 : decode cX2_grow 67 = .ok (.dup2, 1) := by decide +kernel
theorem dX2_grow_68 : decode cX2_grow 68 = .ok (.iaload, 1) := by decide +kernel
theorem dX2_grow_69 : decode cX2_grow 69 = .ok (.aload_n 0, 1) := by decide +kernel
theorem dX2_grow_70 : decode cX2_grow 70 = .ok (.getfield 13, 3) := by decide +kernel
theorem dX2_grow_73 : decode cX2_grow 73 = .ok (.iload_n 1, 1) := by decide +kernel
theorem dX2_grow_74 : decode cX2_grow 74 = .ok (.iaload, 1) := by decide +kernel
theorem dX2_grow_75 : decode cX2_grow 75 = .ok (.ineg, 1) := by decide +kernel
theorem dX2_grow_76 : decode cX2_grow 76 = .ok (.iand, 1) := by decide +kernel
theorem dX2_grow_77 : decode cX2_grow 77 = .ok (.iastore, 1) := by decide +kernel
theorem dX2_grow_78 : decode cX2_grow 78 = .ok (.aload_n 0, 1) := by decide +kernel
theorem dX2_grow_79 : decode cX2_grow 79 = .ok (.getfield 7, 3) := by decide +kernel
theorem dX2_grow_82 : decode cX2_grow 82 = .ok (.iload_n 1, 1) := by decide +kernel
theorem dX2_grow_83 : decode cX2_grow 83 = .ok (.iaload, 1) := by decide +kernel
theorem dX2_grow_84 : decode cX2_grow 84 = .ok (.ireturn, 1) := by decide +kernel
theorem dX2_canHalve_0 : decode cX2_canHalve 0 = .ok (.aload_n 0, 1) := by decide +kernel
theorem dX2_canHalve_1 : decode cX2_canHalve 1 = .ok (.getfield 13, 3) := by decide +kernel
theorem dX2_canHalve_4 : decode cX2_canHalve 4 = .ok (.iload_n 1, 1) := by decide +kernel
theorem dX2_canHalve_5 : decode cX2_canHalve 5 = .ok (.iaload, 1) := by decide +kernel
theorem dX2_canHalve_6 : decode cX2_canHalve 6 = .ok (.iconst 2, 1) := by decide +kernel
theorem dX2_canHalve_7 : decode cX2_canHalve 7 = .ok (.idiv, 1) := by decide +kernel
theorem dX2_canHalve_8 : decode cX2_canHalve 8 = .ok (.istore_n 2, 1) := by decide +kernel
theorem dX2_canHalve_9 : decode cX2_canHalve 9 = .ok (.aload_n 0, 1) := by decide +kernel
theorem dX2_canHalve_10 : decode cX2_canHalve 10 = .ok (.getfield 7, 3) := by decide +kernel
theorem dX2_canHalve_13 : decode cX2_canHalve 13 = .ok (.iload_n 1, 1) := by decide +kernel
theorem dX2_canHalve_14 : decode cX2_canHalve 14 = .ok (.iaload, 1) := by decide +kernel
theorem dX2_canHalve_15 : decode cX2_canHalve 15 = .ok (.iload_n 2, 1) := by decide +kernel
theorem dX2_canHalve_16 : decode cX2_canHalve 16 = .ok (.iadd, 1) := by decide +kernel
theorem dX2_canHalve_17 : decode cX2_canHalve 17 = .ok (.istore_n 3, 1) := by decide +kernel
theorem dX2_canHalve_18 : decode cX2_canHalve 18 = .ok (.iload_n 1, 1) := by decide +kernel
theorem dX2_canHalve_19 : decode cX2_canHalve 19 = .ok (.ifCond .le 31, 3) := by decide +kernel
theorem dX2_canHalve_22 : decode cX2_canHalve 22 = .ok (.iload_n 2, 1) := by decide +kernel
theorem dX2_canHalve_23 : decode cX2_canHalve 23 = .ok (.ifCond .le 27, 3) := by decide +kernel
theorem dX2_canHalve_26 : decode cX2_canHalve 26 = .ok (.aload_n 0, 1) := by decide +kernel
theorem dX2_canHalve_27 : decode cX2_canHalve 27 = .ok (.iload_n 1, 1) := by decide +kernel
theorem dX2_canHalve_28 : decode cX2_canHalve 28 = .ok (.iload_n 3, 1) := by decide +kernel
theorem dX2_canHalve_29 : decode cX2_canHalve 29 = .ok (.iload_n 2, 1) := by decide +kernel
theorem dX2_canHalve_30 : decode cX2_canHalve 30 = .ok (.iconst (-1), 1) := by decide +kernel
theorem dX2_canHalve_31 : decode cX2_canHalve 31 = .ok (.invokevirtual 46, 3) := by decide +kernel
theorem dX2_canHalve_34 : decode cX2_canHalve 34 = .ok (.ifCond .ne 16, 3) := by decide +kernel
theorem dX2_canHalve_37 : decode cX2_canHalve 37 = .ok (.aload_n 0, 1) := by decide +kernel
theorem dX2_canHalve_38 : decode cX2_canHalve 38 = .ok (.iload_n 3, 1) := by decide +kernel
theorem dX2_canHalve_39 : decode cX2_canHalve 39 = .ok (.iload_n 2, 1) := by decide +kernel
theorem dX2_canHalve_40 : decode cX2_canHalve 40 = .ok (.invokevirtual 60, 3) := by decide +kernel
theorem dX2_canHalve_43 : decode cX2_canHalve 43 = .ok (.ifCond .ne 7, 3) := by decide +kernel
theorem dX2_canHalve_46 : decode cX2_canHalve 46 = .ok (.iconst 1, 1) := by decide +kernel
theorem dX2_canHalve_47 : decode cX2_canHalve 47 = .ok (.goto 4, 3) := by decide +kernel
theorem dX2_canHalve_50 : decode cX2_canHalve 50 = .ok (.iconst 0, 1) := by decide +kernel
theorem dX2_canHalve_51 : decode cX2_canHalve 51 = .ok (.ireturn, 1) := by decide +kernel
theorem dX2_halve_0 : decode cX2_halve 0 = .ok (.aload_n 0, 1) := by decide +kernel
theorem dX2_halve_1 : decode cX2_halve 1 = .ok (.iload_n 1, 1) := by decide +kernel
theorem dX2_halve_2 : decode cX2_halve 2 = .ok (.invokevirtual 70, 3) := by decide +kernel
theorem dX2_halve_5 : decode cX2_halve 5 = .ok (.ifCond .eq 15, 3) := by decide +kernel
theorem dX2_halve_8 : decode cX2_halve 8 = .ok (.aload_n 0, 1) := by decide +kernel
theorem dX2_halve_9 : decode cX2_halve 9 = .ok (.iload_n 1, 1) := by decide +kernel
theorem dX2_halve_10 : decode cX2_halve 10 = .ok (.invokevirtual 90, 3) := by decide +kernel
theorem dX2_halve_13 : decode cX2_halve 13 = .ok (.ifCond .eq 7, 3) := by decide +kernel
theorem dX2_halve_16 : decode cX2_halve 16 = .ok (.iconst 1, 1) := by decide +kernel
theorem dX2_halve_17 : decode cX2_halve 17 = .ok (.goto 4, 3) := by decide +kernel
theorem dX2_halve_20 : decode cX2_halve 20 = .ok (.iconst 0, 1) := by decide +kernel
theorem dX2_halve_21 : decode cX2_halve 21 = .ok (.istore_n 2, 1) := by decide +kernel
theorem dX2_halve_22 : decode cX2_halve 22 = .ok (.aload_n 0, 1) := by decide +kernel
theorem dX2_halve_23 : decode cX2_halve 23 = .ok (.aload_n 0, 1) := by decide +kernel
theorem dX2_halve_24 : decode cX2_halve 24 = .ok (.iload_n 1, 1) := by decide +kernel
theorem dX2_halve_25 : decode cX2_halve 25 = .ok (.invokevirtual 70, 3) := by decide +kernel
theorem dX2_halve_28 : decode cX2_halve 28 = .ok (.ifCond .ne 7, 3) := by decide +kernel
theorem dX2_halve_31 : decode cX2_halve 31 = .ok (.iconst 1, 1) := by decide +kernel
theorem dX2_halve_32 : decode cX2_halve 32 = .ok (.goto 12, 3) := by decide +kernel
theorem dX2_halve_35 : decode cX2_halve 35 = .ok (.iload_n 2, 1) := by decide +kernel
theorem dX2_halve_36 : decode cX2_halve 36 = .ok (.ifCond .eq 7, 3) := by decide +kernel
theorem dX2_halve_39 : decode cX2_halve 39 = .ok (.iconst 0, 1) := by decide +kernel
theorem dX2_halve_40 : decode cX2_halve 40 = .ok (.goto 4, 3) := by decide +kernel
theorem dX2_halve_43 : decode cX2_halve 43 = .ok (.iconst 2, 1) := by decide +kernel
theorem dX2_halve_44 : decode cX2_halve 44 = .ok (.invokevirtual 81, 3) := by decide +kernel
theorem dX2_halve_47 : decode cX2_halve 47 = .ok (.ifCond .ne 5, 3) := by decide +kernel
theorem dX2_halve_50 : decode cX2_halve 50 = .ok (.iconst 0, 1) := by decide +kernel
theorem dX2_halve_51 : decode cX2_halve 51 = .ok (.ireturn, 1) := by decide +kernel
theorem dX2_halve_52 : decode cX2_halve 52 = .ok (.aload_n 0, 1) := by decide +kernel
theorem dX2_halve_53 : decode cX2_halve 53 = .ok (.getfield 13, 3) := by decide +kernel
theorem dX2_halve_56 : decode cX2_halve 56 = .ok (.iload_n 1, 1) := by decide +kernel
theorem dX2_halve_57 : decode cX2_halve 57 = .ok (.dup2, 1) := by decide +kernel
theorem dX2_halve_58 : decode cX2_halve 58 = .ok (.iaload, 1) := by decide +kernel
theorem dX2_halve_59 : decode cX2_halve 59 = .ok (.iconst 2, 1) := by decide +kernel
theorem dX2_halve_60 : decode cX2_halve 60 = .ok (.idiv, 1) := by decide +kernel
theorem dX2_halve_61 : decode cX2_halve 61 = .ok (.iastore, 1) := by decide +kernel
theorem dX2_halve_62 : decode cX2_halve 62 = .ok (.aload_n 0, 1) := by decide +kernel
theorem dX2_halve_63 : decode cX2_halve 63 = .ok (.getfield 13, 3) := by decide +kernel
theorem dX2_halve_66 : decode cX2_halve 66 = .ok (.iload_n 1, 1) := by decide +kernel
theorem dX2_halve_67 : decode cX2_halve 67 = .ok (.iaload, 1) := by decide +kernel
theorem dX2_halve_68 : decode cX2_halve 68 = .ok (.ireturn, 1) := by decide +kernel
theorem dX2_setOwner_0 : decode cX2_setOwner 0 = .ok (.aload_n 0, 1) := by decide +kernel
theorem dX2_setOwner_1 : decode cX2_setOwner 1 = .ok (.aload_n 0, 1) := by decide +kernel
theorem dX2_setOwner_2 : decode cX2_setOwner 2 = .ok (.iload_n 1, 1) := by decide +kernel
theorem dX2_setOwner_3 : decode cX2_setOwner 3 = .ok (.invokevirtual 70, 3) := by decide +kernel
theorem dX2_setOwner_6 : decode cX2_setOwner 6 = .ok (.ifCond .ne 7, 3) := by decide +kernel
theorem dX2_setOwner_9 : decode cX2_setOwner 9 = .ok (.iconst 1, 1) := by decide +kernel
theorem dX2_setOwner_10 : decode cX2_setOwner 10 = .ok (.goto 15, 3) := by decide +kernel
theorem dX2_setOwner_13 : decode cX2_setOwner 13 = .ok (.iload_n 2, 1) := by decide +kernel
theorem dX2_setOwner_14 : decode cX2_setOwner 14 = .ok (.invokestatic 67, 3) := by decide +kernel
theorem dX2_setOwner_17 : decode cX2_setOwner 17 = .ok (.ifCond .eq 7, 3) := by decide +kernel
theorem dX2_setOwner_20 : decode cX2_setOwner 20 = .ok (.iconst 0, 1) := by decide +kernel
theorem dX2_setOwner_21 : decode cX2_setOwner 21 = .ok (.goto 4, 3) := by decide +kernel
theorem dX2_setOwner_24 : decode cX2_setOwner 24 = .ok (.iconst 2, 1) := by decide +kernel
theorem dX2_setOwner_25 : decode cX2_setOwner 25 = .ok (.invokevirtual 81, 3) := by decide +kernel
theorem dX2_setOwner_28 : decode cX2_setOwner 28 = .ok (.ifCond .ne 5, 3) := by decide +kernel
theorem dX2_setOwner_31 : decode cX2_setOwner 31 = .ok (.iconst 0, 1) := by decide +kernel
theorem dX2_setOwner_32 : decode cX2_setOwner 32 = .ok (.ireturn, 1) := by decide +kernel
theorem dX2_setOwner_33 : decode cX2_setOwner 33 = .ok (.aload_n 0, 1) := by decide +kernel
theorem dX2_setOwner_34 : decode cX2_setOwner 34 = .ok (.getfield 19, 3) := by decide +kernel
theorem dX2_setOwner_37 : decode cX2_setOwner 37 = .ok (.iload_n 1, 1) := by decide +kernel
theorem dX2_setOwner_38 : decode cX2_setOwner 38 = .ok (.iaload, 1) := by decide +kernel
theorem dX2_setOwner_39 : decode cX2_setOwner 39 = .ok (.istore_n 3, 1) := by decide +kernel
theorem dX2_setOwner_40 : decode cX2_setOwner 40 = .ok (.aload_n 0, 1) := by decide +kernel
theorem dX2_setOwner_41 : decode cX2_setOwner 41 = .ok (.getfield 19, 3) := by decide +kernel
theorem dX2_setOwner_44 : decode cX2_setOwner 44 = .ok (.iload_n 1, 1) := by decide +kernel
theorem dX2_setOwner_45 : decode cX2_setOwner 45 = .ok (.iload_n 2, 1) := by decide +kernel
theorem dX2_setOwner_46 : decode cX2_setOwner 46 = .ok (.iastore, 1) := by decide +kernel
theorem dX2_setOwner_47 : decode cX2_setOwner 47 = .ok (.iload_n 3, 1) := by decide +kernel
theorem dX2_setOwner_48 : decode cX2_setOwner 48 = .ok (.ireturn, 1) := by decide +kernel
theorem dX2_lowestFree_0 : decode cX2_lowestFree 0 = .ok (.aload_n 0, 1) := by decide +kernel
theorem dX2_lowestFree_1 : decode cX2_lowestFree 1 = .ok (.getfield 7, 3) := by decide +kernel
theorem dX2_lowestFree_4 : decode cX2_lowestFree 4 = .ok (.iload_n 1, 1) := by decide +kernel
theorem dX2_lowestFree_5 : decode cX2_lowestFree 5 = .ok (.iaload, 1) := by decide +kernel
theorem dX2_lowestFree_6 : decode cX2_lowestFree 6 = .ok (.istore_n 2, 1) := by decide +kernel
theorem dX2_lowestFree_7 : decode cX2_lowestFree 7 = .ok (.iload_n 2, 1) := by decide +kernel
theorem dX2_lowestFree_8 : decode cX2_lowestFree 8 = .ok (.aload_n 0, 1) := by decide +kernel
theorem dX2_lowestFree_9 : decode cX2_lowestFree 9 = .ok (.getfield 7, 3) := by decide +kernel
theorem dX2_lowestFree_12 : decode cX2_lowestFree 12 = .ok (.iload_n 1, 1) := by decide +kernel
theorem dX2_lowestFree_13 : decode cX2_lowestFree 13 = .ok (.iaload, 1) := by decide +kernel
theorem dX2_lowestFree_14 : decode cX2_lowestFree 14 = .ok (.aload_n 0, 1) := by decide +kernel
theorem dX2_lowestFree_15 : decode cX2_lowestFree 15 = .ok (.getfield 13, 3) := by decide +kernel
theorem dX2_lowestFree_18 : decode cX2_lowestFree 18 = .ok (.iload_n 1, 1) := by decide +kernel
theorem dX2_lowestFree_19 : decode cX2_lowestFree 19 = .ok (.iaload, 1) := by decide +kernel
theorem dX2_lowestFree_20 : decode cX2_lowestFree 20 = .ok (.iadd, 1) := by decide +kernel
theorem dX2_lowestFree_21 : decode cX2_lowestFree 21 = .ok (.if_icmp .ge 20, 3) := by decide +kernel
theorem dX2_lowestFree_24 : decode cX2_lowestFree 24 = .ok (.aload_n 0, 1) := by decide +kernel
theorem dX2_lowestFree_25 : decode cX2_lowestFree 25 = .ok (.getfield 30, 3) := by decide +kernel
theorem dX2_lowestFree_28 : decode cX2_lowestFree 28 = .ok (.iload_n 2, 1) := by decide +kernel
theorem dX2_lowestFree_29 : decode cX2_lowestFree 29 = .ok (.iaload, 1) := by decide +kernel
theorem dX2_lowestFree_30 : decode cX2_lowestFree 30 = .ok (.ifCond .ne 5, 3) := by decide +kernel
theorem dX2_lowestFree_33 : decode cX2_lowestFree 33 = .ok (.iload_n 2, 1) := by decide +kernel
theorem dX2_lowestFree_34 : decode cX2_lowestFree 34 = .ok (.ireturn, 1) := by decide +kernel
theorem dX2_lowestFree_35 : decode cX2_lowestFree 35 = .ok (.iinc 2 1, 3) := by decide +kernel
theorem dX2_lowestFree_38 : decode cX2_lowestFree 38 = .ok (.goto (-31), 3) := by decide +kernel
theorem dX2_lowestFree_41 : decode cX2_lowestFree 41 = .ok (.iconst (-1), 1) := by decide +kernel
theorem dX2_lowestFree_42 : decode cX2_lowestFree 42 = .ok (.ireturn, 1) := by decide +kernel
theorem dX2_lend_0 : decode cX2_lend 0 = .ok (.iload_n 2, 1) := by decide +kernel
theorem dX2_lend_1 : decode cX2_lend 1 = .ok (.iconst 0, 1) := by decide +kernel
theorem dX2_lend_2 : decode cX2_lend 2 = .ok (.bipush 100, 2) := by decide +kernel
theorem dX2_lend_4 : decode cX2_lend 4 = .ok (.invokestatic 39, 3) := by decide +kernel
theorem dX2_lend_7 : decode cX2_lend 7 = .ok (.istore_n 3, 1) := by decide +kernel
theorem dX2_lend_8 : decode cX2_lend 8 = .ok (.aload_n 0, 1) := by decide +kernel
theorem dX2_lend_9 : decode cX2_lend 9 = .ok (.iload_n 1, 1) := by decide +kernel
theorem dX2_lend_10 : decode cX2_lend 10 = .ok (.invokevirtual 70, 3) := by decide +kernel
theorem dX2_lend_13 : decode cX2_lend 13 = .ok (.ifCond .eq 29, 3) := by decide +kernel
theorem dX2_lend_16 : decode cX2_lend 16 = .ok (.aload_n 0, 1) := by decide +kernel
theorem dX2_lend_17 : decode cX2_lend 17 = .ok (.iload_n 1, 1) := by decide +kernel
theorem dX2_lend_18 : decode cX2_lend 18 = .ok (.invokevirtual 56, 3) := by decide +kernel
theorem dX2_lend_21 : decode cX2_lend 21 = .ok (.ifCond .ne 21, 3) := by decide +kernel
theorem dX2_lend_24 : decode cX2_lend 24 = .ok (.aload_n 0, 1) := by decide +kernel
theorem dX2_lend_25 : decode cX2_lend 25 = .ok (.getfield 93, 3) := by decide +kernel
theorem dX2_lend_28 : decode cX2_lend 28 = .ok (.sipush 200, 3) := by decide +kernel
theorem dX2_lend_31 : decode cX2_lend 31 = .ok (.if_icmp .ge 11, 3) := by decide +kernel
theorem dX2_lend_34 : decode cX2_lend 34 = .ok (.aload_n 0, 1) := by decide +kernel
theorem dX2_lend_35 : decode cX2_lend 35 = .ok (.iload_n 1, 1) := by decide +kernel
theorem dX2_lend_36 : decode cX2_lend 36 = .ok (.invokevirtual 96, 3) := by decide +kernel
theorem dX2_lend_39 : decode cX2_lend 39 = .ok (.goto 4, 3) := by decide +kernel
theorem dX2_lend_42 : decode cX2_lend 42 = .ok (.iconst (-1), 1) := by decide +kernel
theorem dX2_lend_43 : decode cX2_lend 43 = .ok (.istore 4, 2) := by decide +kernel
theorem dX2_lend_45 : decode cX2_lend 45 = .ok (.aload_n 0, 1) := by decide +kernel
theorem dX2_lend_46 : decode cX2_lend 46 = .ok (.aload_n 0, 1) := by decide +kernel
theorem dX2_lend_47 : decode cX2_lend 47 = .ok (.iload_n 1, 1) := by decide +kernel
theorem dX2_lend_48 : decode cX2_lend 48 = .ok (.invokevirtual 70, 3) := by decide +kernel
theorem dX2_lend_51 : decode cX2_lend 51 = .ok (.ifCond .ne 7, 3) := by decide +kernel
theorem dX2_lend_54 : decode cX2_lend 54 = .ok (.iconst 1, 1) := by decide +kernel
theorem dX2_lend_55 : decode cX2_lend 55 = .ok (.goto 22, 3) := by decide +kernel
theorem dX2_lend_58 : decode cX2_lend 58 = .ok (.iload_n 3, 1) := by decide +kernel
theorem dX2_lend_59 : decode cX2_lend 59 = .ok (.ifCond .ne 7, 3) := by decide +kernel
theorem dX2_lend_62 : decode cX2_lend 62 = .ok (.iconst 2, 1) := by decide +kernel
theorem dX2_lend_63 : decode cX2_lend 63 = .ok (.goto 14, 3) := by decide +kernel
theorem dX2_lend_66 : decode cX2_lend 66 = .ok (.iload 4, 2) := by decide +kernel
theorem dX2_lend_68 : decode cX2_lend 68 = .ok (.iconst (-1), 1) := by decide +kernel
theorem dX2_lend_69 : decode cX2_lend 69 = .ok (.if_icmp .ne 7, 3) := by decide +kernel
theorem dX2_lend_72 : decode cX2_lend 72 = .ok (.iconst 3, 1) := by decide +kernel
theorem dX2_lend_73 : decode cX2_lend 73 = .ok (.goto 4, 3) := by decide +kernel
theorem dX2_lend_76 : decode cX2_lend 76 = .ok (.iconst 0, 1) := by decide +kernel
theorem dX2_lend_77 : decode cX2_lend 77 = .ok (.invokevirtual 81, 3) := by decide +kernel
theorem dX2_lend_80 : decode cX2_lend 80 = .ok (.ifCond .ne 5, 3) := by decide +kernel
theorem dX2_lend_83 : decode cX2_lend 83 = .ok (.iconst 0, 1) := by decide +kernel
theorem dX2_lend_84 : decode cX2_lend 84 = .ok (.ireturn, 1) := by decide +kernel
theorem dX2_lend_85 : decode cX2_lend 85 = .ok (.aload_n 0, 1) := by decide +kernel
theorem dX2_lend_86 : decode cX2_lend 86 = .ok (.getfield 30, 3) := by decide +kernel
theorem dX2_lend_89 : decode cX2_lend 89 = .ok (.iload 4, 2) := by decide +kernel
theorem dX2_lend_91 : decode cX2_lend 91 = .ok (.iload_n 2, 1) := by decide +kernel
theorem dX2_lend_92 : decode cX2_lend 92 = .ok (.ifCond .ne 7, 3) := by decide +kernel
theorem dX2_lend_95 : decode cX2_lend 95 = .ok (.iconst (-1), 1) := by decide +kernel
theorem dX2_lend_96 : decode cX2_lend 96 = .ok (.goto 9, 3) := by decide +kernel
theorem dX2_lend_99 : decode cX2_lend 99 = .ok (.aload_n 0, 1) := by decide +kernel
theorem dX2_lend_100 : decode cX2_lend 100 = .ok (.getfield 100, 3) := by decide +kernel
theorem dX2_lend_103 : decode cX2_lend 103 = .ok (.iload_n 2, 1) := by decide +kernel
theorem dX2_lend_104 : decode cX2_lend 104 = .ok (.iadd, 1) := by decide +kernel
theorem dX2_lend_105 : decode cX2_lend 105 = .ok (.iastore, 1) := by decide +kernel
theorem dX2_lend_106 : decode cX2_lend 106 = .ok (.aload_n 0, 1) := by decide +kernel
theorem dX2_lend_107 : decode cX2_lend 107 = .ok (.dup, 1) := by decide +kernel
theorem dX2_lend_108 : decode cX2_lend 108 = .ok (.getfield 93, 3) := by decide +kernel
theorem dX2_lend_111 : decode cX2_lend 111 = .ok (.iconst 1, 1) := by decide +kernel
theorem dX2_lend_112 : decode cX2_lend 112 = .ok (.iadd, 1) := by decide +kernel
theorem dX2_lend_113 : decode cX2_lend 113 = .ok (.putfield 93, 3) := by decide +kernel
theorem dX2_lend_116 : decode cX2_lend 116 = .ok (.iload 4, 2) := by decide +kernel
theorem dX2_lend_118 : decode cX2_lend 118 = .ok (.ireturn, 1) := by decide +kernel
theorem dX2_takeBack_0 : decode cX2_takeBack 0 = .ok (.iload_n 1, 1) := by decide +kernel
theorem dX2_takeBack_1 : decode cX2_takeBack 1 = .ok (.invokestatic 103, 3) := by decide +kernel
theorem dX2_takeBack_4 : decode cX2_takeBack 4 = .ok (.istore_n 2, 1) := by decide +kernel
theorem dX2_takeBack_5 : decode cX2_takeBack 5 = .ok (.aload_n 0, 1) := by decide +kernel
theorem dX2_takeBack_6 : decode cX2_takeBack 6 = .ok (.iload_n 2, 1) := by decide +kernel
theorem dX2_takeBack_7 : decode cX2_takeBack 7 = .ok (.ifCond .ne 7, 3) := by decide +kernel
theorem dX2_takeBack_10 : decode cX2_takeBack 10 = .ok (.iconst 1, 1) := by decide +kernel
theorem dX2_takeBack_11 : decode cX2_takeBack 11 = .ok (.goto 17, 3) := by decide +kernel
theorem dX2_takeBack_14 : decode cX2_takeBack 14 = .ok (.aload_n 0, 1) := by decide +kernel
theorem dX2_takeBack_15 : decode cX2_takeBack 15 = .ok (.getfield 30, 3) := by decide +kernel
theorem dX2_takeBack_18 : decode cX2_takeBack 18 = .ok (.iload_n 1, 1) := by decide +kernel
theorem dX2_takeBack_19 : decode cX2_takeBack 19 = .ok (.iaload, 1) := by decide +kernel
theorem dX2_takeBack_20 : decode cX2_takeBack 20 = .ok (.ifCond .ne 7, 3) := by decide +kernel
theorem dX2_takeBack_23 : decode cX2_takeBack 23 = .ok (.iconst 2, 1) := by decide +kernel
theorem dX2_takeBack_24 : decode cX2_takeBack 24 = .ok (.goto 4, 3) := by decide +kernel
theorem dX2_takeBack_27 : decode cX2_takeBack 27 = .ok (.iconst 0, 1) := by decide +kernel
theorem dX2_takeBack_28 : decode cX2_takeBack 28 = .ok (.invokevirtual 81, 3) := by decide +kernel
theorem dX2_takeBack_31 : decode cX2_takeBack 31 = .ok (.ifCond .ne 5, 3) := by decide +kernel
theorem dX2_takeBack_34 : decode cX2_takeBack 34 = .ok (.iconst 0, 1) := by decide +kernel
theorem dX2_takeBack_35 : decode cX2_takeBack 35 = .ok (.ireturn, 1) := by decide +kernel
theorem dX2_takeBack_36 : decode cX2_takeBack 36 = .ok (.aload_n 0, 1) := by decide +kernel
theorem dX2_takeBack_37 : decode cX2_takeBack 37 = .ok (.getfield 30, 3) := by decide +kernel
theorem dX2_takeBack_40 : decode cX2_takeBack 40 = .ok (.iload_n 1, 1) := by decide +kernel
theorem dX2_takeBack_41 : decode cX2_takeBack 41 = .ok (.iaload, 1) := by decide +kernel
theorem dX2_takeBack_42 : decode cX2_takeBack 42 = .ok (.iconst (-1), 1) := by decide +kernel
theorem dX2_takeBack_43 : decode cX2_takeBack 43 = .ok (.if_icmp .ne 7, 3) := by decide +kernel
theorem dX2_takeBack_46 : decode cX2_takeBack 46 = .ok (.iconst 0, 1) := by decide +kernel
theorem dX2_takeBack_47 : decode cX2_takeBack 47 = .ok (.goto 14, 3) := by decide +kernel
theorem dX2_takeBack_50 : decode cX2_takeBack 50 = .ok (.aload_n 0, 1) := by decide +kernel
theorem dX2_takeBack_51 : decode cX2_takeBack 51 = .ok (.getfield 30, 3) := by decide +kernel
theorem dX2_takeBack_54 : decode cX2_takeBack 54 = .ok (.iload_n 1, 1) := by decide +kernel
theorem dX2_takeBack_55 : decode cX2_takeBack 55 = .ok (.iaload, 1) := by decide +kernel
theorem dX2_takeBack_56 : decode cX2_takeBack 56 = .ok (.aload_n 0, 1) := by decide +kernel
theorem dX2_takeBack_57 : decode cX2_takeBack 57 = .ok (.getfield 100, 3) := by decide +kernel
theorem dX2_takeBack_60 : decode cX2_takeBack 60 = .ok (.isub, 1) := by decide +kernel
theorem dX2_takeBack_61 : decode cX2_takeBack 61 = .ok (.istore_n 3, 1) := by decide +kernel
theorem dX2_takeBack_62 : decode cX2_takeBack 62 = .ok (.aload_n 0, 1) := by decide +kernel
theorem dX2_takeBack_63 : decode cX2_takeBack 63 = .ok (.getfield 30, 3) := by decide +kernel
theorem dX2_takeBack_66 : decode cX2_takeBack 66 = .ok (.iload_n 1, 1) := by decide +kernel
theorem dX2_takeBack_67 : decode cX2_takeBack 67 = .ok (.iconst 0, 1) := by decide +kernel
theorem dX2_takeBack_68 : decode cX2_takeBack 68 = .ok (.iastore, 1) := by decide +kernel
theorem dX2_takeBack_69 : decode cX2_takeBack 69 = .ok (.aload_n 0, 1) := by decide +kernel
theorem dX2_takeBack_70 : decode cX2_takeBack 70 = .ok (.dup, 1) := by decide +kernel
theorem dX2_takeBack_71 : decode cX2_takeBack 71 = .ok (.getfield 93, 3) := by decide +kernel
theorem dX2_takeBack_74 : decode cX2_takeBack 74 = .ok (.iconst 1, 1) := by decide +kernel
theorem dX2_takeBack_75 : decode cX2_takeBack 75 = .ok (.isub, 1) := by decide +kernel
theorem dX2_takeBack_76 : decode cX2_takeBack 76 = .ok (.putfield 93, 3) := by decide +kernel
theorem dX2_takeBack_79 : decode cX2_takeBack 79 = .ok (.iload_n 3, 1) := by decide +kernel
theorem dX2_takeBack_80 : decode cX2_takeBack 80 = .ok (.ireturn, 1) := by decide +kernel
theorem dX2_pass_0 : decode cX2_pass 0 = .ok (.iload_n 1, 1) := by decide +kernel
theorem dX2_pass_1 : decode cX2_pass 1 = .ok (.iconst 1, 1) := by decide +kernel
theorem dX2_pass_2 : decode cX2_pass 2 = .ok (.sipush 1000, 3) := by decide +kernel
theorem dX2_pass_5 : decode cX2_pass 5 = .ok (.invokestatic 39, 3) := by decide +kernel
theorem dX2_pass_8 : decode cX2_pass 8 = .ok (.istore_n 2, 1) := by decide +kernel
theorem dX2_pass_9 : decode cX2_pass 9 = .ok (.aload_n 0, 1) := by decide +kernel
theorem dX2_pass_10 : decode cX2_pass 10 = .ok (.iload_n 2, 1) := by decide +kernel
theorem dX2_pass_11 : decode cX2_pass 11 = .ok (.ifCond .ne 7, 3) := by decide +kernel
theorem dX2_pass_14 : decode cX2_pass 14 = .ok (.iconst 1, 1) := by decide +kernel
theorem dX2_pass_15 : decode cX2_pass 15 = .ok (.goto 19, 3) := by decide +kernel
theorem dX2_pass_18 : decode cX2_pass 18 = .ok (.aload_n 0, 1) := by decide +kernel
theorem dX2_pass_19 : decode cX2_pass 19 = .ok (.getfield 100, 3) := by decide +kernel
theorem dX2_pass_22 : decode cX2_pass 22 = .ok (.iload_n 1, 1) := by decide +kernel
theorem dX2_pass_23 : decode cX2_pass 23 = .ok (.iadd, 1) := by decide +kernel
theorem dX2_pass_24 : decode cX2_pass 24 = .ok (.ldc 106, 2) := by decide +kernel
theorem dX2_pass_26 : decode cX2_pass 26 = .ok (.if_icmp .le 7, 3) := by decide +kernel
theorem dX2_pass_29 : decode cX2_pass 29 = .ok (.iconst 2, 1) := by decide +kernel
theorem dX2_pass_30 : decode cX2_pass 30 = .ok (.goto 4, 3) := by decide +kernel
theorem dX2_pass_33 : decode cX2_pass 33 = .ok (.iconst 0, 1) := by decide +kernel
theorem dX2_pass_34 : decode cX2_pass 34 = .ok (.invokevirtual 81, 3) := by decide +kernel
theorem dX2_pass_37 : decode cX2_pass 37 = .ok (.ifCond .ne 5, 3) := by decide +kernel
theorem dX2_pass_40 : decode cX2_pass 40 = .ok (.iconst 0, 1) := by decide +kernel
theorem dX2_pass_41 : decode cX2_pass 41 = .ok (.ireturn, 1) := by decide +kernel
theorem dX2_pass_42 : decode cX2_pass 42 = .ok (.aload_n 0, 1) := by decide +kernel
theorem dX2_pass_43 : decode cX2_pass 43 = .ok (.dup, 1) := by decide +kernel
theorem dX2_pass_44 : decode cX2_pass 44 = .ok (.getfield 100, 3) := by decide +kernel
theorem dX2_pass_47 : decode cX2_pass 47 = .ok (.iload_n 1, 1) := by decide +kernel
theorem dX2_pass_48 : decode cX2_pass 48 = .ok (.iadd, 1) := by decide +kernel
theorem dX2_pass_49 : decode cX2_pass 49 = .ok (.putfield 100, 3) := by decide +kernel
theorem dX2_pass_52 : decode cX2_pass 52 = .ok (.iconst 0, 1) := by decide +kernel
theorem dX2_pass_53 : decode cX2_pass 53 = .ok (.istore_n 3, 1) := by decide +kernel
theorem dX2_pass_54 : decode cX2_pass 54 = .ok (.iconst 0, 1) := by decide +kernel
theorem dX2_pass_55 : decode cX2_pass 55 = .ok (.istore 4, 2) := by decide +kernel
theorem dX2_pass_57 : decode cX2_pass 57 = .ok (.iload 4, 2) := by decide +kernel
theorem dX2_pass_59 : decode cX2_pass 59 = .ok (.sipush 4096, 3) := by decide +kernel
theorem dX2_pass_62 : decode cX2_pass 62 = .ok (.if_icmp .ge 44, 3) := by decide +kernel
theorem dX2_pass_65 : decode cX2_pass 65 = .ok (.aload_n 0, 1) := by decide +kernel
theorem dX2_pass_66 : decode cX2_pass 66 = .ok (.getfield 30, 3) := by decide +kernel
theorem dX2_pass_69 : decode cX2_pass 69 = .ok (.iload 4, 2) := by decide +kernel
theorem dX2_pass_71 : decode cX2_pass 71 = .ok (.iaload, 1) := by decide +kernel
theorem dX2_pass_72 : decode cX2_pass 72 = .ok (.ifCond .le 28, 3) := by decide +kernel
theorem dX2_pass_75 : decode cX2_pass 75 = .ok (.aload_n 0, 1) := by decide +kernel
theorem dX2_pass_76 : decode cX2_pass 76 = .ok (.getfield 30, 3) := by decide +kernel
theorem dX2_pass_79 : decode cX2_pass 79 = .ok (.iload 4, 2) := by decide +kernel
theorem dX2_pass_81 : decode cX2_pass 81 = .ok (.iaload, 1) := by decide +kernel
theorem dX2_pass_82 : decode cX2_pass 82 = .ok (.aload_n 0, 1) := by decide +kernel
theorem dX2_pass_83 : decode cX2_pass 83 = .ok (.getfield 100, 3) := by decide +kernel
theorem dX2_pass_86 : decode cX2_pass 86 = .ok (.if_icmp .gt 14, 3) := by decide +kernel
theorem dX2_pass_89 : decode cX2_pass 89 = .ok (.aload_n 0, 1) := by decide +kernel
theorem dX2_pass_90 : decode cX2_pass 90 = .ok (.getfield 30, 3) := by decide +kernel
theorem dX2_pass_93 : decode cX2_pass 93 = .ok (.iload 4, 2) := by decide +kernel
theorem dX2_pass_95 : decode cX2_pass 95 = .ok (.iconst 0, 1) := by decide +kernel
theorem dX2_pass_96 : decode cX2_pass 96 = .ok (.iastore, 1) := by decide +kernel
theorem dX2_pass_97 : decode cX2_pass 97 = .ok (.iinc 3 1, 3) := by decide +kernel
theorem dX2_pass_100 : decode cX2_pass 100 = .ok (.iinc 4 1, 3) := by decide +kernel
theorem dX2_pass_103 : decode cX2_pass 103 = .ok (.goto (-46), 3) := by decide +kernel
theorem dX2_pass_106 : decode cX2_pass 106 = .ok (.aload_n 0, 1) := by decide +kernel
theorem dX2_pass_107 : decode cX2_pass 107 = .ok (.dup, 1) := by decide +kernel
theorem dX2_pass_108 : decode cX2_pass 108 = .ok (.getfield 93, 3) := by decide +kernel
theorem dX2_pass_111 : decode cX2_pass 111 = .ok (.iload_n 3, 1) := by decide +kernel
theorem dX2_pass_112 : decode cX2_pass 112 = .ok (.isub, 1) := by decide +kernel
theorem dX2_pass_113 : decode cX2_pass 113 = .ok (.putfield 93, 3) := by decide +kernel
theorem dX2_pass_116 : decode cX2_pass 116 = .ok (.iload_n 3, 1) := by decide +kernel
theorem dX2_pass_117 : decode cX2_pass 117 = .ok (.ireturn, 1) := by decide +kernel
theorem dX2_day_0 : decode cX2_day 0 = .ok (.aload_n 0, 1) := by decide +kernel
theorem dX2_day_1 : decode cX2_day 1 = .ok (.iconst 0, 1) := by decide +kernel
theorem dX2_day_2 : decode cX2_day 2 = .ok (.putfield 36, 3) := by decide +kernel
theorem dX2_day_5 : decode cX2_day 5 = .ok (.aload_n 0, 1) := by decide +kernel
theorem dX2_day_6 : decode cX2_day 6 = .ok (.getfield 100, 3) := by decide +kernel
theorem dX2_day_9 : decode cX2_day 9 = .ok (.ireturn, 1) := by decide +kernel
theorem dX2_spans_0 : decode cX2_spans 0 = .ok (.aload_n 0, 1) := by decide +kernel
theorem dX2_spans_1 : decode cX2_spans 1 = .ok (.iconst 0, 1) := by decide +kernel
theorem dX2_spans_2 : decode cX2_spans 2 = .ok (.putfield 36, 3) := by decide +kernel
theorem dX2_spans_5 : decode cX2_spans 5 = .ok (.iconst 0, 1) := by decide +kernel
theorem dX2_spans_6 : decode cX2_spans 6 = .ok (.istore_n 1, 1) := by decide +kernel
theorem dX2_spans_7 : decode cX2_spans 7 = .ok (.iconst 0, 1) := by decide +kernel
theorem dX2_spans_8 : decode cX2_spans 8 = .ok (.istore_n 2, 1) := by decide +kernel
theorem dX2_spans_9 : decode cX2_spans 9 = .ok (.iload_n 2, 1) := by decide +kernel
theorem dX2_spans_10 : decode cX2_spans 10 = .ok (.aload_n 0, 1) := by decide +kernel
theorem dX2_spans_11 : decode cX2_spans 11 = .ok (.getfield 26, 3) := by decide +kernel
theorem dX2_spans_14 : decode cX2_spans 14 = .ok (.if_icmp .ge 26, 3) := by decide +kernel
theorem dX2_spans_17 : decode cX2_spans 17 = .ok (.iload_n 1, 1) := by decide +kernel
theorem dX2_spans_18 : decode cX2_spans 18 = .ok (.aload_n 0, 1) := by decide +kernel
theorem dX2_spans_19 : decode cX2_spans 19 = .ok (.getfield 22, 3) := by decide +kernel
theorem dX2_spans_22 : decode cX2_spans 22 = .ok (.iload_n 2, 1) := by decide +kernel
theorem dX2_spans_23 : decode cX2_spans 23 = .ok (.baload, 1) := by decide +kernel
theorem dX2_spans_24 : decode cX2_spans 24 = .ok (.ifCond .eq 7, 3) := by decide +kernel
theorem dX2_spans_27 : decode cX2_spans 27 = .ok (.iconst 1, 1) := by decide +kernel
theorem dX2_spans_28 : decode cX2_spans 28 = .ok (.goto 4, 3) := by decide +kernel
theorem dX2_spans_31 : decode cX2_spans 31 = .ok (.iconst 0, 1) := by decide +kernel
theorem dX2_spans_32 : decode cX2_spans 32 = .ok (.iadd, 1) := by decide +kernel
theorem dX2_spans_33 : decode cX2_spans 33 = .ok (.istore_n 1, 1) := by decide +kernel
theorem dX2_spans_34 : decode cX2_spans 34 = .ok (.iinc 2 1, 3) := by decide +kernel
theorem dX2_spans_37 : decode cX2_spans 37 = .ok (.goto (-28), 3) := by decide +kernel
theorem dX2_spans_40 : decode cX2_spans 40 = .ok (.iload_n 1, 1) := by decide +kernel
theorem dX2_spans_41 : decode cX2_spans 41 = .ok (.ireturn, 1) := by decide +kernel
theorem dX2_isThere_0 : decode cX2_isThere 0 = .ok (.aload_n 0, 1) := by decide +kernel
theorem dX2_isThere_1 : decode cX2_isThere 1 = .ok (.iconst 0, 1) := by decide +kernel
theorem dX2_isThere_2 : decode cX2_isThere 2 = .ok (.putfield 36, 3) := by decide +kernel
theorem dX2_isThere_5 : decode cX2_isThere 5 = .ok (.aload_n 0, 1) := by decide +kernel
theorem dX2_isThere_6 : decode cX2_isThere 6 = .ok (.iload_n 1, 1) := by decide +kernel
theorem dX2_isThere_7 : decode cX2_isThere 7 = .ok (.invokevirtual 70, 3) := by decide +kernel
theorem dX2_isThere_10 : decode cX2_isThere 10 = .ok (.ireturn, 1) := by decide +kernel
theorem dX2_base_0 : decode cX2_base 0 = .ok (.aload_n 0, 1) := by decide +kernel
theorem dX2_base_1 : decode cX2_base 1 = .ok (.aload_n 0, 1) := by decide +kernel
theorem dX2_base_2 : decode cX2_base 2 = .ok (.iload_n 1, 1) := by decide +kernel
theorem dX2_base_3 : decode cX2_base 3 = .ok (.invokevirtual 70, 3) := by decide +kernel
theorem dX2_base_6 : decode cX2_base 6 = .ok (.ifCond .eq 7, 3) := by decide +kernel
theorem dX2_base_9 : decode cX2_base 9 = .ok (.iconst 0, 1) := by decide +kernel
theorem dX2_base_10 : decode cX2_base 10 = .ok (.goto 4, 3) := by decide +kernel
theorem dX2_base_13 : decode cX2_base 13 = .ok (.iconst 1, 1) := by decide +kernel
theorem dX2_base_14 : decode cX2_base 14 = .ok (.invokevirtual 81, 3) := by decide +kernel
theorem dX2_base_17 : decode cX2_base 17 = .ok (.ifCond .eq 12, 3) := by decide +kernel
theorem dX2_base_20 : decode cX2_base 20 = .ok (.aload_n 0, 1) := by decide +kernel
theorem dX2_base_21 : decode cX2_base 21 = .ok (.getfield 7, 3) := by decide +kernel
theorem dX2_base_24 : decode cX2_base 24 = .ok (.iload_n 1, 1) := by decide +kernel
theorem dX2_base_25 : decode cX2_base 25 = .ok (.iaload, 1) := by decide +kernel
theorem dX2_base_26 : decode cX2_base 26 = .ok (.goto 4, 3) := by decide +kernel
theorem dX2_base_29 : decode cX2_base 29 = .ok (.iconst 0, 1) := by decide +kernel
theorem dX2_base_30 : decode cX2_base 30 = .ok (.ireturn, 1) := by decide +kernel
theorem dX2_size_0 : decode cX2_size 0 = .ok (.aload_n 0, 1) := by decide +kernel
theorem dX2_size_1 : decode cX2_size 1 = .ok (.aload_n 0, 1) := by decide +kernel
theorem dX2_size_2 : decode cX2_size 2 = .ok (.iload_n 1, 1) := by decide +kernel
theorem dX2_size_3 : decode cX2_size 3 = .ok (.invokevirtual 70, 3) := by decide +kernel
theorem dX2_size_6 : decode cX2_size 6 = .ok (.ifCond .eq 7, 3) := by decide +kernel
theorem dX2_size_9 : decode cX2_size 9 = .ok (.iconst 0, 1) := by decide +kernel
theorem dX2_size_10 : decode cX2_size 10 = .ok (.goto 4, 3) := by decide +kernel
theorem dX2_size_13 : decode cX2_size 13 = .ok (.iconst 1, 1) := by decide +kernel
theorem dX2_size_14 : decode cX2_size 14 = .ok (.invokevirtual 81, 3) := by decide +kernel
theorem dX2_size_17 : decode cX2_size 17 = .ok (.ifCond .eq 12, 3) := by decide +kernel
theorem dX2_size_20 : decode cX2_size 20 = .ok (.aload_n 0, 1) := by decide +kernel
theorem dX2_size_21 : decode cX2_size 21 = .ok (.getfield 13, 3) := by decide +kernel
theorem dX2_size_24 : decode cX2_size 24 = .ok (.iload_n 1, 1) := by decide +kernel
theorem dX2_size_25 : decode cX2_size 25 = .ok (.iaload, 1) := by decide +kernel
theorem dX2_size_26 : decode cX2_size 26 = .ok (.goto 4, 3) := by decide +kernel
theorem dX2_size_29 : decode cX2_size 29 = .ok (.iconst 0, 1) := by decide +kernel
theorem dX2_size_30 : decode cX2_size 30 = .ok (.ireturn, 1) := by decide +kernel
theorem dX2_parent_0 : decode cX2_parent 0 = .ok (.aload_n 0, 1) := by decide +kernel
theorem dX2_parent_1 : decode cX2_parent 1 = .ok (.aload_n 0, 1) := by decide +kernel
theorem dX2_parent_2 : decode cX2_parent 2 = .ok (.iload_n 1, 1) := by decide +kernel
theorem dX2_parent_3 : decode cX2_parent 3 = .ok (.invokevirtual 70, 3) := by decide +kernel
theorem dX2_parent_6 : decode cX2_parent 6 = .ok (.ifCond .eq 7, 3) := by decide +kernel
theorem dX2_parent_9 : decode cX2_parent 9 = .ok (.iconst 0, 1) := by decide +kernel
theorem dX2_parent_10 : decode cX2_parent 10 = .ok (.goto 4, 3) := by decide +kernel
theorem dX2_parent_13 : decode cX2_parent 13 = .ok (.iconst 1, 1) := by decide +kernel
theorem dX2_parent_14 : decode cX2_parent 14 = .ok (.invokevirtual 81, 3) := by decide +kernel
theorem dX2_parent_17 : decode cX2_parent 17 = .ok (.ifCond .eq 12, 3) := by decide +kernel
theorem dX2_parent_20 : decode cX2_parent 20 = .ok (.aload_n 0, 1) := by decide +kernel
theorem dX2_parent_21 : decode cX2_parent 21 = .ok (.getfield 16, 3) := by decide +kernel
theorem dX2_parent_24 : decode cX2_parent 24 = .ok (.iload_n 1, 1) := by decide +kernel
theorem dX2_parent_25 : decode cX2_parent 25 = .ok (.iaload, 1) := by decide +kernel
theorem dX2_parent_26 : decode cX2_parent 26 = .ok (.goto 4, 3) := by decide +kernel
theorem dX2_parent_29 : decode cX2_parent 29 = .ok (.iconst 0, 1) := by decide +kernel
theorem dX2_parent_30 : decode cX2_parent 30 = .ok (.ireturn, 1) := by decide +kernel
theorem dX2_free_0 : decode cX2_free 0 = .ok (.aload_n 0, 1) := by decide +kernel
theorem dX2_free_1 : decode cX2_free 1 = .ok (.aload_n 0, 1) := by decide +kernel
theorem dX2_free_2 : decode cX2_free 2 = .ok (.iload_n 1, 1) := by decide +kernel
theorem dX2_free_3 : decode cX2_free 3 = .ok (.invokevirtual 70, 3) := by decide +kernel
theorem dX2_free_6 : decode cX2_free 6 = .ok (.ifCond .eq 7, 3) := by decide +kernel
theorem dX2_free_9 : decode cX2_free 9 = .ok (.iconst 0, 1) := by decide +kernel
theorem dX2_free_10 : decode cX2_free 10 = .ok (.goto 4, 3) := by decide +kernel
theorem dX2_free_13 : decode cX2_free 13 = .ok (.iconst 1, 1) := by decide +kernel
theorem dX2_free_14 : decode cX2_free 14 = .ok (.invokevirtual 81, 3) := by decide +kernel
theorem dX2_free_17 : decode cX2_free 17 = .ok (.ifCond .ne 5, 3) := by decide +kernel
theorem dX2_free_20 : decode cX2_free 20 = .ok (.iconst 0, 1) := by decide +kernel
theorem dX2_free_21 : decode cX2_free 21 = .ok (.ireturn, 1) := by decide +kernel
theorem dX2_free_22 : decode cX2_free 22 = .ok (.aload_n 0, 1) := by decide +kernel
theorem dX2_free_23 : decode cX2_free 23 = .ok (.getfield 13, 3) := by decide +kernel
theorem dX2_free_26 : decode cX2_free 26 = .ok (.iload_n 1, 1) := by decide +kernel
theorem dX2_free_27 : decode cX2_free 27 = .ok (.iaload, 1) := by decide +kernel
theorem dX2_free_28 : decode cX2_free 28 = .ok (.istore_n 2, 1) := by decide +kernel
theorem dX2_free_29 : decode cX2_free 29 = .ok (.iconst 0, 1) := by decide +kernel
theorem dX2_free_30 : decode cX2_free 30 = .ok (.istore_n 3, 1) := by decide +kernel
theorem dX2_free_31 : decode cX2_free 31 = .ok (.iload_n 3, 1) := by decide +kernel
theorem dX2_free_32 : decode cX2_free 32 = .ok (.aload_n 0, 1) := by decide +kernel
theorem dX2_free_33 : decode cX2_free 33 = .ok (.getfield 26, 3) := by decide +kernel
theorem dX2_free_36 : decode cX2_free 36 = .ok (.if_icmp .ge 41, 3) := by decide +kernel
theorem dX2_free_39 : decode cX2_free 39 = .ok (.iload_n 2, 1) := by decide +kernel
theorem dX2_free_40 : decode cX2_free 40 = .ok (.aload_n 0, 1) := by decide +kernel
theorem dX2_free_41 : decode cX2_free 41 = .ok (.getfield 22, 3) := by decide +kernel
theorem dX2_free_44 : decode cX2_free 44 = .ok (.iload_n 3, 1) := by decide +kernel
theorem dX2_free_45 : decode cX2_free 45 = .ok (.baload, 1) := by decide +kernel
theorem dX2_free_46 : decode cX2_free 46 = .ok (.ifCond .eq 22, 3) := by decide +kernel
theorem dX2_free_49 : decode cX2_free 49 = .ok (.aload_n 0, 1) := by decide +kernel
theorem dX2_free_50 : decode cX2_free 50 = .ok (.getfield 16, 3) := by decide +kernel
theorem dX2_free_53 : decode cX2_free 53 = .ok (.iload_n 3, 1) := by decide +kernel
theorem dX2_free_54 : decode cX2_free 54 = .ok (.iaload, 1) := by decide +kernel
theorem dX2_free_55 : decode cX2_free 55 = .ok (.iload_n 1, 1) := by decide +kernel
theorem dX2_free_56 : decode cX2_free 56 = .ok (.if_icmp .ne 12, 3) := by decide +kernel
theorem dX2_free_59 : decode cX2_free 59 = .ok (.aload_n 0, 1) := by decide +kernel
theorem dX2_free_60 : decode cX2_free 60 = .ok (.getfield 13, 3) := by decide +kernel
theorem dX2_free_63 : decode cX2_free 63 = .ok (.iload_n 3, 1) := by decide +kernel
theorem dX2_free_64 : decode cX2_free 64 = .ok (.iaload, 1) := by decide +kernel
theorem dX2_free_65 : decode cX2_free 65 = .ok (.goto 4, 3) := by decide +kernel
theorem dX2_free_68 : decode cX2_free 68 = .ok (.iconst 0, 1) := by decide +kernel
theorem dX2_free_69 : decode cX2_free 69 = .ok (.isub, 1) := by decide +kernel
theorem dX2_free_70 : decode cX2_free 70 = .ok (.istore_n 2, 1) := by decide +kernel
theorem dX2_free_71 : decode cX2_free 71 = .ok (.iinc 3 1, 3) := by decide +kernel
theorem dX2_free_74 : decode cX2_free 74 = .ok (.goto (-43), 3) := by decide +kernel
theorem dX2_free_77 : decode cX2_free 77 = .ok (.aload_n 0, 1) := by decide +kernel
theorem dX2_free_78 : decode cX2_free 78 = .ok (.iload_n 1, 1) := by decide +kernel
theorem dX2_free_79 : decode cX2_free 79 = .ok (.invokevirtual 56, 3) := by decide +kernel
theorem dX2_free_82 : decode cX2_free 82 = .ok (.ifCond .eq 7, 3) := by decide +kernel
theorem dX2_free_85 : decode cX2_free 85 = .ok (.iload_n 2, 1) := by decide +kernel
theorem dX2_free_86 : decode cX2_free 86 = .ok (.goto 21, 3) := by decide +kernel
theorem dX2_free_89 : decode cX2_free 89 = .ok (.iload_n 2, 1) := by decide +kernel
theorem dX2_free_90 : decode cX2_free 90 = .ok (.aload_n 0, 1) := by decide +kernel
theorem dX2_free_91 : decode cX2_free 91 = .ok (.aload_n 0, 1) := by decide +kernel
theorem dX2_free_92 : decode cX2_free 92 = .ok (.getfield 7, 3) := by decide +kernel
theorem dX2_free_95 : decode cX2_free 95 = .ok (.iload_n 1, 1) := by decide +kernel
theorem dX2_free_96 : decode cX2_free 96 = .ok (.iaload, 1) := by decide +kernel
theorem dX2_free_97 : decode cX2_free 97 = .ok (.aload_n 0, 1) := by decide +kernel
theorem dX2_free_98 : decode cX2_free 98 = .ok (.getfield 13, 3) := by decide +kernel
theorem dX2_free_101 : decode cX2_free 101 = .ok (.iload_n 1, 1) := by decide +kernel
theorem dX2_free_102 : decode cX2_free 102 = .ok (.iaload, 1) := by decide +kernel
theorem dX2_free_103 : decode cX2_free 103 = .ok (.invokevirtual 60, 3) := by decide +kernel
theorem dX2_free_106 : decode cX2_free 106 = .ok (.isub, 1) := by decide +kernel
theorem dX2_free_107 : decode cX2_free 107 = .ok (.ireturn, 1) := by decide +kernel
theorem dX2_greatestFree_0 : decode cX2_greatestFree 0 = .ok (.aload_n 0, 1) := by decide +kernel
theorem dX2_greatestFree_1 : decode cX2_greatestFree 1 = .ok (.aload_n 0, 1) := by decide +kernel
theorem dX2_greatestFree_2 : decode cX2_greatestFree 2 = .ok (.iload_n 1, 1) := by decide +kernel
theorem dX2_greatestFree_3 : decode cX2_greatestFree 3 = .ok (.invokevirtual 70, 3) := by decide +kernel
theorem dX2_greatestFree_6 : decode cX2_greatestFree 6 = .ok (.ifCond .eq 7, 3) := by decide +kernel
theorem dX2_greatestFree_9 : decode cX2_greatestFree 9 = .ok (.iconst 0, 1) := by decide +kernel
theorem dX2_greatestFree_10 : decode cX2_greatestFree 10 = .ok (.goto 4, 3) := by decide +kernel
theorem dX2_greatestFree_13 : decode cX2_greatestFree 13 = .ok (.iconst 1, 1) := by decide +kernel
theorem dX2_greatestFree_14 : decode cX2_greatestFree 14 = .ok (.invokevirtual 81, 3) := by decide +kernel
theorem dX2_greatestFree_17 : decode cX2_greatestFree 17 = .ok (.ifCond .ne 5, 3) := by decide +kernel
theorem dX2_greatestFree_20 : decode cX2_greatestFree 20 = .ok (.iconst 0, 1) := by decide +kernel
theorem dX2_greatestFree_21 : decode cX2_greatestFree 21 = .ok (.ireturn, 1) := by decide +kernel
theorem dX2_greatestFree_22 : decode cX2_greatestFree 22 = .ok (.aload_n 0, 1) := by decide +kernel
theorem dX2_greatestFree_23 : decode cX2_greatestFree 23 = .ok (.getfield 13, 3) := by decide +kernel
theorem dX2_greatestFree_26 : decode cX2_greatestFree 26 = .ok (.iload_n 1, 1) := by decide +kernel
theorem dX2_greatestFree_27 : decode cX2_greatestFree 27 = .ok (.iaload, 1) := by decide +kernel
theorem dX2_greatestFree_28 : decode cX2_greatestFree 28 = .ok (.iconst 2, 1) := by decide +kernel
theorem dX2_greatestFree_29 : decode cX2_greatestFree 29 = .ok (.idiv, 1) := by decide +kernel
theorem dX2_greatestFree_30 : decode cX2_greatestFree 30 = .ok (.istore_n 2, 1) := by decide +kernel
theorem dX2_greatestFree_31 : decode cX2_greatestFree 31 = .ok (.iload_n 2, 1) := by decide +kernel
theorem dX2_greatestFree_32 : decode cX2_greatestFree 32 = .ok (.ifCond .le 53, 3) := by decide +kernel
theorem dX2_greatestFree_35 : decode cX2_greatestFree 35 = .ok (.aload_n 0, 1) := by decide +kernel
theorem dX2_greatestFree_36 : decode cX2_greatestFree 36 = .ok (.getfield 7, 3) := by decide +kernel
theorem dX2_greatestFree_39 : decode cX2_greatestFree 39 = .ok (.iload_n 1, 1) := by decide +kernel
theorem dX2_greatestFree_40 : decode cX2_greatestFree 40 = .ok (.iaload, 1) := by decide +kernel
theorem dX2_greatestFree_41 : decode cX2_greatestFree 41 = .ok (.istore_n 3, 1) := by decide +kernel
theorem dX2_greatestFree_42 : decode cX2_greatestFree 42 = .ok (.iload_n 3, 1) := by decide +kernel
theorem dX2_greatestFree_43 : decode cX2_greatestFree 43 = .ok (.aload_n 0, 1) := by decide +kernel
theorem dX2_greatestFree_44 : decode cX2_greatestFree 44 = .ok (.getfield 7, 3) := by decide +kernel
theorem dX2_greatestFree_47 : decode cX2_greatestFree 47 = .ok (.iload_n 1, 1) := by decide +kernel
theorem dX2_greatestFree_48 : decode cX2_greatestFree 48 = .ok (.iaload, 1) := by decide +kernel
theorem dX2_greatestFree_49 : decode cX2_greatestFree 49 = .ok (.aload_n 0, 1) := by decide +kernel
theorem dX2_greatestFree_50 : decode cX2_greatestFree 50 = .ok (.getfield 13, 3) := by decide +kernel
theorem dX2_greatestFree_53 : decode cX2_greatestFree 53 = .ok (.iload_n 1, 1) := by decide +kernel
theorem dX2_greatestFree_54 : decode cX2_greatestFree 54 = .ok (.iaload, 1) := by decide +kernel
theorem dX2_greatestFree_55 : decode cX2_greatestFree 55 = .ok (.iadd, 1) := by decide +kernel
theorem dX2_greatestFree_56 : decode cX2_greatestFree 56 = .ok (.if_icmp .ge 22, 3) := by decide +kernel
theorem dX2_greatestFree_59 : decode cX2_greatestFree 59 = .ok (.aload_n 0, 1) := by decide +kernel
theorem dX2_greatestFree_60 : decode cX2_greatestFree 60 = .ok (.iload_n 1, 1) := by decide +kernel
theorem dX2_greatestFree_61 : decode cX2_greatestFree 61 = .ok (.iload_n 3, 1) := by decide +kernel
theorem dX2_greatestFree_62 : decode cX2_greatestFree 62 = .ok (.iload_n 2, 1) := by decide +kernel
theorem dX2_greatestFree_63 : decode cX2_greatestFree 63 = .ok (.invokevirtual 50, 3) := by decide +kernel
theorem dX2_greatestFree_66 : decode cX2_greatestFree 66 = .ok (.ifCond .eq 5, 3) := by decide +kernel
theorem dX2_greatestFree_69 : decode cX2_greatestFree 69 = .ok (.iload_n 2, 1) := by decide +kernel
theorem dX2_greatestFree_70 : decode cX2_greatestFree 70 = .ok (.ireturn, 1) := by decide +kernel
theorem dX2_greatestFree_71 : decode cX2_greatestFree 71 = .ok (.iload_n 3, 1) := by decide +kernel
theorem dX2_greatestFree_72 : decode cX2_greatestFree 72 = .ok (.iload_n 2, 1) := by decide +kernel
theorem dX2_greatestFree_73 : decode cX2_greatestFree 73 = .ok (.iadd, 1) := by decide +kernel
theorem dX2_greatestFree_74 : decode cX2_greatestFree 74 = .ok (.istore_n 3, 1) := by decide +kernel
theorem dX2_greatestFree_75 : decode cX2_greatestFree 75 = .ok (.goto (-33), 3) := by decide +kernel
theorem dX2_greatestFree_78 : decode cX2_greatestFree 78 = .ok (.iload_n 2, 1) := by decide +kernel
theorem dX2_greatestFree_79 : decode cX2_greatestFree 79 = .ok (.iconst 2, 1) := by decide +kernel
theorem dX2_greatestFree_80 : decode cX2_greatestFree 80 = .ok (.idiv, 1) := by decide +kernel
theorem dX2_greatestFree_81 : decode cX2_greatestFree 81 = .ok (.istore_n 2, 1) := by decide +kernel
theorem dX2_greatestFree_82 : decode cX2_greatestFree 82 = .ok (.goto (-51), 3) := by decide +kernel
theorem dX2_greatestFree_85 : decode cX2_greatestFree 85 = .ok (.iconst 0, 1) := by decide +kernel
theorem dX2_greatestFree_86 : decode cX2_greatestFree 86 = .ok (.ireturn, 1) := by decide +kernel
theorem dX2_inTheWay_0 : decode cX2_inTheWay 0 = .ok (.aload_n 0, 1) := by decide +kernel
theorem dX2_inTheWay_1 : decode cX2_inTheWay 1 = .ok (.aload_n 0, 1) := by decide +kernel
theorem dX2_inTheWay_2 : decode cX2_inTheWay 2 = .ok (.iload_n 1, 1) := by decide +kernel
theorem dX2_inTheWay_3 : decode cX2_inTheWay 3 = .ok (.invokevirtual 70, 3) := by decide +kernel
theorem dX2_inTheWay_6 : decode cX2_inTheWay 6 = .ok (.ifCond .ne 7, 3) := by decide +kernel
theorem dX2_inTheWay_9 : decode cX2_inTheWay 9 = .ok (.iconst 1, 1) := by decide +kernel
theorem dX2_inTheWay_10 : decode cX2_inTheWay 10 = .ok (.goto 15, 3) := by decide +kernel
theorem dX2_inTheWay_13 : decode cX2_inTheWay 13 = .ok (.iload_n 2, 1) := by decide +kernel
theorem dX2_inTheWay_14 : decode cX2_inTheWay 14 = .ok (.invokestatic 64, 3) := by decide +kernel
theorem dX2_inTheWay_17 : decode cX2_inTheWay 17 = .ok (.ifCond .eq 7, 3) := by decide +kernel
theorem dX2_inTheWay_20 : decode cX2_inTheWay 20 = .ok (.iconst 0, 1) := by decide +kernel
theorem dX2_inTheWay_21 : decode cX2_inTheWay 21 = .ok (.goto 4, 3) := by decide +kernel
theorem dX2_inTheWay_24 : decode cX2_inTheWay 24 = .ok (.iconst 2, 1) := by decide +kernel
theorem dX2_inTheWay_25 : decode cX2_inTheWay 25 = .ok (.invokevirtual 81, 3) := by decide +kernel
theorem dX2_inTheWay_28 : decode cX2_inTheWay 28 = .ok (.ifCond .ne 5, 3) := by decide +kernel
theorem dX2_inTheWay_31 : decode cX2_inTheWay 31 = .ok (.iconst 0, 1) := by decide +kernel
theorem dX2_inTheWay_32 : decode cX2_inTheWay 32 = .ok (.ireturn, 1) := by decide +kernel
theorem dX2_inTheWay_33 : decode cX2_inTheWay 33 = .ok (.iconst (-1), 1) := by decide +kernel
theorem dX2_inTheWay_34 : decode cX2_inTheWay 34 = .ok (.istore_n 3, 1) := by decide +kernel
theorem dX2_inTheWay_35 : decode cX2_inTheWay 35 = .ok (.aload_n 0, 1) := by decide +kernel
theorem dX2_inTheWay_36 : decode cX2_inTheWay 36 = .ok (.getfield 7, 3) := by decide +kernel
theorem dX2_inTheWay_39 : decode cX2_inTheWay 39 = .ok (.iload_n 1, 1) := by decide +kernel
theorem dX2_inTheWay_40 : decode cX2_inTheWay 40 = .ok (.iaload, 1) := by decide +kernel
theorem dX2_inTheWay_41 : decode cX2_inTheWay 41 = .ok (.istore 4, 2) := by decide +kernel
theorem dX2_inTheWay_43 : decode cX2_inTheWay 43 = .ok (.iload 4, 2) := by decide +kernel
theorem dX2_inTheWay_45 : decode cX2_inTheWay 45 = .ok (.aload_n 0, 1) := by decide +kernel
theorem dX2_inTheWay_46 : decode cX2_inTheWay 46 = .ok (.getfield 7, 3) := by decide +kernel
theorem dX2_inTheWay_49 : decode cX2_inTheWay 49 = .ok (.iload_n 1, 1) := by decide +kernel
theorem dX2_inTheWay_50 : decode cX2_inTheWay 50 = .ok (.iaload, 1) := by decide +kernel
theorem dX2_inTheWay_51 : decode cX2_inTheWay 51 = .ok (.aload_n 0, 1) := by decide +kernel
theorem dX2_inTheWay_52 : decode cX2_inTheWay 52 = .ok (.getfield 13, 3) := by decide +kernel
theorem dX2_inTheWay_55 : decode cX2_inTheWay 55 = .ok (.iload_n 1, 1) := by decide +kernel
theorem dX2_inTheWay_56 : decode cX2_inTheWay 56 = .ok (.iaload, 1) := by decide +kernel
theorem dX2_inTheWay_57 : decode cX2_inTheWay 57 = .ok (.iadd, 1) := by decide +kernel
theorem dX2_inTheWay_58 : decode cX2_inTheWay 58 = .ok (.if_icmp .ge 51, 3) := by decide +kernel
theorem dX2_inTheWay_61 : decode cX2_inTheWay 61 = .ok (.iload_n 2, 1) := by decide +kernel
theorem dX2_inTheWay_62 : decode cX2_inTheWay 62 = .ok (.aload_n 0, 1) := by decide +kernel
theorem dX2_inTheWay_63 : decode cX2_inTheWay 63 = .ok (.getfield 13, 3) := by decide +kernel
theorem dX2_inTheWay_66 : decode cX2_inTheWay 66 = .ok (.iload_n 1, 1) := by decide +kernel
theorem dX2_inTheWay_67 : decode cX2_inTheWay 67 = .ok (.iaload, 1) := by decide +kernel
theorem dX2_inTheWay_68 : decode cX2_inTheWay 68 = .ok (.if_icmp .ge 41, 3) := by decide +kernel
theorem dX2_inTheWay_71 : decode cX2_inTheWay 71 = .ok (.aload_n 0, 1) := by decide +kernel
theorem dX2_inTheWay_72 : decode cX2_inTheWay 72 = .ok (.iload_n 1, 1) := by decide +kernel
theorem dX2_inTheWay_73 : decode cX2_inTheWay 73 = .ok (.iload 4, 2) := by decide +kernel
theorem dX2_inTheWay_75 : decode cX2_inTheWay 75 = .ok (.iload_n 2, 1) := by decide +kernel
theorem dX2_inTheWay_76 : decode cX2_inTheWay 76 = .ok (.iconst (-1), 1) := by decide +kernel
theorem dX2_inTheWay_77 : decode cX2_inTheWay 77 = .ok (.invokevirtual 46, 3) := by decide +kernel
theorem dX2_inTheWay_80 : decode cX2_inTheWay 80 = .ok (.istore 5, 2) := by decide +kernel
theorem dX2_inTheWay_82 : decode cX2_inTheWay 82 = .ok (.iload_n 3, 1) := by decide +kernel
theorem dX2_inTheWay_83 : decode cX2_inTheWay 83 = .ok (.iconst (-1), 1) := by decide +kernel
theorem dX2_inTheWay_84 : decode cX2_inTheWay 84 = .ok (.if_icmp .eq 9, 3) := by decide +kernel
theorem dX2_inTheWay_87 : decode cX2_inTheWay 87 = .ok (.iload 5, 2) := by decide +kernel
theorem dX2_inTheWay_89 : decode cX2_inTheWay 89 = .ok (.iload_n 3, 1) := by decide +kernel
theorem dX2_inTheWay_90 : decode cX2_inTheWay 90 = .ok (.if_icmp .ge 8, 3) := by decide +kernel
theorem dX2_inTheWay_93 : decode cX2_inTheWay 93 = .ok (.iload 5, 2) := by decide +kernel
theorem dX2_inTheWay_95 : decode cX2_inTheWay 95 = .ok (.goto 4, 3) := by decide +kernel
theorem dX2_inTheWay_98 : decode cX2_inTheWay 98 = .ok (.iload_n 3, 1) := by decide +kernel
theorem dX2_inTheWay_99 : decode cX2_inTheWay 99 = .ok (.istore_n 3, 1) := by decide +kernel
theorem dX2_inTheWay_100 : decode cX2_inTheWay 100 = .ok (.iload 4, 2) := by decide +kernel
theorem dX2_inTheWay_102 : decode cX2_inTheWay 102 = .ok (.iload_n 2, 1) := by decide +kernel
theorem dX2_inTheWay_103 : decode cX2_inTheWay 103 = .ok (.iadd, 1) := by decide +kernel
theorem dX2_inTheWay_104 : decode cX2_inTheWay 104 = .ok (.istore 4, 2) := by decide +kernel
theorem dX2_inTheWay_106 : decode cX2_inTheWay 106 = .ok (.goto (-63), 3) := by decide +kernel
theorem dX2_inTheWay_109 : decode cX2_inTheWay 109 = .ok (.iload_n 3, 1) := by decide +kernel
theorem dX2_inTheWay_110 : decode cX2_inTheWay 110 = .ok (.ireturn, 1) := by decide +kernel
theorem dX2_lent_0 : decode cX2_lent 0 = .ok (.aload_n 0, 1) := by decide +kernel
theorem dX2_lent_1 : decode cX2_lent 1 = .ok (.iconst 0, 1) := by decide +kernel
theorem dX2_lent_2 : decode cX2_lent 2 = .ok (.putfield 36, 3) := by decide +kernel
theorem dX2_lent_5 : decode cX2_lent 5 = .ok (.aload_n 0, 1) := by decide +kernel
theorem dX2_lent_6 : decode cX2_lent 6 = .ok (.getfield 93, 3) := by decide +kernel
theorem dX2_lent_9 : decode cX2_lent 9 = .ok (.ireturn, 1) := by decide +kernel
theorem dX2_isLent_0 : decode cX2_isLent 0 = .ok (.aload_n 0, 1) := by decide +kernel
theorem dX2_isLent_1 : decode cX2_isLent 1 = .ok (.iload_n 1, 1) := by decide +kernel
theorem dX2_isLent_2 : decode cX2_isLent 2 = .ok (.invokestatic 103, 3) := by decide +kernel
theorem dX2_isLent_5 : decode cX2_isLent 5 = .ok (.ifCond .eq 7, 3) := by decide +kernel
theorem dX2_isLent_8 : decode cX2_isLent 8 = .ok (.iconst 0, 1) := by decide +kernel
theorem dX2_isLent_9 : decode cX2_isLent 9 = .ok (.goto 4, 3) := by decide +kernel
theorem dX2_isLent_12 : decode cX2_isLent 12 = .ok (.iconst 1, 1) := by decide +kernel
theorem dX2_isLent_13 : decode cX2_isLent 13 = .ok (.invokevirtual 81, 3) := by decide +kernel
theorem dX2_isLent_16 : decode cX2_isLent 16 = .ok (.ifCond .eq 16, 3) := by decide +kernel
theorem dX2_isLent_19 : decode cX2_isLent 19 = .ok (.aload_n 0, 1) := by decide +kernel
theorem dX2_isLent_20 : decode cX2_isLent 20 = .ok (.getfield 30, 3) := by decide +kernel
theorem dX2_isLent_23 : decode cX2_isLent 23 = .ok (.iload_n 1, 1) := by decide +kernel
theorem dX2_isLent_24 : decode cX2_isLent 24 = .ok (.iaload, 1) := by decide +kernel
theorem dX2_isLent_25 : decode cX2_isLent 25 = .ok (.ifCond .eq 7, 3) := by decide +kernel
theorem dX2_isLent_28 : decode cX2_isLent 28 = .ok (.iconst 1, 1) := by decide +kernel
theorem dX2_isLent_29 : decode cX2_isLent 29 = .ok (.goto 4, 3) := by decide +kernel
theorem dX2_isLent_32 : decode cX2_isLent 32 = .ok (.iconst 0, 1) := by decide +kernel
theorem dX2_isLent_33 : decode cX2_isLent 33 = .ok (.ireturn, 1) := by decide +kernel
theorem dX2_nearestOf_0 : decode cX2_nearestOf 0 = .ok (.iconst 0, 1) := by decide +kernel
theorem dX2_nearestOf_1 : decode cX2_nearestOf 1 = .ok (.istore_n 2, 1) := by decide +kernel
theorem dX2_nearestOf_2 : decode cX2_nearestOf 2 = .ok (.iconst 1, 1) := by decide +kernel
theorem dX2_nearestOf_3 : decode cX2_nearestOf 3 = .ok (.istore_n 3, 1) := by decide +kernel
theorem dX2_nearestOf_4 : decode cX2_nearestOf 4 = .ok (.iload_n 3, 1) := by decide +kernel
theorem dX2_nearestOf_5 : decode cX2_nearestOf 5 = .ok (.aload_n 0, 1) := by decide +kernel
theorem dX2_nearestOf_6 : decode cX2_nearestOf 6 = .ok (.getfield 26, 3) := by decide +kernel
theorem dX2_nearestOf_9 : decode cX2_nearestOf 9 = .ok (.if_icmp .ge 78, 3) := by decide +kernel
theorem dX2_nearestOf_12 : decode cX2_nearestOf 12 = .ok (.aload_n 0, 1) := by decide +kernel
theorem dX2_nearestOf_13 : decode cX2_nearestOf 13 = .ok (.getfield 22, 3) := by decide +kernel
theorem dX2_nearestOf_16 : decode cX2_nearestOf 16 = .ok (.iload_n 3, 1) := by decide +kernel
theorem dX2_nearestOf_17 : decode cX2_nearestOf 17 = .ok (.baload, 1) := by decide +kernel
theorem dX2_nearestOf_18 : decode cX2_nearestOf 18 = .ok (.ifCond .eq 34, 3) := by decide +kernel
theorem dX2_nearestOf_21 : decode cX2_nearestOf 21 = .ok (.iload_n 1, 1) := by decide +kernel
theorem dX2_nearestOf_22 : decode cX2_nearestOf 22 = .ok (.aload_n 0, 1) := by decide +kernel
theorem dX2_nearestOf_23 : decode cX2_nearestOf 23 = .ok (.getfield 7, 3) := by decide +kernel
theorem dX2_nearestOf_26 : decode cX2_nearestOf 26 = .ok (.iload_n 3, 1) := by decide +kernel
theorem dX2_nearestOf_27 : decode cX2_nearestOf 27 = .ok (.iaload, 1) := by decide +kernel
theorem dX2_nearestOf_28 : decode cX2_nearestOf 28 = .ok (.if_icmp .lt 24, 3) := by decide +kernel
theorem dX2_nearestOf_31 : decode cX2_nearestOf 31 = .ok (.iload_n 1, 1) := by decide +kernel
theorem dX2_nearestOf_32 : decode cX2_nearestOf 32 = .ok (.aload_n 0, 1) := by decide +kernel
theorem dX2_nearestOf_33 : decode cX2_nearestOf 33 = .ok (.getfield 7, 3) := by decide +kernel
theorem dX2_nearestOf_36 : decode cX2_nearestOf 36 = .ok (.iload_n 3, 1) := by decide +kernel
theorem dX2_nearestOf_37 : decode cX2_nearestOf 37 = .ok (.iaload, 1) := by decide +kernel
theorem dX2_nearestOf_38 : decode cX2_nearestOf 38 = .ok (.aload_n 0, 1) := by decide +kernel
theorem dX2_nearestOf_39 : decode cX2_nearestOf 39 = .ok (.getfield 13, 3) := by decide +kernel
theorem dX2_nearestOf_42 : decode cX2_nearestOf 42 = .ok (.iload_n 3, 1) := by decide +kernel
theorem dX2_nearestOf_43 : decode cX2_nearestOf 43 = .ok (.iaload, 1) := by decide +kernel
theorem dX2_nearestOf_44 : decode cX2_nearestOf 44 = .ok (.iadd, 1) := by decide +kernel
theorem dX2_nearestOf_45 : decode cX2_nearestOf 45 = .ok (.if_icmp .ge 7, 3) := by decide +kernel
theorem dX2_nearestOf_48 : decode cX2_nearestOf 48 = .ok (.iconst 1, 1) := by decide +kernel
theorem dX2_nearestOf_49 : decode cX2_nearestOf 49 = .ok (.goto 4, 3) := by decide +kernel
theorem dX2_nearestOf_52 : decode cX2_nearestOf 52 = .ok (.iconst 0, 1) := by decide +kernel
theorem dX2_nearestOf_53 : decode cX2_nearestOf 53 = .ok (.istore 4, 2) := by decide +kernel
theorem dX2_nearestOf_55 : decode cX2_nearestOf 55 = .ok (.iload 4, 2) := by decide +kernel
theorem dX2_nearestOf_57 : decode cX2_nearestOf 57 = .ok (.ifCond .eq 22, 3) := by decide +kernel
theorem dX2_nearestOf_60 : decode cX2_nearestOf 60 = .ok (.aload_n 0, 1) := by decide +kernel
theorem dX2_nearestOf_61 : decode cX2_nearestOf 61 = .ok (.getfield 13, 3) := by decide +kernel
theorem dX2_nearestOf_64 : decode cX2_nearestOf 64 = .ok (.iload_n 3, 1) := by decide +kernel
theorem dX2_nearestOf_65 : decode cX2_nearestOf 65 = .ok (.iaload, 1) := by decide +kernel
theorem dX2_nearestOf_66 : decode cX2_nearestOf 66 = .ok (.aload_n 0, 1) := by decide +kernel
theorem dX2_nearestOf_67 : decode cX2_nearestOf 67 = .ok (.getfield 13, 3) := by decide +kernel
theorem dX2_nearestOf_70 : decode cX2_nearestOf 70 = .ok (.iload_n 2, 1) := by decide +kernel
theorem dX2_nearestOf_71 : decode cX2_nearestOf 71 = .ok (.iaload, 1) := by decide +kernel
theorem dX2_nearestOf_72 : decode cX2_nearestOf 72 = .ok (.if_icmp .gt 7, 3) := by decide +kernel
theorem dX2_nearestOf_75 : decode cX2_nearestOf 75 = .ok (.iload_n 3, 1) := by decide +kernel
theorem dX2_nearestOf_76 : decode cX2_nearestOf 76 = .ok (.goto 4, 3) := by decide +kernel
theorem dX2_nearestOf_79 : decode cX2_nearestOf 79 = .ok (.iload_n 2, 1) := by decide +kernel
theorem dX2_nearestOf_80 : decode cX2_nearestOf 80 = .ok (.istore_n 2, 1) := by decide +kernel
theorem dX2_nearestOf_81 : decode cX2_nearestOf 81 = .ok (.iinc 3 1, 3) := by decide +kernel
theorem dX2_nearestOf_84 : decode cX2_nearestOf 84 = .ok (.goto (-80), 3) := by decide +kernel
theorem dX2_nearestOf_87 : decode cX2_nearestOf 87 = .ok (.iload_n 2, 1) := by decide +kernel
theorem dX2_nearestOf_88 : decode cX2_nearestOf 88 = .ok (.ireturn, 1) := by decide +kernel
theorem dX2_nearest_0 : decode cX2_nearest 0 = .ok (.aload_n 0, 1) := by decide +kernel
theorem dX2_nearest_1 : decode cX2_nearest 1 = .ok (.iload_n 1, 1) := by decide +kernel
theorem dX2_nearest_2 : decode cX2_nearest 2 = .ok (.invokevirtual 107, 3) := by decide +kernel
theorem dX2_nearest_5 : decode cX2_nearest 5 = .ok (.ireturn, 1) := by decide +kernel
theorem dX2_nearestByRow_0 : decode cX2_nearestByRow 0 = .ok (.aload_n 0, 1) := by decide +kernel
theorem dX2_nearestByRow_1 : decode cX2_nearestByRow 1 = .ok (.iload_n 1, 1) := by decide +kernel
theorem dX2_nearestByRow_2 : decode cX2_nearestByRow 2 = .ok (.invokestatic 103, 3) := by decide +kernel
theorem dX2_nearestByRow_5 : decode cX2_nearestByRow 5 = .ok (.ifCond .eq 7, 3) := by decide +kernel
theorem dX2_nearestByRow_8 : decode cX2_nearestByRow 8 = .ok (.iconst 0, 1) := by decide +kernel
theorem dX2_nearestByRow_9 : decode cX2_nearestByRow 9 = .ok (.goto 4, 3) := by decide +kernel
theorem dX2_nearestByRow_12 : decode cX2_nearestByRow 12 = .ok (.iconst 1, 1) := by decide +kernel
theorem dX2_nearestByRow_13 : decode cX2_nearestByRow 13 = .ok (.invokevirtual 81, 3) := by decide +kernel
theorem dX2_nearestByRow_16 : decode cX2_nearestByRow 16 = .ok (.ifCond .eq 11, 3) := by decide +kernel
theorem dX2_nearestByRow_19 : decode cX2_nearestByRow 19 = .ok (.aload_n 0, 1) := by decide +kernel
theorem dX2_nearestByRow_20 : decode cX2_nearestByRow 20 = .ok (.iload_n 1, 1) := by decide +kernel
theorem dX2_nearestByRow_21 : decode cX2_nearestByRow 21 = .ok (.invokevirtual 110, 3) := by decide +kernel
theorem dX2_nearestByRow_24 : decode cX2_nearestByRow 24 = .ok (.goto 4, 3) := by decide +kernel
theorem dX2_nearestByRow_27 : decode cX2_nearestByRow 27 = .ok (.iconst 0, 1) := by decide +kernel
theorem dX2_nearestByRow_28 : decode cX2_nearestByRow 28 = .ok (.ireturn, 1) := by decide +kernel
theorem dX2_layOwner_0 : decode cX2_layOwner 0 = .ok (.iconst 0, 1) := by decide +kernel
theorem dX2_layOwner_1 : decode cX2_layOwner 1 = .ok (.istore_n 2, 1) := by decide +kernel
theorem dX2_layOwner_2 : decode cX2_layOwner 2 = .ok (.iload_n 2, 1) := by decide +kernel
theorem dX2_layOwner_3 : decode cX2_layOwner 3 = .ok (.sipush 4096, 3) := by decide +kernel
theorem dX2_layOwner_6 : decode cX2_layOwner 6 = .ok (.if_icmp .ge 43, 3) := by decide +kernel
theorem dX2_layOwner_9 : decode cX2_layOwner 9 = .ok (.aload_n 0, 1) := by decide +kernel
theorem dX2_layOwner_10 : decode cX2_layOwner 10 = .ok (.getfield 33, 3) := by decide +kernel
theorem dX2_layOwner_13 : decode cX2_layOwner 13 = .ok (.iload_n 2, 1) := by decide +kernel
theorem dX2_layOwner_14 : decode cX2_layOwner 14 = .ok (.iconst 1, 1) := by decide +kernel
theorem dX2_layOwner_15 : decode cX2_layOwner 15 = .ok (.iadd, 1) := by decide +kernel
theorem dX2_layOwner_16 : decode cX2_layOwner 16 = .ok (.aload_n 0, 1) := by decide +kernel
theorem dX2_layOwner_17 : decode cX2_layOwner 17 = .ok (.getfield 33, 3) := by decide +kernel
theorem dX2_layOwner_20 : decode cX2_layOwner 20 = .ok (.iload_n 2, 1) := by decide +kernel
theorem dX2_layOwner_21 : decode cX2_layOwner 21 = .ok (.iaload, 1) := by decide +kernel
theorem dX2_layOwner_22 : decode cX2_layOwner 22 = .ok (.aload_n 0, 1) := by decide +kernel
theorem dX2_layOwner_23 : decode cX2_layOwner 23 = .ok (.getfield 19, 3) := by decide +kernel
theorem dX2_layOwner_26 : decode cX2_layOwner 26 = .ok (.aload_n 0, 1) := by decide +kernel
theorem dX2_layOwner_27 : decode cX2_layOwner 27 = .ok (.iload_n 2, 1) := by decide +kernel
theorem dX2_layOwner_28 : decode cX2_layOwner 28 = .ok (.invokevirtual 110, 3) := by decide +kernel
theorem dX2_layOwner_31 : decode cX2_layOwner 31 = .ok (.iaload, 1) := by decide +kernel
theorem dX2_layOwner_32 : decode cX2_layOwner 32 = .ok (.iload_n 1, 1) := by decide +kernel
theorem dX2_layOwner_33 : decode cX2_layOwner 33 = .ok (.if_icmp .ne 7, 3) := by decide +kernel
theorem dX2_layOwner_36 : decode cX2_layOwner 36 = .ok (.iconst 1, 1) := by decide +kernel
theorem dX2_layOwner_37 : decode cX2_layOwner 37 = .ok (.goto 4, 3) := by decide +kernel
theorem dX2_layOwner_40 : decode cX2_layOwner 40 = .ok (.iconst 0, 1) := by decide +kernel
theorem dX2_layOwner_41 : decode cX2_layOwner 41 = .ok (.iadd, 1) := by decide +kernel
theorem dX2_layOwner_42 : decode cX2_layOwner 42 = .ok (.iastore, 1) := by decide +kernel
theorem dX2_layOwner_43 : decode cX2_layOwner 43 = .ok (.iinc 2 1, 3) := by decide +kernel
theorem dX2_layOwner_46 : decode cX2_layOwner 46 = .ok (.goto (-44), 3) := by decide +kernel
theorem dX2_layOwner_49 : decode cX2_layOwner 49 = .ok (.return_, 1) := by decide +kernel
theorem dX2_owned_0 : decode cX2_owned 0 = .ok (.aload_n 0, 1) := by decide +kernel
theorem dX2_owned_1 : decode cX2_owned 1 = .ok (.iload_n 1, 1) := by decide +kernel
theorem dX2_owned_2 : decode cX2_owned 2 = .ok (.invokestatic 67, 3) := by decide +kernel
theorem dX2_owned_5 : decode cX2_owned 5 = .ok (.ifCond .eq 7, 3) := by decide +kernel
theorem dX2_owned_8 : decode cX2_owned 8 = .ok (.iconst 0, 1) := by decide +kernel
theorem dX2_owned_9 : decode cX2_owned 9 = .ok (.goto 4, 3) := by decide +kernel
theorem dX2_owned_12 : decode cX2_owned 12 = .ok (.iconst 1, 1) := by decide +kernel
theorem dX2_owned_13 : decode cX2_owned 13 = .ok (.invokevirtual 81, 3) := by decide +kernel
theorem dX2_owned_16 : decode cX2_owned 16 = .ok (.ifCond .ne 5, 3) := by decide +kernel
theorem dX2_owned_19 : decode cX2_owned 19 = .ok (.iconst 0, 1) := by decide +kernel
theorem dX2_owned_20 : decode cX2_owned 20 = .ok (.ireturn, 1) := by decide +kernel
theorem dX2_owned_21 : decode cX2_owned 21 = .ok (.aload_n 0, 1) := by decide +kernel
theorem dX2_owned_22 : decode cX2_owned 22 = .ok (.iload_n 1, 1) := by decide +kernel
theorem dX2_owned_23 : decode cX2_owned 23 = .ok (.invokevirtual 113, 3) := by decide +kernel
theorem dX2_owned_26 : decode cX2_owned 26 = .ok (.aload_n 0, 1) := by decide +kernel
theorem dX2_owned_27 : decode cX2_owned 27 = .ok (.getfield 33, 3) := by decide +kernel
theorem dX2_owned_30 : decode cX2_owned 30 = .ok (.sipush 4096, 3) := by decide +kernel
theorem dX2_owned_33 : decode cX2_owned 33 = .ok (.iaload, 1) := by decide +kernel
theorem dX2_owned_34 : decode cX2_owned 34 = .ok (.ireturn, 1) := by decide +kernel
theorem dX2_isAll_0 : decode cX2_isAll 0 = .ok (.iload_n 1, 1) := by decide +kernel
theorem dX2_isAll_1 : decode cX2_isAll 1 = .ok (.iload_n 2, 1) := by decide +kernel
theorem dX2_isAll_2 : decode cX2_isAll 2 = .ok (.iadd, 1) := by decide +kernel
theorem dX2_isAll_3 : decode cX2_isAll 3 = .ok (.sipush 4096, 3) := by decide +kernel
theorem dX2_isAll_6 : decode cX2_isAll 6 = .ok (.if_icmp .gt 26, 3) := by decide +kernel
theorem dX2_isAll_9 : decode cX2_isAll 9 = .ok (.aload_n 0, 1) := by decide +kernel
theorem dX2_isAll_10 : decode cX2_isAll 10 = .ok (.getfield 33, 3) := by decide +kernel
theorem dX2_isAll_13 : decode cX2_isAll 13 = .ok (.iload_n 1, 1) := by decide +kernel
theorem dX2_isAll_14 : decode cX2_isAll 14 = .ok (.iload_n 2, 1) := by decide +kernel
theorem dX2_isAll_15 : decode cX2_isAll 15 = .ok (.iadd, 1) := by decide +kernel
theorem dX2_isAll_16 : decode cX2_isAll 16 = .ok (.iaload, 1) := by decide +kernel
theorem dX2_isAll_17 : decode cX2_isAll 17 = .ok (.aload_n 0, 1) := by decide +kernel
theorem dX2_isAll_18 : decode cX2_isAll 18 = .ok (.getfield 33, 3) := by decide +kernel
theorem dX2_isAll_21 : decode cX2_isAll 21 = .ok (.iload_n 1, 1) := by decide +kernel
theorem dX2_isAll_22 : decode cX2_isAll 22 = .ok (.iaload, 1) := by decide +kernel
theorem dX2_isAll_23 : decode cX2_isAll 23 = .ok (.isub, 1) := by decide +kernel
theorem dX2_isAll_24 : decode cX2_isAll 24 = .ok (.iload_n 2, 1) := by decide +kernel
theorem dX2_isAll_25 : decode cX2_isAll 25 = .ok (.if_icmp .ne 7, 3) := by decide +kernel
theorem dX2_isAll_28 : decode cX2_isAll 28 = .ok (.iconst 1, 1) := by decide +kernel
theorem dX2_isAll_29 : decode cX2_isAll 29 = .ok (.goto 4, 3) := by decide +kernel
theorem dX2_isAll_32 : decode cX2_isAll 32 = .ok (.iconst 0, 1) := by decide +kernel
theorem dX2_isAll_33 : decode cX2_isAll 33 = .ok (.ireturn, 1) := by decide +kernel
theorem dX2_blocks_0 : decode cX2_blocks 0 = .ok (.aload_n 0, 1) := by decide +kernel
theorem dX2_blocks_1 : decode cX2_blocks 1 = .ok (.iload_n 1, 1) := by decide +kernel
theorem dX2_blocks_2 : decode cX2_blocks 2 = .ok (.invokestatic 67, 3) := by decide +kernel
theorem dX2_blocks_5 : decode cX2_blocks 5 = .ok (.ifCond .eq 7, 3) := by decide +kernel
theorem dX2_blocks_8 : decode cX2_blocks 8 = .ok (.iconst 0, 1) := by decide +kernel
theorem dX2_blocks_9 : decode cX2_blocks 9 = .ok (.goto 4, 3) := by decide +kernel
theorem dX2_blocks_12 : decode cX2_blocks 12 = .ok (.iconst 1, 1) := by decide +kernel
theorem dX2_blocks_13 : decode cX2_blocks 13 = .ok (.invokevirtual 81, 3) := by decide +kernel
theorem dX2_blocks_16 : decode cX2_blocks 16 = .ok (.ifCond .ne 5, 3) := by decide +kernel
theorem dX2_blocks_19 : decode cX2_blocks 19 = .ok (.iconst 0, 1) := by decide +kernel
theorem dX2_blocks_20 : decode cX2_blocks 20 = .ok (.ireturn, 1) := by decide +kernel
theorem dX2_blocks_21 : decode cX2_blocks 21 = .ok (.aload_n 0, 1) := by decide +kernel
theorem dX2_blocks_22 : decode cX2_blocks 22 = .ok (.iload_n 1, 1) := by decide +kernel
theorem dX2_blocks_23 : decode cX2_blocks 23 = .ok (.invokevirtual 113, 3) := by decide +kernel
theorem dX2_blocks_26 : decode cX2_blocks 26 = .ok (.iconst 0, 1) := by decide +kernel
theorem dX2_blocks_27 : decode cX2_blocks 27 = .ok (.istore_n 2, 1) := by decide +kernel
theorem dX2_blocks_28 : decode cX2_blocks 28 = .ok (.iconst 1, 1) := by decide +kernel
theorem dX2_blocks_29 : decode cX2_blocks 29 = .ok (.istore_n 3, 1) := by decide +kernel
theorem dX2_blocks_30 : decode cX2_blocks 30 = .ok (.iload_n 3, 1) := by decide +kernel
theorem dX2_blocks_31 : decode cX2_blocks 31 = .ok (.sipush 4096, 3) := by decide +kernel
theorem dX2_blocks_34 : decode cX2_blocks 34 = .ok (.if_icmp .gt 65, 3) := by decide +kernel
theorem dX2_blocks_37 : decode cX2_blocks 37 = .ok (.iconst 0, 1) := by decide +kernel
theorem dX2_blocks_38 : decode cX2_blocks 38 = .ok (.istore 4, 2) := by decide +kernel
theorem dX2_blocks_40 : decode cX2_blocks 40 = .ok (.iload 4, 2) := by decide +kernel
theorem dX2_blocks_42 : decode cX2_blocks 42 = .ok (.sipush 4096, 3) := by decide +kernel
theorem dX2_blocks_45 : decode cX2_blocks 45 = .ok (.if_icmp .ge 47, 3) := by decide +kernel
theorem dX2_blocks_48 : decode cX2_blocks 48 = .ok (.iload_n 2, 1) := by decide +kernel
theorem dX2_blocks_49 : decode cX2_blocks 49 = .ok (.aload_n 0, 1) := by decide +kernel
theorem dX2_blocks_50 : decode cX2_blocks 50 = .ok (.iload 4, 2) := by decide +kernel
theorem dX2_blocks_52 : decode cX2_blocks 52 = .ok (.iload_n 3, 1) := by decide +kernel
theorem dX2_blocks_53 : decode cX2_blocks 53 = .ok (.invokevirtual 117, 3) := by decide +kernel
theorem dX2_blocks_56 : decode cX2_blocks 56 = .ok (.ifCond .eq 24, 3) := by decide +kernel
theorem dX2_blocks_59 : decode cX2_blocks 59 = .ok (.aload_n 0, 1) := by decide +kernel
theorem dX2_blocks_60 : decode cX2_blocks 60 = .ok (.iload 4, 2) := by decide +kernel
theorem dX2_blocks_62 : decode cX2_blocks 62 = .ok (.bipush (-2), 2) := by decide +kernel
theorem dX2_blocks_64 : decode cX2_blocks 64 = .ok (.iload_n 3, 1) := by decide +kernel
theorem dX2_blocks_65 : decode cX2_blocks 65 = .ok (.imul, 1) := by decide +kernel
theorem dX2_blocks_66 : decode cX2_blocks 66 = .ok (.iand, 1) := by decide +kernel
theorem dX2_blocks_67 : decode cX2_blocks 67 = .ok (.iconst 2, 1) := by decide +kernel
theorem dX2_blocks_68 : decode cX2_blocks 68 = .ok (.iload_n 3, 1) := by decide +kernel
theorem dX2_blocks_69 : decode cX2_blocks 69 = .ok (.imul, 1) := by decide +kernel
theorem dX2_blocks_70 : decode cX2_blocks 70 = .ok (.invokevirtual 117, 3) := by decide +kernel
theorem dX2_blocks_73 : decode cX2_blocks 73 = .ok (.ifCond .ne 7, 3) := by decide +kernel
theorem dX2_blocks_76 : decode cX2_blocks 76 = .ok (.iconst 1, 1) := by decide +kernel
theorem dX2_blocks_77 : decode cX2_blocks 77 = .ok (.goto 4, 3) := by decide +kernel
theorem dX2_blocks_80 : decode cX2_blocks 80 = .ok (.iconst 0, 1) := by decide +kernel
theorem dX2_blocks_81 : decode cX2_blocks 81 = .ok (.iadd, 1) := by decide +kernel
theorem dX2_blocks_82 : decode cX2_blocks 82 = .ok (.istore_n 2, 1) := by decide +kernel
theorem dX2_blocks_83 : decode cX2_blocks 83 = .ok (.iload 4, 2) := by decide +kernel
theorem dX2_blocks_85 : decode cX2_blocks 85 = .ok (.iload_n 3, 1) := by decide +kernel
theorem dX2_blocks_86 : decode cX2_blocks 86 = .ok (.iadd, 1) := by decide +kernel
theorem dX2_blocks_87 : decode cX2_blocks 87 = .ok (.istore 4, 2) := by decide +kernel
theorem dX2_blocks_89 : decode cX2_blocks 89 = .ok (.goto (-49), 3) := by decide +kernel
theorem dX2_blocks_92 : decode cX2_blocks 92 = .ok (.iload_n 3, 1) := by decide +kernel
theorem dX2_blocks_93 : decode cX2_blocks 93 = .ok (.iconst 2, 1) := by decide +kernel
theorem dX2_blocks_94 : decode cX2_blocks 94 = .ok (.imul, 1) := by decide +kernel
theorem dX2_blocks_95 : decode cX2_blocks 95 = .ok (.istore_n 3, 1) := by decide +kernel
theorem dX2_blocks_96 : decode cX2_blocks 96 = .ok (.goto (-66), 3) := by decide +kernel
theorem dX2_blocks_99 : decode cX2_blocks 99 = .ok (.iload_n 2, 1) := by decide +kernel
theorem dX2_blocks_100 : decode cX2_blocks 100 = .ok (.ireturn, 1) := by decide +kernel
theorem dJ9_min_7cf53_0 : decode cJ9_min_7cf53 0 = .ok (.iload_n 0, 1) := by decide +kernel
theorem dJ9_min_7cf53_1 : decode cJ9_min_7cf53 1 = .ok (.iload_n 1, 1) := by decide +kernel
theorem dJ9_min_7cf53_2 : decode cJ9_min_7cf53 2 = .ok (.if_icmp .gt 7, 3) := by decide +kernel
theorem dJ9_min_7cf53_5 : decode cJ9_min_7cf53 5 = .ok (.iload_n 0, 1) := by decide +kernel
theorem dJ9_min_7cf53_6 : decode cJ9_min_7cf53 6 = .ok (.goto 4, 3) := by decide +kernel
theorem dJ9_min_7cf53_9 : decode cJ9_min_7cf53 9 = .ok (.iload_n 1, 1) := by decide +kernel
theorem dJ9_min_7cf53_10 : decode cJ9_min_7cf53 10 = .ok (.ireturn, 1) := by decide +kernel
theorem dL_carve_0 : decode cL_carve 0 = .ok (.aload 5, 2) := by decide +kernel
theorem dL_carve_2 : decode cL_carve 2 = .ok (.iconst 0, 1) := by decide +kernel
theorem dL_carve_3 : decode cL_carve 3 = .ok (.aload_n 0, 1) := by decide +kernel
theorem dL_carve_4 : decode cL_carve 4 = .ok (.iload_n 1, 1) := by decide +kernel
theorem dL_carve_5 : decode cL_carve 5 = .ok (.iload_n 2, 1) := by decide +kernel
theorem dL_carve_6 : decode cL_carve 6 = .ok (.iload_n 3, 1) := by decide +kernel
theorem dL_carve_7 : decode cL_carve 7 = .ok (.iload 4, 2) := by decide +kernel
theorem dL_carve_9 : decode cL_carve 9 = .ok (.invokevirtual 7, 3) := by decide +kernel
theorem dL_carve_12 : decode cL_carve 12 = .ok (.i2l, 1) := by decide +kernel
theorem dL_carve_13 : decode cL_carve 13 = .ok (.lastore, 1) := by decide +kernel
theorem dL_carve_14 : decode cL_carve 14 = .ok (.goto 15, 3) := by decide +kernel
theorem dL_carve_17 : decode cL_carve 17 = .ok (.astore 6, 2) := by decide +kernel
theorem dL_carve_19 : decode cL_carve 19 = .ok (.iconst 1, 1) := by decide +kernel
theorem dL_carve_20 : decode cL_carve 20 = .ok (.ireturn, 1) := by decide +kernel
theorem dL_carve_21 : decode cL_carve 21 = .ok (.astore 6, 2) := by decide +kernel
theorem dL_carve_23 : decode cL_carve 23 = .ok (.iconst 2, 1) := by decide +kernel
theorem dL_carve_24 : decode cL_carve 24 = .ok (.ireturn, 1) := by decide +kernel
theorem dL_carve_25 : decode cL_carve 25 = .ok (.astore 6, 2) := by decide +kernel
theorem dL_carve_27 : decode cL_carve 27 = .ok (.iconst 3, 1) := by decide +kernel
theorem dL_carve_28 : decode cL_carve 28 = .ok (.ireturn, 1) := by decide +kernel
theorem dL_carve_29 : decode cL_carve 29 = .ok (.iconst 0, 1) := by decide +kernel
theorem dL_carve_30 : decode cL_carve 30 = .ok (.ireturn, 1) := by decide +kernel
theorem dL_carveAt_0 : decode cL_carveAt 0 = .ok (.aload 5, 2) := by decide +kernel
theorem dL_carveAt_2 : decode cL_carveAt 2 = .ok (.iconst 0, 1) := by decide +kernel
theorem dL_carveAt_3 : decode cL_carveAt 3 = .ok (.aload_n 0, 1) := by decide +kernel
theorem dL_carveAt_4 : decode cL_carveAt 4 = .ok (.iload_n 1, 1) := by decide +kernel
theorem dL_carveAt_5 : decode cL_carveAt 5 = .ok (.iload_n 2, 1) := by decide +kernel
theorem dL_carveAt_6 : decode cL_carveAt 6 = .ok (.iload_n 3, 1) := by decide +kernel
theorem dL_carveAt_7 : decode cL_carveAt 7 = .ok (.iload 4, 2) := by decide +kernel
theorem dL_carveAt_9 : decode cL_carveAt 9 = .ok (.invokevirtual 19, 3) := by decide +kernel
theorem dL_carveAt_12 : decode cL_carveAt 12 = .ok (.i2l, 1) := by decide +kernel
theorem dL_carveAt_13 : decode cL_carveAt 13 = .ok (.lastore, 1) := by decide +kernel
theorem dL_carveAt_14 : decode cL_carveAt 14 = .ok (.goto 15, 3) := by decide +kernel
theorem dL_carveAt_17 : decode cL_carveAt 17 = .ok (.astore 6, 2) := by decide +kernel
theorem dL_carveAt_19 : decode cL_carveAt 19 = .ok (.iconst 1, 1) := by decide +kernel
theorem dL_carveAt_20 : decode cL_carveAt 20 = .ok (.ireturn, 1) := by decide +kernel
theorem dL_carveAt_21 : decode cL_carveAt 21 = .ok (.astore 6, 2) := by decide +kernel
theorem dL_carveAt_23 : decode cL_carveAt 23 = .ok (.iconst 2, 1) := by decide +kernel
theorem dL_carveAt_24 : decode cL_carveAt 24 = .ok (.ireturn, 1) := by decide +kernel
theorem dL_carveAt_25 : decode cL_carveAt 25 = .ok (.astore 6, 2) := by decide +kernel
theorem dL_carveAt_27 : decode cL_carveAt 27 = .ok (.iconst 3, 1) := by decide +kernel
theorem dL_carveAt_28 : decode cL_carveAt 28 = .ok (.ireturn, 1) := by decide +kernel
theorem dL_carveAt_29 : decode cL_carveAt 29 = .ok (.iconst 0, 1) := by decide +kernel
theorem dL_carveAt_30 : decode cL_carveAt 30 = .ok (.ireturn, 1) := by decide +kernel
theorem dL_remove_0 : decode cL_remove 0 = .ok (.aload_n 2, 1) := by decide +kernel
theorem dL_remove_1 : decode cL_remove 1 = .ok (.iconst 0, 1) := by decide +kernel
theorem dL_remove_2 : decode cL_remove 2 = .ok (.aload_n 0, 1) := by decide +kernel
theorem dL_remove_3 : decode cL_remove 3 = .ok (.iload_n 1, 1) := by decide +kernel
theorem dL_remove_4 : decode cL_remove 4 = .ok (.invokevirtual 22, 3) := by decide +kernel
theorem dL_remove_7 : decode cL_remove 7 = .ok (.i2l, 1) := by decide +kernel
theorem dL_remove_8 : decode cL_remove 8 = .ok (.lastore, 1) := by decide +kernel
theorem dL_remove_9 : decode cL_remove 9 = .ok (.goto 9, 3) := by decide +kernel
theorem dL_remove_12 : decode cL_remove 12 = .ok (.astore_n 3, 1) := by decide +kernel
theorem dL_remove_13 : decode cL_remove 13 = .ok (.iconst 1, 1) := by decide +kernel
theorem dL_remove_14 : decode cL_remove 14 = .ok (.ireturn, 1) := by decide +kernel
theorem dL_remove_15 : decode cL_remove 15 = .ok (.astore_n 3, 1) := by decide +kernel
theorem dL_remove_16 : decode cL_remove 16 = .ok (.iconst 2, 1) := by decide +kernel
theorem dL_remove_17 : decode cL_remove 17 = .ok (.ireturn, 1) := by decide +kernel
theorem dL_remove_18 : decode cL_remove 18 = .ok (.iconst 0, 1) := by decide +kernel
theorem dL_remove_19 : decode cL_remove 19 = .ok (.ireturn, 1) := by decide +kernel
theorem dL_grow_0 : decode cL_grow 0 = .ok (.aload_n 2, 1) := by decide +kernel
theorem dL_grow_1 : decode cL_grow 1 = .ok (.iconst 0, 1) := by decide +kernel
theorem dL_grow_2 : decode cL_grow 2 = .ok (.aload_n 0, 1) := by decide +kernel
theorem dL_grow_3 : decode cL_grow 3 = .ok (.iload_n 1, 1) := by decide +kernel
theorem dL_grow_4 : decode cL_grow 4 = .ok (.invokevirtual 26, 3) := by decide +kernel
theorem dL_grow_7 : decode cL_grow 7 = .ok (.i2l, 1) := by decide +kernel
theorem dL_grow_8 : decode cL_grow 8 = .ok (.lastore, 1) := by decide +kernel
theorem dL_grow_9 : decode cL_grow 9 = .ok (.goto 9, 3) := by decide +kernel
theorem dL_grow_12 : decode cL_grow 12 = .ok (.astore_n 3, 1) := by decide +kernel
theorem dL_grow_13 : decode cL_grow 13 = .ok (.iconst 1, 1) := by decide +kernel
theorem dL_grow_14 : decode cL_grow 14 = .ok (.ireturn, 1) := by decide +kernel
theorem dL_grow_15 : decode cL_grow 15 = .ok (.astore_n 3, 1) := by decide +kernel
theorem dL_grow_16 : decode cL_grow 16 = .ok (.iconst 2, 1) := by decide +kernel
theorem dL_grow_17 : decode cL_grow 17 = .ok (.ireturn, 1) := by decide +kernel
theorem dL_grow_18 : decode cL_grow 18 = .ok (.iconst 0, 1) := by decide +kernel
theorem dL_grow_19 : decode cL_grow 19 = .ok (.ireturn, 1) := by decide +kernel
theorem dL_halve_0 : decode cL_halve 0 = .ok (.aload_n 2, 1) := by decide +kernel
theorem dL_halve_1 : decode cL_halve 1 = .ok (.iconst 0, 1) := by decide +kernel
theorem dL_halve_2 : decode cL_halve 2 = .ok (.aload_n 0, 1) := by decide +kernel
theorem dL_halve_3 : decode cL_halve 3 = .ok (.iload_n 1, 1) := by decide +kernel
theorem dL_halve_4 : decode cL_halve 4 = .ok (.invokevirtual 29, 3) := by decide +kernel
theorem dL_halve_7 : decode cL_halve 7 = .ok (.i2l, 1) := by decide +kernel
theorem dL_halve_8 : decode cL_halve 8 = .ok (.lastore, 1) := by decide +kernel
theorem dL_halve_9 : decode cL_halve 9 = .ok (.goto 9, 3) := by decide +kernel
theorem dL_halve_12 : decode cL_halve 12 = .ok (.astore_n 3, 1) := by decide +kernel
theorem dL_halve_13 : decode cL_halve 13 = .ok (.iconst 1, 1) := by decide +kernel
theorem dL_halve_14 : decode cL_halve 14 = .ok (.ireturn, 1) := by decide +kernel
theorem dL_halve_15 : decode cL_halve 15 = .ok (.astore_n 3, 1) := by decide +kernel
theorem dL_halve_16 : decode cL_halve 16 = .ok (.iconst 2, 1) := by decide +kernel
theorem dL_halve_17 : decode cL_halve 17 = .ok (.ireturn, 1) := by decide +kernel
theorem dL_halve_18 : decode cL_halve 18 = .ok (.iconst 0, 1) := by decide +kernel
theorem dL_halve_19 : decode cL_halve 19 = .ok (.ireturn, 1) := by decide +kernel
theorem dL_setOwner_0 : decode cL_setOwner 0 = .ok (.aload_n 3, 1) := by decide +kernel
theorem dL_setOwner_1 : decode cL_setOwner 1 = .ok (.iconst 0, 1) := by decide +kernel
theorem dL_setOwner_2 : decode cL_setOwner 2 = .ok (.aload_n 0, 1) := by decide +kernel
theorem dL_setOwner_3 : decode cL_setOwner 3 = .ok (.iload_n 1, 1) := by decide +kernel
theorem dL_setOwner_4 : decode cL_setOwner 4 = .ok (.iload_n 2, 1) := by decide +kernel
theorem dL_setOwner_5 : decode cL_setOwner 5 = .ok (.invokevirtual 32, 3) := by decide +kernel
theorem dL_setOwner_8 : decode cL_setOwner 8 = .ok (.i2l, 1) := by decide +kernel
theorem dL_setOwner_9 : decode cL_setOwner 9 = .ok (.lastore, 1) := by decide +kernel
theorem dL_setOwner_10 : decode cL_setOwner 10 = .ok (.goto 11, 3) := by decide +kernel
theorem dL_setOwner_13 : decode cL_setOwner 13 = .ok (.astore 4, 2) := by decide +kernel
theorem dL_setOwner_15 : decode cL_setOwner 15 = .ok (.iconst 1, 1) := by decide +kernel
theorem dL_setOwner_16 : decode cL_setOwner 16 = .ok (.ireturn, 1) := by decide +kernel
theorem dL_setOwner_17 : decode cL_setOwner 17 = .ok (.astore 4, 2) := by decide +kernel
theorem dL_setOwner_19 : decode cL_setOwner 19 = .ok (.iconst 2, 1) := by decide +kernel
theorem dL_setOwner_20 : decode cL_setOwner 20 = .ok (.ireturn, 1) := by decide +kernel
theorem dL_setOwner_21 : decode cL_setOwner 21 = .ok (.iconst 0, 1) := by decide +kernel
theorem dL_setOwner_22 : decode cL_setOwner 22 = .ok (.ireturn, 1) := by decide +kernel
theorem dL_lend_0 : decode cL_lend 0 = .ok (.aload_n 3, 1) := by decide +kernel
theorem dL_lend_1 : decode cL_lend 1 = .ok (.iconst 0, 1) := by decide +kernel
theorem dL_lend_2 : decode cL_lend 2 = .ok (.aload_n 0, 1) := by decide +kernel
theorem dL_lend_3 : decode cL_lend 3 = .ok (.iload_n 1, 1) := by decide +kernel
theorem dL_lend_4 : decode cL_lend 4 = .ok (.iload_n 2, 1) := by decide +kernel
theorem dL_lend_5 : decode cL_lend 5 = .ok (.invokevirtual 36, 3) := by decide +kernel
theorem dL_lend_8 : decode cL_lend 8 = .ok (.i2l, 1) := by decide +kernel
theorem dL_lend_9 : decode cL_lend 9 = .ok (.lastore, 1) := by decide +kernel
theorem dL_lend_10 : decode cL_lend 10 = .ok (.goto 15, 3) := by decide +kernel
theorem dL_lend_13 : decode cL_lend 13 = .ok (.astore 4, 2) := by decide +kernel
theorem dL_lend_15 : decode cL_lend 15 = .ok (.iconst 1, 1) := by decide +kernel
theorem dL_lend_16 : decode cL_lend 16 = .ok (.ireturn, 1) := by decide +kernel
theorem dL_lend_17 : decode cL_lend 17 = .ok (.astore 4, 2) := by decide +kernel
theorem dL_lend_19 : decode cL_lend 19 = .ok (.iconst 2, 1) := by decide +kernel
theorem dL_lend_20 : decode cL_lend 20 = .ok (.ireturn, 1) := by decide +kernel
theorem dL_lend_21 : decode cL_lend 21 = .ok (.astore 4, 2) := by decide +kernel
theorem dL_lend_23 : decode cL_lend 23 = .ok (.iconst 3, 1) := by decide +kernel
theorem dL_lend_24 : decode cL_lend 24 = .ok (.ireturn, 1) := by decide +kernel
theorem dL_lend_25 : decode cL_lend 25 = .ok (.iconst 0, 1) := by decide +kernel
theorem dL_lend_26 : decode cL_lend 26 = .ok (.ireturn, 1) := by decide +kernel
theorem dL_takeBack_0 : decode cL_takeBack 0 = .ok (.aload_n 2, 1) := by decide +kernel
theorem dL_takeBack_1 : decode cL_takeBack 1 = .ok (.iconst 0, 1) := by decide +kernel
theorem dL_takeBack_2 : decode cL_takeBack 2 = .ok (.aload_n 0, 1) := by decide +kernel
theorem dL_takeBack_3 : decode cL_takeBack 3 = .ok (.iload_n 1, 1) := by decide +kernel
theorem dL_takeBack_4 : decode cL_takeBack 4 = .ok (.invokevirtual 39, 3) := by decide +kernel
theorem dL_takeBack_7 : decode cL_takeBack 7 = .ok (.i2l, 1) := by decide +kernel
theorem dL_takeBack_8 : decode cL_takeBack 8 = .ok (.lastore, 1) := by decide +kernel
theorem dL_takeBack_9 : decode cL_takeBack 9 = .ok (.goto 9, 3) := by decide +kernel
theorem dL_takeBack_12 : decode cL_takeBack 12 = .ok (.astore_n 3, 1) := by decide +kernel
theorem dL_takeBack_13 : decode cL_takeBack 13 = .ok (.iconst 1, 1) := by decide +kernel
theorem dL_takeBack_14 : decode cL_takeBack 14 = .ok (.ireturn, 1) := by decide +kernel
theorem dL_takeBack_15 : decode cL_takeBack 15 = .ok (.astore_n 3, 1) := by decide +kernel
theorem dL_takeBack_16 : decode cL_takeBack 16 = .ok (.iconst 2, 1) := by decide +kernel
theorem dL_takeBack_17 : decode cL_takeBack 17 = .ok (.ireturn, 1) := by decide +kernel
theorem dL_takeBack_18 : decode cL_takeBack 18 = .ok (.iconst 0, 1) := by decide +kernel
theorem dL_takeBack_19 : decode cL_takeBack 19 = .ok (.ireturn, 1) := by decide +kernel
theorem dL_pass_0 : decode cL_pass 0 = .ok (.aload_n 2, 1) := by decide +kernel
theorem dL_pass_1 : decode cL_pass 1 = .ok (.iconst 0, 1) := by decide +kernel
theorem dL_pass_2 : decode cL_pass 2 = .ok (.aload_n 0, 1) := by decide +kernel
theorem dL_pass_3 : decode cL_pass 3 = .ok (.iload_n 1, 1) := by decide +kernel
theorem dL_pass_4 : decode cL_pass 4 = .ok (.invokevirtual 42, 3) := by decide +kernel
theorem dL_pass_7 : decode cL_pass 7 = .ok (.i2l, 1) := by decide +kernel
theorem dL_pass_8 : decode cL_pass 8 = .ok (.lastore, 1) := by decide +kernel
theorem dL_pass_9 : decode cL_pass 9 = .ok (.goto 9, 3) := by decide +kernel
theorem dL_pass_12 : decode cL_pass 12 = .ok (.astore_n 3, 1) := by decide +kernel
theorem dL_pass_13 : decode cL_pass 13 = .ok (.iconst 1, 1) := by decide +kernel
theorem dL_pass_14 : decode cL_pass 14 = .ok (.ireturn, 1) := by decide +kernel
theorem dL_pass_15 : decode cL_pass 15 = .ok (.astore_n 3, 1) := by decide +kernel
theorem dL_pass_16 : decode cL_pass 16 = .ok (.iconst 2, 1) := by decide +kernel
theorem dL_pass_17 : decode cL_pass 17 = .ok (.ireturn, 1) := by decide +kernel
theorem dL_pass_18 : decode cL_pass 18 = .ok (.iconst 0, 1) := by decide +kernel
theorem dL_pass_19 : decode cL_pass 19 = .ok (.ireturn, 1) := by decide +kernel
theorem dL_base_0 : decode cL_base 0 = .ok (.aload_n 2, 1) := by decide +kernel
theorem dL_base_1 : decode cL_base 1 = .ok (.iconst 0, 1) := by decide +kernel
theorem dL_base_2 : decode cL_base 2 = .ok (.aload_n 0, 1) := by decide +kernel
theorem dL_base_3 : decode cL_base 3 = .ok (.iload_n 1, 1) := by decide +kernel
theorem dL_base_4 : decode cL_base 4 = .ok (.invokevirtual 45, 3) := by decide +kernel
theorem dL_base_7 : decode cL_base 7 = .ok (.i2l, 1) := by decide +kernel
theorem dL_base_8 : decode cL_base 8 = .ok (.lastore, 1) := by decide +kernel
theorem dL_base_9 : decode cL_base 9 = .ok (.goto 6, 3) := by decide +kernel
theorem dL_base_12 : decode cL_base 12 = .ok (.astore_n 3, 1) := by decide +kernel
theorem dL_base_13 : decode cL_base 13 = .ok (.iconst 1, 1) := by decide +kernel
theorem dL_base_14 : decode cL_base 14 = .ok (.ireturn, 1) := by decide +kernel
theorem dL_base_15 : decode cL_base 15 = .ok (.iconst 0, 1) := by decide +kernel
theorem dL_base_16 : decode cL_base 16 = .ok (.ireturn, 1) := by decide +kernel
theorem dL_size_0 : decode cL_size 0 = .ok (.aload_n 2, 1) := by decide +kernel
theorem dL_size_1 : decode cL_size 1 = .ok (.iconst 0, 1) := by decide +kernel
theorem dL_size_2 : decode cL_size 2 = .ok (.aload_n 0, 1) := by decide +kernel
theorem dL_size_3 : decode cL_size 3 = .ok (.iload_n 1, 1) := by decide +kernel
theorem dL_size_4 : decode cL_size 4 = .ok (.invokevirtual 48, 3) := by decide +kernel
theorem dL_size_7 : decode cL_size 7 = .ok (.i2l, 1) := by decide +kernel
theorem dL_size_8 : decode cL_size 8 = .ok (.lastore, 1) := by decide +kernel
theorem dL_size_9 : decode cL_size 9 = .ok (.goto 6, 3) := by decide +kernel
theorem dL_size_12 : decode cL_size 12 = .ok (.astore_n 3, 1) := by decide +kernel
theorem dL_size_13 : decode cL_size 13 = .ok (.iconst 1, 1) := by decide +kernel
theorem dL_size_14 : decode cL_size 14 = .ok (.ireturn, 1) := by decide +kernel
theorem dL_size_15 : decode cL_size 15 = .ok (.iconst 0, 1) := by decide +kernel
theorem dL_size_16 : decode cL_size 16 = .ok (.ireturn, 1) := by decide +kernel
theorem dL_parent_0 : decode cL_parent 0 = .ok (.aload_n 2, 1) := by decide +kernel
theorem dL_parent_1 : decode cL_parent 1 = .ok (.iconst 0, 1) := by decide +kernel
theorem dL_parent_2 : decode cL_parent 2 = .ok (.aload_n 0, 1) := by decide +kernel
theorem dL_parent_3 : decode cL_parent 3 = .ok (.iload_n 1, 1) := by decide +kernel
theorem dL_parent_4 : decode cL_parent 4 = .ok (.invokevirtual 51, 3) := by decide +kernel
theorem dL_parent_7 : decode cL_parent 7 = .ok (.i2l, 1) := by decide +kernel
theorem dL_parent_8 : decode cL_parent 8 = .ok (.lastore, 1) := by decide +kernel
theorem dL_parent_9 : decode cL_parent 9 = .ok (.goto 6, 3) := by decide +kernel
theorem dL_parent_12 : decode cL_parent 12 = .ok (.astore_n 3, 1) := by decide +kernel
theorem dL_parent_13 : decode cL_parent 13 = .ok (.iconst 1, 1) := by decide +kernel
theorem dL_parent_14 : decode cL_parent 14 = .ok (.ireturn, 1) := by decide +kernel
theorem dL_parent_15 : decode cL_parent 15 = .ok (.iconst 0, 1) := by decide +kernel
theorem dL_parent_16 : decode cL_parent 16 = .ok (.ireturn, 1) := by decide +kernel
theorem dL_free_0 : decode cL_free 0 = .ok (.aload_n 2, 1) := by decide +kernel
theorem dL_free_1 : decode cL_free 1 = .ok (.iconst 0, 1) := by decide +kernel
theorem dL_free_2 : decode cL_free 2 = .ok (.aload_n 0, 1) := by decide +kernel
theorem dL_free_3 : decode cL_free 3 = .ok (.iload_n 1, 1) := by decide +kernel
theorem dL_free_4 : decode cL_free 4 = .ok (.invokevirtual 54, 3) := by decide +kernel
theorem dL_free_7 : decode cL_free 7 = .ok (.i2l, 1) := by decide +kernel
theorem dL_free_8 : decode cL_free 8 = .ok (.lastore, 1) := by decide +kernel
theorem dL_free_9 : decode cL_free 9 = .ok (.goto 6, 3) := by decide +kernel
theorem dL_free_12 : decode cL_free 12 = .ok (.astore_n 3, 1) := by decide +kernel
theorem dL_free_13 : decode cL_free 13 = .ok (.iconst 1, 1) := by decide +kernel
theorem dL_free_14 : decode cL_free 14 = .ok (.ireturn, 1) := by decide +kernel
theorem dL_free_15 : decode cL_free 15 = .ok (.iconst 0, 1) := by decide +kernel
theorem dL_free_16 : decode cL_free 16 = .ok (.ireturn, 1) := by decide +kernel
theorem dL_greatestFree_0 : decode cL_greatestFree 0 = .ok (.aload_n 2, 1) := by decide +kernel
theorem dL_greatestFree_1 : decode cL_greatestFree 1 = .ok (.iconst 0, 1) := by decide +kernel
theorem dL_greatestFree_2 : decode cL_greatestFree 2 = .ok (.aload_n 0, 1) := by decide +kernel
theorem dL_greatestFree_3 : decode cL_greatestFree 3 = .ok (.iload_n 1, 1) := by decide +kernel
theorem dL_greatestFree_4 : decode cL_greatestFree 4 = .ok (.invokevirtual 57, 3) := by decide +kernel
theorem dL_greatestFree_7 : decode cL_greatestFree 7 = .ok (.i2l, 1) := by decide +kernel
theorem dL_greatestFree_8 : decode cL_greatestFree 8 = .ok (.lastore, 1) := by decide +kernel
theorem dL_greatestFree_9 : decode cL_greatestFree 9 = .ok (.goto 6, 3) := by decide +kernel
theorem dL_greatestFree_12 : decode cL_greatestFree 12 = .ok (.astore_n 3, 1) := by decide +kernel
theorem dL_greatestFree_13 : decode cL_greatestFree 13 = .ok (.iconst 1, 1) := by decide +kernel
theorem dL_greatestFree_14 : decode cL_greatestFree 14 = .ok (.ireturn, 1) := by decide +kernel
theorem dL_greatestFree_15 : decode cL_greatestFree 15 = .ok (.iconst 0, 1) := by decide +kernel
theorem dL_greatestFree_16 : decode cL_greatestFree 16 = .ok (.ireturn, 1) := by decide +kernel
theorem dL_inTheWay_0 : decode cL_inTheWay 0 = .ok (.aload_n 3, 1) := by decide +kernel
theorem dL_inTheWay_1 : decode cL_inTheWay 1 = .ok (.iconst 0, 1) := by decide +kernel
theorem dL_inTheWay_2 : decode cL_inTheWay 2 = .ok (.aload_n 0, 1) := by decide +kernel
theorem dL_inTheWay_3 : decode cL_inTheWay 3 = .ok (.iload_n 1, 1) := by decide +kernel
theorem dL_inTheWay_4 : decode cL_inTheWay 4 = .ok (.iload_n 2, 1) := by decide +kernel
theorem dL_inTheWay_5 : decode cL_inTheWay 5 = .ok (.invokevirtual 60, 3) := by decide +kernel
theorem dL_inTheWay_8 : decode cL_inTheWay 8 = .ok (.i2l, 1) := by decide +kernel
theorem dL_inTheWay_9 : decode cL_inTheWay 9 = .ok (.lastore, 1) := by decide +kernel
theorem dL_inTheWay_10 : decode cL_inTheWay 10 = .ok (.goto 11, 3) := by decide +kernel
theorem dL_inTheWay_13 : decode cL_inTheWay 13 = .ok (.astore 4, 2) := by decide +kernel
theorem dL_inTheWay_15 : decode cL_inTheWay 15 = .ok (.iconst 1, 1) := by decide +kernel
theorem dL_inTheWay_16 : decode cL_inTheWay 16 = .ok (.ireturn, 1) := by decide +kernel
theorem dL_inTheWay_17 : decode cL_inTheWay 17 = .ok (.astore 4, 2) := by decide +kernel
theorem dL_inTheWay_19 : decode cL_inTheWay 19 = .ok (.iconst 2, 1) := by decide +kernel
theorem dL_inTheWay_20 : decode cL_inTheWay 20 = .ok (.ireturn, 1) := by decide +kernel
theorem dL_inTheWay_21 : decode cL_inTheWay 21 = .ok (.iconst 0, 1) := by decide +kernel
theorem dL_inTheWay_22 : decode cL_inTheWay 22 = .ok (.ireturn, 1) := by decide +kernel
theorem dL_isLent_0 : decode cL_isLent 0 = .ok (.aload_n 2, 1) := by decide +kernel
theorem dL_isLent_1 : decode cL_isLent 1 = .ok (.iconst 0, 1) := by decide +kernel
theorem dL_isLent_2 : decode cL_isLent 2 = .ok (.aload_n 0, 1) := by decide +kernel
theorem dL_isLent_3 : decode cL_isLent 3 = .ok (.iload_n 1, 1) := by decide +kernel
theorem dL_isLent_4 : decode cL_isLent 4 = .ok (.invokevirtual 63, 3) := by decide +kernel
theorem dL_isLent_7 : decode cL_isLent 7 = .ok (.ifCond .eq 7, 3) := by decide +kernel
theorem dL_isLent_10 : decode cL_isLent 10 = .ok (.lconst 1, 1) := by decide +kernel
theorem dL_isLent_11 : decode cL_isLent 11 = .ok (.goto 4, 3) := by decide +kernel
theorem dL_isLent_14 : decode cL_isLent 14 = .ok (.lconst 0, 1) := by decide +kernel
theorem dL_isLent_15 : decode cL_isLent 15 = .ok (.lastore, 1) := by decide +kernel
theorem dL_isLent_16 : decode cL_isLent 16 = .ok (.goto 6, 3) := by decide +kernel
theorem dL_isLent_19 : decode cL_isLent 19 = .ok (.astore_n 3, 1) := by decide +kernel
theorem dL_isLent_20 : decode cL_isLent 20 = .ok (.iconst 1, 1) := by decide +kernel
theorem dL_isLent_21 : decode cL_isLent 21 = .ok (.ireturn, 1) := by decide +kernel
theorem dL_isLent_22 : decode cL_isLent 22 = .ok (.iconst 0, 1) := by decide +kernel
theorem dL_isLent_23 : decode cL_isLent 23 = .ok (.ireturn, 1) := by decide +kernel
theorem dL_nearest_0 : decode cL_nearest 0 = .ok (.aload_n 2, 1) := by decide +kernel
theorem dL_nearest_1 : decode cL_nearest 1 = .ok (.iconst 0, 1) := by decide +kernel
theorem dL_nearest_2 : decode cL_nearest 2 = .ok (.aload_n 0, 1) := by decide +kernel
theorem dL_nearest_3 : decode cL_nearest 3 = .ok (.iload_n 1, 1) := by decide +kernel
theorem dL_nearest_4 : decode cL_nearest 4 = .ok (.invokevirtual 67, 3) := by decide +kernel
theorem dL_nearest_7 : decode cL_nearest 7 = .ok (.i2l, 1) := by decide +kernel
theorem dL_nearest_8 : decode cL_nearest 8 = .ok (.lastore, 1) := by decide +kernel
theorem dL_nearest_9 : decode cL_nearest 9 = .ok (.goto 6, 3) := by decide +kernel
theorem dL_nearest_12 : decode cL_nearest 12 = .ok (.astore_n 3, 1) := by decide +kernel
theorem dL_nearest_13 : decode cL_nearest 13 = .ok (.iconst 1, 1) := by decide +kernel
theorem dL_nearest_14 : decode cL_nearest 14 = .ok (.ireturn, 1) := by decide +kernel
theorem dL_nearest_15 : decode cL_nearest 15 = .ok (.iconst 0, 1) := by decide +kernel
theorem dL_nearest_16 : decode cL_nearest 16 = .ok (.ireturn, 1) := by decide +kernel
theorem dL_nearestByRow_0 : decode cL_nearestByRow 0 = .ok (.aload_n 2, 1) := by decide +kernel
theorem dL_nearestByRow_1 : decode cL_nearestByRow 1 = .ok (.iconst 0, 1) := by decide +kernel
theorem dL_nearestByRow_2 : decode cL_nearestByRow 2 = .ok (.aload_n 0, 1) := by decide +kernel
theorem dL_nearestByRow_3 : decode cL_nearestByRow 3 = .ok (.iload_n 1, 1) := by decide +kernel
theorem dL_nearestByRow_4 : decode cL_nearestByRow 4 = .ok (.invokevirtual 70, 3) := by decide +kernel
theorem dL_nearestByRow_7 : decode cL_nearestByRow 7 = .ok (.i2l, 1) := by decide +kernel
theorem dL_nearestByRow_8 : decode cL_nearestByRow 8 = .ok (.lastore, 1) := by decide +kernel
theorem dL_nearestByRow_9 : decode cL_nearestByRow 9 = .ok (.goto 6, 3) := by decide +kernel
theorem dL_nearestByRow_12 : decode cL_nearestByRow 12 = .ok (.astore_n 3, 1) := by decide +kernel
theorem dL_nearestByRow_13 : decode cL_nearestByRow 13 = .ok (.iconst 1, 1) := by decide +kernel
theorem dL_nearestByRow_14 : decode cL_nearestByRow 14 = .ok (.ireturn, 1) := by decide +kernel
theorem dL_nearestByRow_15 : decode cL_nearestByRow 15 = .ok (.iconst 0, 1) := by decide +kernel
theorem dL_nearestByRow_16 : decode cL_nearestByRow 16 = .ok (.ireturn, 1) := by decide +kernel
theorem dL_owned_0 : decode cL_owned 0 = .ok (.aload_n 2, 1) := by decide +kernel
theorem dL_owned_1 : decode cL_owned 1 = .ok (.iconst 0, 1) := by decide +kernel
theorem dL_owned_2 : decode cL_owned 2 = .ok (.aload_n 0, 1) := by decide +kernel
theorem dL_owned_3 : decode cL_owned 3 = .ok (.iload_n 1, 1) := by decide +kernel
theorem dL_owned_4 : decode cL_owned 4 = .ok (.invokevirtual 73, 3) := by decide +kernel
theorem dL_owned_7 : decode cL_owned 7 = .ok (.i2l, 1) := by decide +kernel
theorem dL_owned_8 : decode cL_owned 8 = .ok (.lastore, 1) := by decide +kernel
theorem dL_owned_9 : decode cL_owned 9 = .ok (.goto 6, 3) := by decide +kernel
theorem dL_owned_12 : decode cL_owned 12 = .ok (.astore_n 3, 1) := by decide +kernel
theorem dL_owned_13 : decode cL_owned 13 = .ok (.iconst 1, 1) := by decide +kernel
theorem dL_owned_14 : decode cL_owned 14 = .ok (.ireturn, 1) := by decide +kernel
theorem dL_owned_15 : decode cL_owned 15 = .ok (.iconst 0, 1) := by decide +kernel
theorem dL_owned_16 : decode cL_owned 16 = .ok (.ireturn, 1) := by decide +kernel
theorem dL_blocks_0 : decode cL_blocks 0 = .ok (.aload_n 2, 1) := by decide +kernel
theorem dL_blocks_1 : decode cL_blocks 1 = .ok (.iconst 0, 1) := by decide +kernel
theorem dL_blocks_2 : decode cL_blocks 2 = .ok (.aload_n 0, 1) := by decide +kernel
theorem dL_blocks_3 : decode cL_blocks 3 = .ok (.iload_n 1, 1) := by decide +kernel
theorem dL_blocks_4 : decode cL_blocks 4 = .ok (.invokevirtual 76, 3) := by decide +kernel
theorem dL_blocks_7 : decode cL_blocks 7 = .ok (.i2l, 1) := by decide +kernel
theorem dL_blocks_8 : decode cL_blocks 8 = .ok (.lastore, 1) := by decide +kernel
theorem dL_blocks_9 : decode cL_blocks 9 = .ok (.goto 6, 3) := by decide +kernel
theorem dL_blocks_12 : decode cL_blocks 12 = .ok (.astore_n 3, 1) := by decide +kernel
theorem dL_blocks_13 : decode cL_blocks 13 = .ok (.iconst 1, 1) := by decide +kernel
theorem dL_blocks_14 : decode cL_blocks 14 = .ok (.ireturn, 1) := by decide +kernel
theorem dL_blocks_15 : decode cL_blocks 15 = .ok (.iconst 0, 1) := by decide +kernel
theorem dL_blocks_16 : decode cL_blocks 16 = .ok (.ireturn, 1) := by decide +kernel
