theorem dJ9_min_7cf53_0 : decode cJ9_min_7cf53 0 = .ok (.iload_n 0, 1) := by decide +kernel
theorem dJ9_min_7cf53_1 : decode cJ9_min_7cf53 1 = .ok (.iload_n 1, 1) := by decide +kernel
theorem dJ9_min_7cf53_2 : decode cJ9_min_7cf53 2 = .ok (.if_icmp .gt 7, 3) := by decide +kernel
theorem dJ9_min_7cf53_5 : decode cJ9_min_7cf53 5 = .ok (.iload_n 0, 1) := by decide +kernel
theorem dJ9_min_7cf53_6 : decode cJ9_min_7cf53 6 = .ok (.goto 4, 3) := by decide +kernel
theorem dJ9_min_7cf53_9 : decode cJ9_min_7cf53 9 = .ok (.iload_n 1, 1) := by decide +kernel
theorem dJ9_min_7cf53_10 : decode cJ9_min_7cf53 10 = .ok (.ireturn, 1) := by decide +kernel
theorem dL_cell_0 : decode cL_cell 0 = .ok (.iload_n 1, 1) := by decide +kernel
theorem dL_cell_1 : decode cL_cell 1 = .ok (.aload_n 0, 1) := by decide +kernel
theorem dL_cell_2 : decode cL_cell 2 = .ok (.arraylength, 1) := by decide +kernel
theorem dL_cell_3 : decode cL_cell 3 = .ok (.if_icmp .ge 9, 3) := by decide +kernel
theorem dL_cell_6 : decode cL_cell 6 = .ok (.aload_n 0, 1) := by decide +kernel
theorem dL_cell_7 : decode cL_cell 7 = .ok (.iload_n 1, 1) := by decide +kernel
theorem dL_cell_8 : decode cL_cell 8 = .ok (.iaload, 1) := by decide +kernel
theorem dL_cell_9 : decode cL_cell 9 = .ok (.goto 18, 3) := by decide +kernel
theorem dL_cell_12 : decode cL_cell 12 = .ok (.sipush 7919, 3) := by decide +kernel
theorem dL_cell_15 : decode cL_cell 15 = .ok (.iload_n 1, 1) := by decide +kernel
theorem dL_cell_16 : decode cL_cell 16 = .ok (.sipush 653, 3) := by decide +kernel
theorem dL_cell_19 : decode cL_cell 19 = .ok (.iadd, 1) := by decide +kernel
theorem dL_cell_20 : decode cL_cell 20 = .ok (.imul, 1) := by decide +kernel
theorem dL_cell_21 : decode cL_cell 21 = .ok (.iload_n 1, 1) := by decide +kernel
theorem dL_cell_22 : decode cL_cell 22 = .ok (.sipush 1187, 3) := by decide +kernel
theorem dL_cell_25 : decode cL_cell 25 = .ok (.iadd, 1) := by decide +kernel
theorem dL_cell_26 : decode cL_cell 26 = .ok (.imul, 1) := by decide +kernel
theorem dL_cell_27 : decode cL_cell 27 = .ok (.ireturn, 1) := by decide +kernel
theorem dL_low_0 : decode cL_low 0 = .ok (.iload_n 0, 1) := by decide +kernel
theorem dL_low_1 : decode cL_low 1 = .ok (.ldc 7, 2) := by decide +kernel
theorem dL_low_3 : decode cL_low 3 = .ok (.iand, 1) := by decide +kernel
theorem dL_low_4 : decode cL_low 4 = .ok (.iload_n 1, 1) := by decide +kernel
theorem dL_low_5 : decode cL_low 5 = .ok (.irem, 1) := by decide +kernel
theorem dL_low_6 : decode cL_low 6 = .ok (.ireturn, 1) := by decide +kernel
theorem dL_carve_0 : decode cL_carve 0 = .ok (.aload_n 0, 1) := by decide +kernel
theorem dL_carve_1 : decode cL_carve 1 = .ok (.iload_n 1, 1) := by decide +kernel
theorem dL_carve_2 : decode cL_carve 2 = .ok (.iload_n 2, 1) := by decide +kernel
theorem dL_carve_3 : decode cL_carve 3 = .ok (.iload_n 3, 1) := by decide +kernel
theorem dL_carve_4 : decode cL_carve 4 = .ok (.iload 4, 2) := by decide +kernel
theorem dL_carve_6 : decode cL_carve 6 = .ok (.invokevirtual 8, 3) := by decide +kernel
theorem dL_carve_9 : decode cL_carve 9 = .ok (.ireturn, 1) := by decide +kernel
theorem dL_carve_10 : decode cL_carve 10 = .ok (.astore 5, 2) := by decide +kernel
theorem dL_carve_12 : decode cL_carve 12 = .ok (.ldc 16, 2) := by decide +kernel
theorem dL_carve_14 : decode cL_carve 14 = .ok (.ireturn, 1) := by decide +kernel
theorem dL_carve_15 : decode cL_carve 15 = .ok (.astore 5, 2) := by decide +kernel
theorem dL_carve_17 : decode cL_carve 17 = .ok (.ldc 16, 2) := by decide +kernel
theorem dL_carve_19 : decode cL_carve 19 = .ok (.ireturn, 1) := by decide +kernel
theorem dL_carve_20 : decode cL_carve 20 = .ok (.astore 5, 2) := by decide +kernel
theorem dL_carve_22 : decode cL_carve 22 = .ok (.ldc 16, 2) := by decide +kernel
theorem dL_carve_24 : decode cL_carve 24 = .ok (.ireturn, 1) := by decide +kernel
theorem dL_carveAt_0 : decode cL_carveAt 0 = .ok (.aload_n 0, 1) := by decide +kernel
theorem dL_carveAt_1 : decode cL_carveAt 1 = .ok (.iload_n 1, 1) := by decide +kernel
theorem dL_carveAt_2 : decode cL_carveAt 2 = .ok (.iload_n 2, 1) := by decide +kernel
theorem dL_carveAt_3 : decode cL_carveAt 3 = .ok (.iload_n 3, 1) := by decide +kernel
theorem dL_carveAt_4 : decode cL_carveAt 4 = .ok (.iload 4, 2) := by decide +kernel
theorem dL_carveAt_6 : decode cL_carveAt 6 = .ok (.invokevirtual 21, 3) := by decide +kernel
theorem dL_carveAt_9 : decode cL_carveAt 9 = .ok (.ireturn, 1) := by decide +kernel
theorem dL_carveAt_10 : decode cL_carveAt 10 = .ok (.astore 5, 2) := by decide +kernel
theorem dL_carveAt_12 : decode cL_carveAt 12 = .ok (.ldc 16, 2) := by decide +kernel
theorem dL_carveAt_14 : decode cL_carveAt 14 = .ok (.ireturn, 1) := by decide +kernel
theorem dL_carveAt_15 : decode cL_carveAt 15 = .ok (.astore 5, 2) := by decide +kernel
theorem dL_carveAt_17 : decode cL_carveAt 17 = .ok (.ldc 16, 2) := by decide +kernel
theorem dL_carveAt_19 : decode cL_carveAt 19 = .ok (.ireturn, 1) := by decide +kernel
theorem dL_carveAt_20 : decode cL_carveAt 20 = .ok (.astore 5, 2) := by decide +kernel
theorem dL_carveAt_22 : decode cL_carveAt 22 = .ok (.ldc 16, 2) := by decide +kernel
theorem dL_carveAt_24 : decode cL_carveAt 24 = .ok (.ireturn, 1) := by decide +kernel
theorem dL_remove_0 : decode cL_remove 0 = .ok (.aload_n 0, 1) := by decide +kernel
theorem dL_remove_1 : decode cL_remove 1 = .ok (.iload_n 1, 1) := by decide +kernel
theorem dL_remove_2 : decode cL_remove 2 = .ok (.invokevirtual 24, 3) := by decide +kernel
theorem dL_remove_5 : decode cL_remove 5 = .ok (.ireturn, 1) := by decide +kernel
theorem dL_remove_6 : decode cL_remove 6 = .ok (.astore_n 2, 1) := by decide +kernel
theorem dL_remove_7 : decode cL_remove 7 = .ok (.ldc 16, 2) := by decide +kernel
theorem dL_remove_9 : decode cL_remove 9 = .ok (.ireturn, 1) := by decide +kernel
theorem dL_remove_10 : decode cL_remove 10 = .ok (.astore_n 2, 1) := by decide +kernel
theorem dL_remove_11 : decode cL_remove 11 = .ok (.ldc 16, 2) := by decide +kernel
theorem dL_remove_13 : decode cL_remove 13 = .ok (.ireturn, 1) := by decide +kernel
theorem dL_grow_0 : decode cL_grow 0 = .ok (.aload_n 0, 1) := by decide +kernel
theorem dL_grow_1 : decode cL_grow 1 = .ok (.iload_n 1, 1) := by decide +kernel
theorem dL_grow_2 : decode cL_grow 2 = .ok (.invokevirtual 28, 3) := by decide +kernel
theorem dL_grow_5 : decode cL_grow 5 = .ok (.ireturn, 1) := by decide +kernel
theorem dL_grow_6 : decode cL_grow 6 = .ok (.astore_n 2, 1) := by decide +kernel
theorem dL_grow_7 : decode cL_grow 7 = .ok (.ldc 16, 2) := by decide +kernel
theorem dL_grow_9 : decode cL_grow 9 = .ok (.ireturn, 1) := by decide +kernel
theorem dL_grow_10 : decode cL_grow 10 = .ok (.astore_n 2, 1) := by decide +kernel
theorem dL_grow_11 : decode cL_grow 11 = .ok (.ldc 16, 2) := by decide +kernel
theorem dL_grow_13 : decode cL_grow 13 = .ok (.ireturn, 1) := by decide +kernel
theorem dL_halve_0 : decode cL_halve 0 = .ok (.aload_n 0, 1) := by decide +kernel
theorem dL_halve_1 : decode cL_halve 1 = .ok (.iload_n 1, 1) := by decide +kernel
theorem dL_halve_2 : decode cL_halve 2 = .ok (.invokevirtual 31, 3) := by decide +kernel
theorem dL_halve_5 : decode cL_halve 5 = .ok (.ireturn, 1) := by decide +kernel
theorem dL_halve_6 : decode cL_halve 6 = .ok (.astore_n 2, 1) := by decide +kernel
theorem dL_halve_7 : decode cL_halve 7 = .ok (.ldc 16, 2) := by decide +kernel
theorem dL_halve_9 : decode cL_halve 9 = .ok (.ireturn, 1) := by decide +kernel
theorem dL_halve_10 : decode cL_halve 10 = .ok (.astore_n 2, 1) := by decide +kernel
theorem dL_halve_11 : decode cL_halve 11 = .ok (.ldc 16, 2) := by decide +kernel
theorem dL_halve_13 : decode cL_halve 13 = .ok (.ireturn, 1) := by decide +kernel
theorem dL_setOwner_0 : decode cL_setOwner 0 = .ok (.aload_n 0, 1) := by decide +kernel
theorem dL_setOwner_1 : decode cL_setOwner 1 = .ok (.iload_n 1, 1) := by decide +kernel
theorem dL_setOwner_2 : decode cL_setOwner 2 = .ok (.iload_n 2, 1) := by decide +kernel
theorem dL_setOwner_3 : decode cL_setOwner 3 = .ok (.invokevirtual 34, 3) := by decide +kernel
theorem dL_setOwner_6 : decode cL_setOwner 6 = .ok (.ireturn, 1) := by decide +kernel
theorem dL_setOwner_7 : decode cL_setOwner 7 = .ok (.astore_n 3, 1) := by decide +kernel
theorem dL_setOwner_8 : decode cL_setOwner 8 = .ok (.ldc 16, 2) := by decide +kernel
theorem dL_setOwner_10 : decode cL_setOwner 10 = .ok (.ireturn, 1) := by decide +kernel
theorem dL_setOwner_11 : decode cL_setOwner 11 = .ok (.astore_n 3, 1) := by decide +kernel
theorem dL_setOwner_12 : decode cL_setOwner 12 = .ok (.ldc 16, 2) := by decide +kernel
theorem dL_setOwner_14 : decode cL_setOwner 14 = .ok (.ireturn, 1) := by decide +kernel
theorem dL_lend_0 : decode cL_lend 0 = .ok (.aload_n 0, 1) := by decide +kernel
theorem dL_lend_1 : decode cL_lend 1 = .ok (.iload_n 1, 1) := by decide +kernel
theorem dL_lend_2 : decode cL_lend 2 = .ok (.iload_n 2, 1) := by decide +kernel
theorem dL_lend_3 : decode cL_lend 3 = .ok (.invokevirtual 38, 3) := by decide +kernel
theorem dL_lend_6 : decode cL_lend 6 = .ok (.ireturn, 1) := by decide +kernel
theorem dL_lend_7 : decode cL_lend 7 = .ok (.astore_n 3, 1) := by decide +kernel
theorem dL_lend_8 : decode cL_lend 8 = .ok (.ldc 16, 2) := by decide +kernel
theorem dL_lend_10 : decode cL_lend 10 = .ok (.ireturn, 1) := by decide +kernel
theorem dL_lend_11 : decode cL_lend 11 = .ok (.astore_n 3, 1) := by decide +kernel
theorem dL_lend_12 : decode cL_lend 12 = .ok (.ldc 16, 2) := by decide +kernel
theorem dL_lend_14 : decode cL_lend 14 = .ok (.ireturn, 1) := by decide +kernel
theorem dL_lend_15 : decode cL_lend 15 = .ok (.astore_n 3, 1) := by decide +kernel
theorem dL_lend_16 : decode cL_lend 16 = .ok (.ldc 16, 2) := by decide +kernel
theorem dL_lend_18 : decode cL_lend 18 = .ok (.ireturn, 1) := by decide +kernel
theorem dL_takeBack_0 : decode cL_takeBack 0 = .ok (.aload_n 0, 1) := by decide +kernel
theorem dL_takeBack_1 : decode cL_takeBack 1 = .ok (.iload_n 1, 1) := by decide +kernel
theorem dL_takeBack_2 : decode cL_takeBack 2 = .ok (.invokevirtual 41, 3) := by decide +kernel
theorem dL_takeBack_5 : decode cL_takeBack 5 = .ok (.ireturn, 1) := by decide +kernel
theorem dL_takeBack_6 : decode cL_takeBack 6 = .ok (.astore_n 2, 1) := by decide +kernel
theorem dL_takeBack_7 : decode cL_takeBack 7 = .ok (.ldc 16, 2) := by decide +kernel
theorem dL_takeBack_9 : decode cL_takeBack 9 = .ok (.ireturn, 1) := by decide +kernel
theorem dL_takeBack_10 : decode cL_takeBack 10 = .ok (.astore_n 2, 1) := by decide +kernel
theorem dL_takeBack_11 : decode cL_takeBack 11 = .ok (.ldc 16, 2) := by decide +kernel
theorem dL_takeBack_13 : decode cL_takeBack 13 = .ok (.ireturn, 1) := by decide +kernel
theorem dL_pass_0 : decode cL_pass 0 = .ok (.aload_n 0, 1) := by decide +kernel
theorem dL_pass_1 : decode cL_pass 1 = .ok (.iload_n 1, 1) := by decide +kernel
theorem dL_pass_2 : decode cL_pass 2 = .ok (.invokevirtual 44, 3) := by decide +kernel
theorem dL_pass_5 : decode cL_pass 5 = .ok (.ireturn, 1) := by decide +kernel
theorem dL_pass_6 : decode cL_pass 6 = .ok (.astore_n 2, 1) := by decide +kernel
theorem dL_pass_7 : decode cL_pass 7 = .ok (.ldc 16, 2) := by decide +kernel
theorem dL_pass_9 : decode cL_pass 9 = .ok (.ireturn, 1) := by decide +kernel
theorem dL_pass_10 : decode cL_pass 10 = .ok (.astore_n 2, 1) := by decide +kernel
theorem dL_pass_11 : decode cL_pass 11 = .ok (.ldc 16, 2) := by decide +kernel
theorem dL_pass_13 : decode cL_pass 13 = .ok (.ireturn, 1) := by decide +kernel
theorem dL_act_0 : decode cL_act 0 = .ok (.iload_n 1, 1) := by decide +kernel
theorem dL_act_1 : decode cL_act 1 = .ok (.bipush 24, 2) := by decide +kernel
theorem dL_act_3 : decode cL_act 3 = .ok (.ishr, 1) := by decide +kernel
theorem dL_act_4 : decode cL_act 4 = .ok (.bipush 9, 2) := by decide +kernel
theorem dL_act_6 : decode cL_act 6 = .ok (.invokestatic 47, 3) := by decide +kernel
theorem dL_act_9 : decode cL_act 9 = .ok (.ifCond .ne 7, 3) := by decide +kernel
theorem dL_act_12 : decode cL_act 12 = .ok (.iconst 1, 1) := by decide +kernel
theorem dL_act_13 : decode cL_act 13 = .ok (.goto 4, 3) := by decide +kernel
theorem dL_act_16 : decode cL_act 16 = .ok (.iconst 0, 1) := by decide +kernel
theorem dL_act_17 : decode cL_act 17 = .ok (.istore_n 2, 1) := by decide +kernel
theorem dL_act_18 : decode cL_act 18 = .ok (.iload_n 1, 1) := by decide +kernel
theorem dL_act_19 : decode cL_act 19 = .ok (.iconst 4, 1) := by decide +kernel
theorem dL_act_20 : decode cL_act 20 = .ok (.ishr, 1) := by decide +kernel
theorem dL_act_21 : decode cL_act 21 = .ok (.iload_n 2, 1) := by decide +kernel
theorem dL_act_22 : decode cL_act 22 = .ok (.ifCond .eq 8, 3) := by decide +kernel
theorem dL_act_25 : decode cL_act 25 = .ok (.bipush 63, 2) := by decide +kernel
theorem dL_act_27 : decode cL_act 27 = .ok (.goto 5, 3) := by decide +kernel
theorem dL_act_30 : decode cL_act 30 = .ok (.bipush 14, 2) := by decide +kernel
theorem dL_act_32 : decode cL_act 32 = .ok (.invokestatic 47, 3) := by decide +kernel
theorem dL_act_35 : decode cL_act 35 = .ok (.iload_n 2, 1) := by decide +kernel
theorem dL_act_36 : decode cL_act 36 = .ok (.ifCond .eq 7, 3) := by decide +kernel
theorem dL_act_39 : decode cL_act 39 = .ok (.iconst 1, 1) := by decide +kernel
theorem dL_act_40 : decode cL_act 40 = .ok (.goto 4, 3) := by decide +kernel
theorem dL_act_43 : decode cL_act 43 = .ok (.iconst 0, 1) := by decide +kernel
theorem dL_act_44 : decode cL_act 44 = .ok (.isub, 1) := by decide +kernel
theorem dL_act_45 : decode cL_act 45 = .ok (.istore_n 3, 1) := by decide +kernel
theorem dL_act_46 : decode cL_act 46 = .ok (.iload_n 2, 1) := by decide +kernel
theorem dL_act_47 : decode cL_act 47 = .ok (.ifCond .eq 16, 3) := by decide +kernel
theorem dL_act_50 : decode cL_act 50 = .ok (.iload_n 1, 1) := by decide +kernel
theorem dL_act_51 : decode cL_act 51 = .ok (.bipush 10, 2) := by decide +kernel
theorem dL_act_53 : decode cL_act 53 = .ok (.ishr, 1) := by decide +kernel
theorem dL_act_54 : decode cL_act 54 = .ok (.sipush 4200, 3) := by decide +kernel
theorem dL_act_57 : decode cL_act 57 = .ok (.invokestatic 47, 3) := by decide +kernel
theorem dL_act_60 : decode cL_act 60 = .ok (.goto 14, 3) := by decide +kernel
theorem dL_act_63 : decode cL_act 63 = .ok (.iconst 1, 1) := by decide +kernel
theorem dL_act_64 : decode cL_act 64 = .ok (.iload_n 1, 1) := by decide +kernel
theorem dL_act_65 : decode cL_act 65 = .ok (.bipush 10, 2) := by decide +kernel
theorem dL_act_67 : decode cL_act 67 = .ok (.ishr, 1) := by decide +kernel
theorem dL_act_68 : decode cL_act 68 = .ok (.bipush 12, 2) := by decide +kernel
theorem dL_act_70 : decode cL_act 70 = .ok (.invokestatic 47, 3) := by decide +kernel
theorem dL_act_73 : decode cL_act 73 = .ok (.ishl, 1) := by decide +kernel
theorem dL_act_74 : decode cL_act 74 = .ok (.istore 4, 2) := by decide +kernel
theorem dL_act_76 : decode cL_act 76 = .ok (.iload_n 1, 1) := by decide +kernel
theorem dL_act_77 : decode cL_act 77 = .ok (.bipush 16, 2) := by decide +kernel
theorem dL_act_79 : decode cL_act 79 = .ok (.invokestatic 47, 3) := by decide +kernel
theorem dL_act_82 : decode cL_act 82 = .ok (.tableswitch 297 0 14 #[74, 74, 74, 74, 74, 125, 177, 183, 183, 189, 195, 228, 228, 228, 261], 74) := by decide +kernel
theorem dL_act_156 : decode cL_act 156 = .ok (.aload_n 0, 1) := by decide +kernel
theorem dL_act_157 : decode cL_act 157 = .ok (.iload_n 3, 1) := by decide +kernel
theorem dL_act_158 : decode cL_act 158 = .ok (.iload 4, 2) := by decide +kernel
theorem dL_act_160 : decode cL_act 160 = .ok (.iload_n 2, 1) := by decide +kernel
theorem dL_act_161 : decode cL_act 161 = .ok (.ifCond .eq 17, 3) := by decide +kernel
theorem dL_act_164 : decode cL_act 164 = .ok (.iload_n 1, 1) := by decide +kernel
theorem dL_act_165 : decode cL_act 165 = .ok (.bipush 14, 2) := by decide +kernel
theorem dL_act_167 : decode cL_act 167 = .ok (.ishr, 1) := by decide +kernel
theorem dL_act_168 : decode cL_act 168 = .ok (.bipush 10, 2) := by decide +kernel
theorem dL_act_170 : decode cL_act 170 = .ok (.invokestatic 47, 3) := by decide +kernel
theorem dL_act_173 : decode cL_act 173 = .ok (.iconst 1, 1) := by decide +kernel
theorem dL_act_174 : decode cL_act 174 = .ok (.isub, 1) := by decide +kernel
theorem dL_act_175 : decode cL_act 175 = .ok (.goto 12, 3) := by decide +kernel
theorem dL_act_178 : decode cL_act 178 = .ok (.iload_n 1, 1) := by decide +kernel
theorem dL_act_179 : decode cL_act 179 = .ok (.bipush 14, 2) := by decide +kernel
theorem dL_act_181 : decode cL_act 181 = .ok (.ishr, 1) := by decide +kernel
theorem dL_act_182 : decode cL_act 182 = .ok (.bipush 8, 2) := by decide +kernel
theorem dL_act_184 : decode cL_act 184 = .ok (.invokestatic 47, 3) := by decide +kernel
theorem dL_act_187 : decode cL_act 187 = .ok (.iload_n 1, 1) := by decide +kernel
theorem dL_act_188 : decode cL_act 188 = .ok (.bipush 17, 2) := by decide +kernel
theorem dL_act_190 : decode cL_act 190 = .ok (.ishr, 1) := by decide +kernel
theorem dL_act_191 : decode cL_act 191 = .ok (.iload_n 2, 1) := by decide +kernel
theorem dL_act_192 : decode cL_act 192 = .ok (.ifCond .eq 7, 3) := by decide +kernel
theorem dL_act_195 : decode cL_act 195 = .ok (.iconst 4, 1) := by decide +kernel
theorem dL_act_196 : decode cL_act 196 = .ok (.goto 4, 3) := by decide +kernel
theorem dL_act_199 : decode cL_act 199 = .ok (.iconst 3, 1) := by decide +kernel
theorem dL_act_200 : decode cL_act 200 = .ok (.invokestatic 47, 3) := by decide +kernel
theorem dL_act_203 : decode cL_act 203 = .ok (.invokestatic 52, 3) := by decide +kernel
theorem dL_act_206 : decode cL_act 206 = .ok (.ireturn, 1) := by decide +kernel
theorem dL_act_207 : decode cL_act 207 = .ok (.aload_n 0, 1) := by decide +kernel
theorem dL_act_208 : decode cL_act 208 = .ok (.iload_n 3, 1) := by decide +kernel
theorem dL_act_209 : decode cL_act 209 = .ok (.iload_n 2, 1) := by decide +kernel
theorem dL_act_210 : decode cL_act 210 = .ok (.ifCond .eq 19, 3) := by decide +kernel
theorem dL_act_213 : decode cL_act 213 = .ok (.iload_n 1, 1) := by decide +kernel
theorem dL_act_214 : decode cL_act 214 = .ok (.bipush 14, 2) := by decide +kernel
theorem dL_act_216 : decode cL_act 216 = .ok (.ishr, 1) := by decide +kernel
theorem dL_act_217 : decode cL_act 217 = .ok (.sipush 5000, 3) := by decide +kernel
theorem dL_act_220 : decode cL_act 220 = .ok (.invokestatic 47, 3) := by decide +kernel
theorem dL_act_223 : decode cL_act 223 = .ok (.bipush 50, 2) := by decide +kernel
theorem dL_act_225 : decode cL_act 225 = .ok (.isub, 1) := by decide +kernel
theorem dL_act_226 : decode cL_act 226 = .ok (.goto 19, 3) := by decide +kernel
theorem dL_act_229 : decode cL_act 229 = .ok (.iload 4, 2) := by decide +kernel
theorem dL_act_231 : decode cL_act 231 = .ok (.iload_n 1, 1) := by decide +kernel
theorem dL_act_232 : decode cL_act 232 = .ok (.bipush 14, 2) := by decide +kernel
theorem dL_act_234 : decode cL_act 234 = .ok (.ishr, 1) := by decide +kernel
theorem dL_act_235 : decode cL_act 235 = .ok (.sipush 4096, 3) := by decide +kernel
theorem dL_act_238 : decode cL_act 238 = .ok (.iload 4, 2) := by decide +kernel
theorem dL_act_240 : decode cL_act 240 = .ok (.idiv, 1) := by decide +kernel
theorem dL_act_241 : decode cL_act 241 = .ok (.invokestatic 47, 3) := by decide +kernel
theorem dL_act_244 : decode cL_act 244 = .ok (.imul, 1) := by decide +kernel
theorem dL_act_245 : decode cL_act 245 = .ok (.iload 4, 2) := by decide +kernel
theorem dL_act_247 : decode cL_act 247 = .ok (.iload_n 1, 1) := by decide +kernel
theorem dL_act_248 : decode cL_act 248 = .ok (.iconst 4, 1) := by decide +kernel
theorem dL_act_249 : decode cL_act 249 = .ok (.ishr, 1) := by decide +kernel
theorem dL_act_250 : decode cL_act 250 = .ok (.bipush 8, 2) := by decide +kernel
theorem dL_act_252 : decode cL_act 252 = .ok (.invokestatic 47, 3) := by decide +kernel
theorem dL_act_255 : decode cL_act 255 = .ok (.invokestatic 55, 3) := by decide +kernel
theorem dL_act_258 : decode cL_act 258 = .ok (.ireturn, 1) := by decide +kernel
theorem dL_act_259 : decode cL_act 259 = .ok (.aload_n 0, 1) := by decide +kernel
theorem dL_act_260 : decode cL_act 260 = .ok (.iload_n 3, 1) := by decide +kernel
theorem dL_act_261 : decode cL_act 261 = .ok (.invokestatic 57, 3) := by decide +kernel
theorem dL_act_264 : decode cL_act 264 = .ok (.ireturn, 1) := by decide +kernel
theorem dL_act_265 : decode cL_act 265 = .ok (.aload_n 0, 1) := by decide +kernel
theorem dL_act_266 : decode cL_act 266 = .ok (.iload_n 3, 1) := by decide +kernel
theorem dL_act_267 : decode cL_act 267 = .ok (.invokestatic 60, 3) := by decide +kernel
theorem dL_act_270 : decode cL_act 270 = .ok (.ireturn, 1) := by decide +kernel
theorem dL_act_271 : decode cL_act 271 = .ok (.aload_n 0, 1) := by decide +kernel
theorem dL_act_272 : decode cL_act 272 = .ok (.iload_n 3, 1) := by decide +kernel
theorem dL_act_273 : decode cL_act 273 = .ok (.invokestatic 62, 3) := by decide +kernel
theorem dL_act_276 : decode cL_act 276 = .ok (.ireturn, 1) := by decide +kernel
theorem dL_act_277 : decode cL_act 277 = .ok (.aload_n 0, 1) := by decide +kernel
theorem dL_act_278 : decode cL_act 278 = .ok (.iload_n 3, 1) := by decide +kernel
theorem dL_act_279 : decode cL_act 279 = .ok (.iload_n 2, 1) := by decide +kernel
theorem dL_act_280 : decode cL_act 280 = .ok (.ifCond .eq 17, 3) := by decide +kernel
theorem dL_act_283 : decode cL_act 283 = .ok (.iload_n 1, 1) := by decide +kernel
theorem dL_act_284 : decode cL_act 284 = .ok (.bipush 14, 2) := by decide +kernel
theorem dL_act_286 : decode cL_act 286 = .ok (.ishr, 1) := by decide +kernel
theorem dL_act_287 : decode cL_act 287 = .ok (.bipush 10, 2) := by decide +kernel
theorem dL_act_289 : decode cL_act 289 = .ok (.invokestatic 47, 3) := by decide +kernel
theorem dL_act_292 : decode cL_act 292 = .ok (.iconst 1, 1) := by decide +kernel
theorem dL_act_293 : decode cL_act 293 = .ok (.isub, 1) := by decide +kernel
theorem dL_act_294 : decode cL_act 294 = .ok (.goto 12, 3) := by decide +kernel
theorem dL_act_297 : decode cL_act 297 = .ok (.iload_n 1, 1) := by decide +kernel
theorem dL_act_298 : decode cL_act 298 = .ok (.bipush 14, 2) := by decide +kernel
theorem dL_act_300 : decode cL_act 300 = .ok (.ishr, 1) := by decide +kernel
theorem dL_act_301 : decode cL_act 301 = .ok (.bipush 8, 2) := by decide +kernel
theorem dL_act_303 : decode cL_act 303 = .ok (.invokestatic 47, 3) := by decide +kernel
theorem dL_act_306 : decode cL_act 306 = .ok (.invokestatic 64, 3) := by decide +kernel
theorem dL_act_309 : decode cL_act 309 = .ok (.ireturn, 1) := by decide +kernel
theorem dL_act_310 : decode cL_act 310 = .ok (.aload_n 0, 1) := by decide +kernel
theorem dL_act_311 : decode cL_act 311 = .ok (.iload_n 3, 1) := by decide +kernel
theorem dL_act_312 : decode cL_act 312 = .ok (.iload_n 2, 1) := by decide +kernel
theorem dL_act_313 : decode cL_act 313 = .ok (.ifCond .eq 17, 3) := by decide +kernel
theorem dL_act_316 : decode cL_act 316 = .ok (.iload_n 1, 1) := by decide +kernel
theorem dL_act_317 : decode cL_act 317 = .ok (.bipush 14, 2) := by decide +kernel
theorem dL_act_319 : decode cL_act 319 = .ok (.ishr, 1) := by decide +kernel
theorem dL_act_320 : decode cL_act 320 = .ok (.bipush 105, 2) := by decide +kernel
theorem dL_act_322 : decode cL_act 322 = .ok (.invokestatic 47, 3) := by decide +kernel
theorem dL_act_325 : decode cL_act 325 = .ok (.iconst 2, 1) := by decide +kernel
theorem dL_act_326 : decode cL_act 326 = .ok (.isub, 1) := by decide +kernel
theorem dL_act_327 : decode cL_act 327 = .ok (.goto 12, 3) := by decide +kernel
theorem dL_act_330 : decode cL_act 330 = .ok (.iload_n 1, 1) := by decide +kernel
theorem dL_act_331 : decode cL_act 331 = .ok (.bipush 14, 2) := by decide +kernel
theorem dL_act_333 : decode cL_act 333 = .ok (.ishr, 1) := by decide +kernel
theorem dL_act_334 : decode cL_act 334 = .ok (.bipush 6, 2) := by decide +kernel
theorem dL_act_336 : decode cL_act 336 = .ok (.invokestatic 47, 3) := by decide +kernel
theorem dL_act_339 : decode cL_act 339 = .ok (.invokestatic 67, 3) := by decide +kernel
theorem dL_act_342 : decode cL_act 342 = .ok (.ireturn, 1) := by decide +kernel
theorem dL_act_343 : decode cL_act 343 = .ok (.aload_n 0, 1) := by decide +kernel
theorem dL_act_344 : decode cL_act 344 = .ok (.iload_n 2, 1) := by decide +kernel
theorem dL_act_345 : decode cL_act 345 = .ok (.ifCond .eq 18, 3) := by decide +kernel
theorem dL_act_348 : decode cL_act 348 = .ok (.iload_n 1, 1) := by decide +kernel
theorem dL_act_349 : decode cL_act 349 = .ok (.bipush 10, 2) := by decide +kernel
theorem dL_act_351 : decode cL_act 351 = .ok (.ishr, 1) := by decide +kernel
theorem dL_act_352 : decode cL_act 352 = .ok (.sipush 4100, 3) := by decide +kernel
theorem dL_act_355 : decode cL_act 355 = .ok (.invokestatic 47, 3) := by decide +kernel
theorem dL_act_358 : decode cL_act 358 = .ok (.iconst 2, 1) := by decide +kernel
theorem dL_act_359 : decode cL_act 359 = .ok (.isub, 1) := by decide +kernel
theorem dL_act_360 : decode cL_act 360 = .ok (.goto 15, 3) := by decide +kernel
theorem dL_act_363 : decode cL_act 363 = .ok (.iload_n 1, 1) := by decide +kernel
theorem dL_act_364 : decode cL_act 364 = .ok (.bipush 10, 2) := by decide +kernel
theorem dL_act_366 : decode cL_act 366 = .ok (.ishr, 1) := by decide +kernel
theorem dL_act_367 : decode cL_act 367 = .ok (.bipush 64, 2) := by decide +kernel
theorem dL_act_369 : decode cL_act 369 = .ok (.invokestatic 47, 3) := by decide +kernel
theorem dL_act_372 : decode cL_act 372 = .ok (.bipush 64, 2) := by decide +kernel
theorem dL_act_374 : decode cL_act 374 = .ok (.imul, 1) := by decide +kernel
theorem dL_act_375 : decode cL_act 375 = .ok (.invokestatic 69, 3) := by decide +kernel
theorem dL_act_378 : decode cL_act 378 = .ok (.ireturn, 1) := by decide +kernel
theorem dL_act_379 : decode cL_act 379 = .ok (.aload_n 0, 1) := by decide +kernel
theorem dL_act_380 : decode cL_act 380 = .ok (.iload_n 2, 1) := by decide +kernel
theorem dL_act_381 : decode cL_act 381 = .ok (.ifCond .eq 16, 3) := by decide +kernel
theorem dL_act_384 : decode cL_act 384 = .ok (.iload_n 1, 1) := by decide +kernel
theorem dL_act_385 : decode cL_act 385 = .ok (.bipush 10, 2) := by decide +kernel
theorem dL_act_387 : decode cL_act 387 = .ok (.ishr, 1) := by decide +kernel
theorem dL_act_388 : decode cL_act 388 = .ok (.sipush 1005, 3) := by decide +kernel
theorem dL_act_391 : decode cL_act 391 = .ok (.invokestatic 47, 3) := by decide +kernel
theorem dL_act_394 : decode cL_act 394 = .ok (.goto 13, 3) := by decide +kernel
theorem dL_act_397 : decode cL_act 397 = .ok (.iconst 1, 1) := by decide +kernel
theorem dL_act_398 : decode cL_act 398 = .ok (.iload_n 1, 1) := by decide +kernel
theorem dL_act_399 : decode cL_act 399 = .ok (.bipush 10, 2) := by decide +kernel
theorem dL_act_401 : decode cL_act 401 = .ok (.ishr, 1) := by decide +kernel
theorem dL_act_402 : decode cL_act 402 = .ok (.iconst 3, 1) := by decide +kernel
theorem dL_act_403 : decode cL_act 403 = .ok (.invokestatic 47, 3) := by decide +kernel
theorem dL_act_406 : decode cL_act 406 = .ok (.iadd, 1) := by decide +kernel
theorem dL_act_407 : decode cL_act 407 = .ok (.invokestatic 71, 3) := by decide +kernel
theorem dL_act_410 : decode cL_act 410 = .ok (.ireturn, 1) := by decide +kernel
theorem dL_areAlike_0 : decode cL_areAlike 0 = .ok (.aload_n 0, 1) := by decide +kernel
theorem dL_areAlike_1 : decode cL_areAlike 1 = .ok (.invokevirtual 73, 3) := by decide +kernel
theorem dL_areAlike_4 : decode cL_areAlike 4 = .ok (.aload_n 1, 1) := by decide +kernel
theorem dL_areAlike_5 : decode cL_areAlike 5 = .ok (.invokevirtual 73, 3) := by decide +kernel
theorem dL_areAlike_8 : decode cL_areAlike 8 = .ok (.if_icmp .ne 29, 3) := by decide +kernel
theorem dL_areAlike_11 : decode cL_areAlike 11 = .ok (.aload_n 0, 1) := by decide +kernel
theorem dL_areAlike_12 : decode cL_areAlike 12 = .ok (.invokevirtual 77, 3) := by decide +kernel
theorem dL_areAlike_15 : decode cL_areAlike 15 = .ok (.aload_n 1, 1) := by decide +kernel
theorem dL_areAlike_16 : decode cL_areAlike 16 = .ok (.invokevirtual 77, 3) := by decide +kernel
theorem dL_areAlike_19 : decode cL_areAlike 19 = .ok (.if_icmp .ne 18, 3) := by decide +kernel
theorem dL_areAlike_22 : decode cL_areAlike 22 = .ok (.aload_n 0, 1) := by decide +kernel
theorem dL_areAlike_23 : decode cL_areAlike 23 = .ok (.invokevirtual 80, 3) := by decide +kernel
theorem dL_areAlike_26 : decode cL_areAlike 26 = .ok (.aload_n 1, 1) := by decide +kernel
theorem dL_areAlike_27 : decode cL_areAlike 27 = .ok (.invokevirtual 80, 3) := by decide +kernel
theorem dL_areAlike_30 : decode cL_areAlike 30 = .ok (.if_icmp .ne 7, 3) := by decide +kernel
theorem dL_areAlike_33 : decode cL_areAlike 33 = .ok (.iconst 1, 1) := by decide +kernel
theorem dL_areAlike_34 : decode cL_areAlike 34 = .ok (.goto 4, 3) := by decide +kernel
theorem dL_areAlike_37 : decode cL_areAlike 37 = .ok (.iconst 0, 1) := by decide +kernel
theorem dL_areAlike_38 : decode cL_areAlike 38 = .ok (.istore_n 2, 1) := by decide +kernel
theorem dL_areAlike_39 : decode cL_areAlike 39 = .ok (.iconst 0, 1) := by decide +kernel
theorem dL_areAlike_40 : decode cL_areAlike 40 = .ok (.istore_n 3, 1) := by decide +kernel
theorem dL_areAlike_41 : decode cL_areAlike 41 = .ok (.iload_n 3, 1) := by decide +kernel
theorem dL_areAlike_42 : decode cL_areAlike 42 = .ok (.bipush 60, 2) := by decide +kernel
theorem dL_areAlike_44 : decode cL_areAlike 44 = .ok (.if_icmp .ge 79, 3) := by decide +kernel
theorem dL_areAlike_47 : decode cL_areAlike 47 = .ok (.iload_n 2, 1) := by decide +kernel
theorem dL_areAlike_48 : decode cL_areAlike 48 = .ok (.ifCond .eq 75, 3) := by decide +kernel
theorem dL_areAlike_51 : decode cL_areAlike 51 = .ok (.aload_n 0, 1) := by decide +kernel
theorem dL_areAlike_52 : decode cL_areAlike 52 = .ok (.iload_n 3, 1) := by decide +kernel
theorem dL_areAlike_53 : decode cL_areAlike 53 = .ok (.invokevirtual 83, 3) := by decide +kernel
theorem dL_areAlike_56 : decode cL_areAlike 56 = .ok (.aload_n 1, 1) := by decide +kernel
theorem dL_areAlike_57 : decode cL_areAlike 57 = .ok (.iload_n 3, 1) := by decide +kernel
theorem dL_areAlike_58 : decode cL_areAlike 58 = .ok (.invokevirtual 83, 3) := by decide +kernel
theorem dL_areAlike_61 : decode cL_areAlike 61 = .ok (.if_icmp .ne 54, 3) := by decide +kernel
theorem dL_areAlike_64 : decode cL_areAlike 64 = .ok (.aload_n 0, 1) := by decide +kernel
theorem dL_areAlike_65 : decode cL_areAlike 65 = .ok (.iload_n 3, 1) := by decide +kernel
theorem dL_areAlike_66 : decode cL_areAlike 66 = .ok (.invokevirtual 83, 3) := by decide +kernel
theorem dL_areAlike_69 : decode cL_areAlike 69 = .ok (.ifCond .eq 42, 3) := by decide +kernel
theorem dL_areAlike_72 : decode cL_areAlike 72 = .ok (.aload_n 0, 1) := by decide +kernel
theorem dL_areAlike_73 : decode cL_areAlike 73 = .ok (.iload_n 3, 1) := by decide +kernel
theorem dL_areAlike_74 : decode cL_areAlike 74 = .ok (.invokevirtual 87, 3) := by decide +kernel
theorem dL_areAlike_77 : decode cL_areAlike 77 = .ok (.aload_n 1, 1) := by decide +kernel
theorem dL_areAlike_78 : decode cL_areAlike 78 = .ok (.iload_n 3, 1) := by decide +kernel
theorem dL_areAlike_79 : decode cL_areAlike 79 = .ok (.invokevirtual 87, 3) := by decide +kernel
theorem dL_areAlike_82 : decode cL_areAlike 82 = .ok (.if_icmp .ne 33, 3) := by decide +kernel
theorem dL_areAlike_85 : decode cL_areAlike 85 = .ok (.aload_n 0, 1) := by decide +kernel
theorem dL_areAlike_86 : decode cL_areAlike 86 = .ok (.iload_n 3, 1) := by decide +kernel
theorem dL_areAlike_87 : decode cL_areAlike 87 = .ok (.invokevirtual 90, 3) := by decide +kernel
theorem dL_areAlike_90 : decode cL_areAlike 90 = .ok (.aload_n 1, 1) := by decide +kernel
theorem dL_areAlike_91 : decode cL_areAlike 91 = .ok (.iload_n 3, 1) := by decide +kernel
theorem dL_areAlike_92 : decode cL_areAlike 92 = .ok (.invokevirtual 90, 3) := by decide +kernel
theorem dL_areAlike_95 : decode cL_areAlike 95 = .ok (.if_icmp .ne 20, 3) := by decide +kernel
theorem dL_areAlike_98 : decode cL_areAlike 98 = .ok (.aload_n 0, 1) := by decide +kernel
theorem dL_areAlike_99 : decode cL_areAlike 99 = .ok (.iload_n 3, 1) := by decide +kernel
theorem dL_areAlike_100 : decode cL_areAlike 100 = .ok (.invokevirtual 93, 3) := by decide +kernel
theorem dL_areAlike_103 : decode cL_areAlike 103 = .ok (.aload_n 1, 1) := by decide +kernel
theorem dL_areAlike_104 : decode cL_areAlike 104 = .ok (.iload_n 3, 1) := by decide +kernel
theorem dL_areAlike_105 : decode cL_areAlike 105 = .ok (.invokevirtual 93, 3) := by decide +kernel
theorem dL_areAlike_108 : decode cL_areAlike 108 = .ok (.if_icmp .ne 7, 3) := by decide +kernel
theorem dL_areAlike_111 : decode cL_areAlike 111 = .ok (.iconst 1, 1) := by decide +kernel
theorem dL_areAlike_112 : decode cL_areAlike 112 = .ok (.goto 4, 3) := by decide +kernel
theorem dL_areAlike_115 : decode cL_areAlike 115 = .ok (.iconst 0, 1) := by decide +kernel
theorem dL_areAlike_116 : decode cL_areAlike 116 = .ok (.istore_n 2, 1) := by decide +kernel
theorem dL_areAlike_117 : decode cL_areAlike 117 = .ok (.iinc 3 1, 3) := by decide +kernel
theorem dL_areAlike_120 : decode cL_areAlike 120 = .ok (.goto (-79), 3) := by decide +kernel
theorem dL_areAlike_123 : decode cL_areAlike 123 = .ok (.iload_n 2, 1) := by decide +kernel
theorem dL_areAlike_124 : decode cL_areAlike 124 = .ok (.ireturn, 1) := by decide +kernel
theorem dL_areSpansSo_0 : decode cL_areSpansSo 0 = .ok (.iconst 0, 1) := by decide +kernel
theorem dL_areSpansSo_1 : decode cL_areSpansSo 1 = .ok (.istore_n 1, 1) := by decide +kernel
theorem dL_areSpansSo_2 : decode cL_areSpansSo 2 = .ok (.iconst 0, 1) := by decide +kernel
theorem dL_areSpansSo_3 : decode cL_areSpansSo 3 = .ok (.istore_n 2, 1) := by decide +kernel
theorem dL_areSpansSo_4 : decode cL_areSpansSo 4 = .ok (.iconst 0, 1) := by decide +kernel
theorem dL_areSpansSo_5 : decode cL_areSpansSo 5 = .ok (.istore_n 3, 1) := by decide +kernel
theorem dL_areSpansSo_6 : decode cL_areSpansSo 6 = .ok (.iload_n 3, 1) := by decide +kernel
theorem dL_areSpansSo_7 : decode cL_areSpansSo 7 = .ok (.bipush 60, 2) := by decide +kernel
theorem dL_areSpansSo_9 : decode cL_areSpansSo 9 = .ok (.if_icmp .ge 159, 3) := by decide +kernel
theorem dL_areSpansSo_12 : decode cL_areSpansSo 12 = .ok (.aload_n 0, 1) := by decide +kernel
theorem dL_areSpansSo_13 : decode cL_areSpansSo 13 = .ok (.iload_n 3, 1) := by decide +kernel
theorem dL_areSpansSo_14 : decode cL_areSpansSo 14 = .ok (.invokevirtual 83, 3) := by decide +kernel
theorem dL_areSpansSo_17 : decode cL_areSpansSo 17 = .ok (.ifCond .eq 145, 3) := by decide +kernel
theorem dL_areSpansSo_20 : decode cL_areSpansSo 20 = .ok (.aload_n 0, 1) := by decide +kernel
theorem dL_areSpansSo_21 : decode cL_areSpansSo 21 = .ok (.iload_n 3, 1) := by decide +kernel
theorem dL_areSpansSo_22 : decode cL_areSpansSo 22 = .ok (.invokevirtual 87, 3) := by decide +kernel
theorem dL_areSpansSo_25 : decode cL_areSpansSo 25 = .ok (.istore 4, 2) := by decide +kernel
theorem dL_areSpansSo_27 : decode cL_areSpansSo 27 = .ok (.aload_n 0, 1) := by decide +kernel
theorem dL_areSpansSo_28 : decode cL_areSpansSo 28 = .ok (.iload_n 3, 1) := by decide +kernel
theorem dL_areSpansSo_29 : decode cL_areSpansSo 29 = .ok (.invokevirtual 90, 3) := by decide +kernel
theorem dL_areSpansSo_32 : decode cL_areSpansSo 32 = .ok (.istore 5, 2) := by decide +kernel
theorem dL_areSpansSo_34 : decode cL_areSpansSo 34 = .ok (.aload_n 0, 1) := by decide +kernel
theorem dL_areSpansSo_35 : decode cL_areSpansSo 35 = .ok (.iload_n 3, 1) := by decide +kernel
theorem dL_areSpansSo_36 : decode cL_areSpansSo 36 = .ok (.invokevirtual 96, 3) := by decide +kernel
theorem dL_areSpansSo_39 : decode cL_areSpansSo 39 = .ok (.istore 6, 2) := by decide +kernel
theorem dL_areSpansSo_41 : decode cL_areSpansSo 41 = .ok (.iload 6, 2) := by decide +kernel
theorem dL_areSpansSo_43 : decode cL_areSpansSo 43 = .ok (.ifCond .lt 59, 3) := by decide +kernel
theorem dL_areSpansSo_46 : decode cL_areSpansSo 46 = .ok (.aload_n 0, 1) := by decide +kernel
theorem dL_areSpansSo_47 : decode cL_areSpansSo 47 = .ok (.iload 6, 2) := by decide +kernel
theorem dL_areSpansSo_49 : decode cL_areSpansSo 49 = .ok (.invokevirtual 83, 3) := by decide +kernel
theorem dL_areSpansSo_52 : decode cL_areSpansSo 52 = .ok (.ifCond .eq 50, 3) := by decide +kernel
theorem dL_areSpansSo_55 : decode cL_areSpansSo 55 = .ok (.iload 5, 2) := by decide +kernel
theorem dL_areSpansSo_57 : decode cL_areSpansSo 57 = .ok (.aload_n 0, 1) := by decide +kernel
theorem dL_areSpansSo_58 : decode cL_areSpansSo 58 = .ok (.iload 6, 2) := by decide +kernel
theorem dL_areSpansSo_60 : decode cL_areSpansSo 60 = .ok (.invokevirtual 90, 3) := by decide +kernel
theorem dL_areSpansSo_63 : decode cL_areSpansSo 63 = .ok (.if_icmp .gt 39, 3) := by decide +kernel
theorem dL_areSpansSo_66 : decode cL_areSpansSo 66 = .ok (.iload 4, 2) := by decide +kernel
theorem dL_areSpansSo_68 : decode cL_areSpansSo 68 = .ok (.aload_n 0, 1) := by decide +kernel
theorem dL_areSpansSo_69 : decode cL_areSpansSo 69 = .ok (.iload 6, 2) := by decide +kernel
theorem dL_areSpansSo_71 : decode cL_areSpansSo 71 = .ok (.invokevirtual 87, 3) := by decide +kernel
theorem dL_areSpansSo_74 : decode cL_areSpansSo 74 = .ok (.if_icmp .lt 28, 3) := by decide +kernel
theorem dL_areSpansSo_77 : decode cL_areSpansSo 77 = .ok (.iload 4, 2) := by decide +kernel
theorem dL_areSpansSo_79 : decode cL_areSpansSo 79 = .ok (.iload 5, 2) := by decide +kernel
theorem dL_areSpansSo_81 : decode cL_areSpansSo 81 = .ok (.iadd, 1) := by decide +kernel
theorem dL_areSpansSo_82 : decode cL_areSpansSo 82 = .ok (.aload_n 0, 1) := by decide +kernel
theorem dL_areSpansSo_83 : decode cL_areSpansSo 83 = .ok (.iload 6, 2) := by decide +kernel
theorem dL_areSpansSo_85 : decode cL_areSpansSo 85 = .ok (.invokevirtual 87, 3) := by decide +kernel
theorem dL_areSpansSo_88 : decode cL_areSpansSo 88 = .ok (.aload_n 0, 1) := by decide +kernel
theorem dL_areSpansSo_89 : decode cL_areSpansSo 89 = .ok (.iload 6, 2) := by decide +kernel
theorem dL_areSpansSo_91 : decode cL_areSpansSo 91 = .ok (.invokevirtual 90, 3) := by decide +kernel
theorem dL_areSpansSo_94 : decode cL_areSpansSo 94 = .ok (.iadd, 1) := by decide +kernel
theorem dL_areSpansSo_95 : decode cL_areSpansSo 95 = .ok (.if_icmp .gt 7, 3) := by decide +kernel
theorem dL_areSpansSo_98 : decode cL_areSpansSo 98 = .ok (.iconst 1, 1) := by decide +kernel
theorem dL_areSpansSo_99 : decode cL_areSpansSo 99 = .ok (.goto 4, 3) := by decide +kernel
theorem dL_areSpansSo_102 : decode cL_areSpansSo 102 = .ok (.iconst 0, 1) := by decide +kernel
theorem dL_areSpansSo_103 : decode cL_areSpansSo 103 = .ok (.istore 7, 2) := by decide +kernel
theorem dL_areSpansSo_105 : decode cL_areSpansSo 105 = .ok (.iinc 1 1, 3) := by decide +kernel
theorem dL_areSpansSo_108 : decode cL_areSpansSo 108 = .ok (.iload_n 2, 1) := by decide +kernel
theorem dL_areSpansSo_109 : decode cL_areSpansSo 109 = .ok (.aload_n 0, 1) := by decide +kernel
theorem dL_areSpansSo_110 : decode cL_areSpansSo 110 = .ok (.iload_n 3, 1) := by decide +kernel
theorem dL_areSpansSo_111 : decode cL_areSpansSo 111 = .ok (.invokevirtual 93, 3) := by decide +kernel
theorem dL_areSpansSo_114 : decode cL_areSpansSo 114 = .ok (.iadd, 1) := by decide +kernel
theorem dL_areSpansSo_115 : decode cL_areSpansSo 115 = .ok (.istore_n 2, 1) := by decide +kernel
theorem dL_areSpansSo_116 : decode cL_areSpansSo 116 = .ok (.iload 4, 2) := by decide +kernel
theorem dL_areSpansSo_118 : decode cL_areSpansSo 118 = .ok (.iload 5, 2) := by decide +kernel
theorem dL_areSpansSo_120 : decode cL_areSpansSo 120 = .ok (.irem, 1) := by decide +kernel
theorem dL_areSpansSo_121 : decode cL_areSpansSo 121 = .ok (.ifCond .ne 39, 3) := by decide +kernel
theorem dL_areSpansSo_124 : decode cL_areSpansSo 124 = .ok (.iload 5, 2) := by decide +kernel
theorem dL_areSpansSo_126 : decode cL_areSpansSo 126 = .ok (.iload 5, 2) := by decide +kernel
theorem dL_areSpansSo_128 : decode cL_areSpansSo 128 = .ok (.iconst 1, 1) := by decide +kernel
theorem dL_areSpansSo_129 : decode cL_areSpansSo 129 = .ok (.isub, 1) := by decide +kernel
theorem dL_areSpansSo_130 : decode cL_areSpansSo 130 = .ok (.iand, 1) := by decide +kernel
theorem dL_areSpansSo_131 : decode cL_areSpansSo 131 = .ok (.ifCond .ne 29, 3) := by decide +kernel
theorem dL_areSpansSo_134 : decode cL_areSpansSo 134 = .ok (.iload_n 3, 1) := by decide +kernel
theorem dL_areSpansSo_135 : decode cL_areSpansSo 135 = .ok (.ifCond .ne 20, 3) := by decide +kernel
theorem dL_areSpansSo_138 : decode cL_areSpansSo 138 = .ok (.iload 6, 2) := by decide +kernel
theorem dL_areSpansSo_140 : decode cL_areSpansSo 140 = .ok (.iconst (-1), 1) := by decide +kernel
theorem dL_areSpansSo_141 : decode cL_areSpansSo 141 = .ok (.if_icmp .ne 19, 3) := by decide +kernel
theorem dL_areSpansSo_144 : decode cL_areSpansSo 144 = .ok (.iload 5, 2) := by decide +kernel
theorem dL_areSpansSo_146 : decode cL_areSpansSo 146 = .ok (.sipush 4096, 3) := by decide +kernel
theorem dL_areSpansSo_149 : decode cL_areSpansSo 149 = .ok (.if_icmp .eq 13, 3) := by decide +kernel
theorem dL_areSpansSo_152 : decode cL_areSpansSo 152 = .ok (.goto 8, 3) := by decide +kernel
theorem dL_areSpansSo_155 : decode cL_areSpansSo 155 = .ok (.iload 7, 2) := by decide +kernel
theorem dL_areSpansSo_157 : decode cL_areSpansSo 157 = .ok (.ifCond .ne 5, 3) := by decide +kernel
theorem dL_areSpansSo_160 : decode cL_areSpansSo 160 = .ok (.iconst 0, 1) := by decide +kernel
theorem dL_areSpansSo_161 : decode cL_areSpansSo 161 = .ok (.ireturn, 1) := by decide +kernel
theorem dL_areSpansSo_162 : decode cL_areSpansSo 162 = .ok (.iinc 3 1, 3) := by decide +kernel
theorem dL_areSpansSo_165 : decode cL_areSpansSo 165 = .ok (.goto (-159), 3) := by decide +kernel
theorem dL_areSpansSo_168 : decode cL_areSpansSo 168 = .ok (.aload_n 0, 1) := by decide +kernel
theorem dL_areSpansSo_169 : decode cL_areSpansSo 169 = .ok (.invokevirtual 77, 3) := by decide +kernel
theorem dL_areSpansSo_172 : decode cL_areSpansSo 172 = .ok (.iload_n 1, 1) := by decide +kernel
theorem dL_areSpansSo_173 : decode cL_areSpansSo 173 = .ok (.if_icmp .ne 44, 3) := by decide +kernel
theorem dL_areSpansSo_176 : decode cL_areSpansSo 176 = .ok (.iload_n 2, 1) := by decide +kernel
theorem dL_areSpansSo_177 : decode cL_areSpansSo 177 = .ok (.aload_n 0, 1) := by decide +kernel
theorem dL_areSpansSo_178 : decode cL_areSpansSo 178 = .ok (.invokevirtual 80, 3) := by decide +kernel
theorem dL_areSpansSo_181 : decode cL_areSpansSo 181 = .ok (.iadd, 1) := by decide +kernel
theorem dL_areSpansSo_182 : decode cL_areSpansSo 182 = .ok (.sipush 4096, 3) := by decide +kernel
theorem dL_areSpansSo_185 : decode cL_areSpansSo 185 = .ok (.if_icmp .ne 32, 3) := by decide +kernel
theorem dL_areSpansSo_188 : decode cL_areSpansSo 188 = .ok (.aload_n 0, 1) := by decide +kernel
theorem dL_areSpansSo_189 : decode cL_areSpansSo 189 = .ok (.iconst 0, 1) := by decide +kernel
theorem dL_areSpansSo_190 : decode cL_areSpansSo 190 = .ok (.invokevirtual 83, 3) := by decide +kernel
theorem dL_areSpansSo_193 : decode cL_areSpansSo 193 = .ok (.ifCond .eq 24, 3) := by decide +kernel
theorem dL_areSpansSo_196 : decode cL_areSpansSo 196 = .ok (.aload_n 0, 1) := by decide +kernel
theorem dL_areSpansSo_197 : decode cL_areSpansSo 197 = .ok (.iconst (-1), 1) := by decide +kernel
theorem dL_areSpansSo_198 : decode cL_areSpansSo 198 = .ok (.invokevirtual 83, 3) := by decide +kernel
theorem dL_areSpansSo_201 : decode cL_areSpansSo 201 = .ok (.ifCond .ne 16, 3) := by decide +kernel
theorem dL_areSpansSo_204 : decode cL_areSpansSo 204 = .ok (.aload_n 0, 1) := by decide +kernel
theorem dL_areSpansSo_205 : decode cL_areSpansSo 205 = .ok (.bipush 60, 2) := by decide +kernel
theorem dL_areSpansSo_207 : decode cL_areSpansSo 207 = .ok (.invokevirtual 83, 3) := by decide +kernel
theorem dL_areSpansSo_210 : decode cL_areSpansSo 210 = .ok (.ifCond .ne 7, 3) := by decide +kernel
theorem dL_areSpansSo_213 : decode cL_areSpansSo 213 = .ok (.iconst 1, 1) := by decide +kernel
theorem dL_areSpansSo_214 : decode cL_areSpansSo 214 = .ok (.goto 4, 3) := by decide +kernel
theorem dL_areSpansSo_217 : decode cL_areSpansSo 217 = .ok (.iconst 0, 1) := by decide +kernel
theorem dL_areSpansSo_218 : decode cL_areSpansSo 218 = .ok (.ireturn, 1) := by decide +kernel
theorem dL_areBlocksSo_0 : decode cL_areBlocksSo 0 = .ok (.aload_n 0, 1) := by decide +kernel
theorem dL_areBlocksSo_1 : decode cL_areBlocksSo 1 = .ok (.iload_n 1, 1) := by decide +kernel
theorem dL_areBlocksSo_2 : decode cL_areBlocksSo 2 = .ok (.invokevirtual 99, 3) := by decide +kernel
theorem dL_areBlocksSo_5 : decode cL_areBlocksSo 5 = .ok (.istore_n 2, 1) := by decide +kernel
theorem dL_areBlocksSo_6 : decode cL_areBlocksSo 6 = .ok (.iconst 0, 1) := by decide +kernel
theorem dL_areBlocksSo_7 : decode cL_areBlocksSo 7 = .ok (.istore_n 3, 1) := by decide +kernel
theorem dL_areBlocksSo_8 : decode cL_areBlocksSo 8 = .ok (.iconst 1, 1) := by decide +kernel
theorem dL_areBlocksSo_9 : decode cL_areBlocksSo 9 = .ok (.istore 4, 2) := by decide +kernel
theorem dL_areBlocksSo_11 : decode cL_areBlocksSo 11 = .ok (.iload 4, 2) := by decide +kernel
theorem dL_areBlocksSo_13 : decode cL_areBlocksSo 13 = .ok (.aload_n 0, 1) := by decide +kernel
theorem dL_areBlocksSo_14 : decode cL_areBlocksSo 14 = .ok (.iload_n 1, 1) := by decide +kernel
theorem dL_areBlocksSo_15 : decode cL_areBlocksSo 15 = .ok (.invokevirtual 90, 3) := by decide +kernel
theorem dL_areBlocksSo_18 : decode cL_areBlocksSo 18 = .ok (.if_icmp .ge 56, 3) := by decide +kernel
theorem dL_areBlocksSo_21 : decode cL_areBlocksSo 21 = .ok (.aload_n 0, 1) := by decide +kernel
theorem dL_areBlocksSo_22 : decode cL_areBlocksSo 22 = .ok (.iload_n 1, 1) := by decide +kernel
theorem dL_areBlocksSo_23 : decode cL_areBlocksSo 23 = .ok (.iload 4, 2) := by decide +kernel
theorem dL_areBlocksSo_25 : decode cL_areBlocksSo 25 = .ok (.invokevirtual 102, 3) := by decide +kernel
theorem dL_areBlocksSo_28 : decode cL_areBlocksSo 28 = .ok (.istore 5, 2) := by decide +kernel
theorem dL_areBlocksSo_30 : decode cL_areBlocksSo 30 = .ok (.iload 5, 2) := by decide +kernel
theorem dL_areBlocksSo_32 : decode cL_areBlocksSo 32 = .ok (.ifCond .ne 7, 3) := by decide +kernel
theorem dL_areBlocksSo_35 : decode cL_areBlocksSo 35 = .ok (.iconst 1, 1) := by decide +kernel
theorem dL_areBlocksSo_36 : decode cL_areBlocksSo 36 = .ok (.goto 4, 3) := by decide +kernel
theorem dL_areBlocksSo_39 : decode cL_areBlocksSo 39 = .ok (.iconst 0, 1) := by decide +kernel
theorem dL_areBlocksSo_40 : decode cL_areBlocksSo 40 = .ok (.iload 4, 2) := by decide +kernel
theorem dL_areBlocksSo_42 : decode cL_areBlocksSo 42 = .ok (.iload_n 2, 1) := by decide +kernel
theorem dL_areBlocksSo_43 : decode cL_areBlocksSo 43 = .ok (.if_icmp .gt 7, 3) := by decide +kernel
theorem dL_areBlocksSo_46 : decode cL_areBlocksSo 46 = .ok (.iconst 1, 1) := by decide +kernel
theorem dL_areBlocksSo_47 : decode cL_areBlocksSo 47 = .ok (.goto 4, 3) := by decide +kernel
theorem dL_areBlocksSo_50 : decode cL_areBlocksSo 50 = .ok (.iconst 0, 1) := by decide +kernel
theorem dL_areBlocksSo_51 : decode cL_areBlocksSo 51 = .ok (.if_icmp .ne 9, 3) := by decide +kernel
theorem dL_areBlocksSo_54 : decode cL_areBlocksSo 54 = .ok (.iload 5, 2) := by decide +kernel
theorem dL_areBlocksSo_56 : decode cL_areBlocksSo 56 = .ok (.iload_n 3, 1) := by decide +kernel
theorem dL_areBlocksSo_57 : decode cL_areBlocksSo 57 = .ok (.if_icmp .ge 5, 3) := by decide +kernel
theorem dL_areBlocksSo_60 : decode cL_areBlocksSo 60 = .ok (.iconst 0, 1) := by decide +kernel
theorem dL_areBlocksSo_61 : decode cL_areBlocksSo 61 = .ok (.ireturn, 1) := by decide +kernel
theorem dL_areBlocksSo_62 : decode cL_areBlocksSo 62 = .ok (.iload 5, 2) := by decide +kernel
theorem dL_areBlocksSo_64 : decode cL_areBlocksSo 64 = .ok (.istore_n 3, 1) := by decide +kernel
theorem dL_areBlocksSo_65 : decode cL_areBlocksSo 65 = .ok (.iload 4, 2) := by decide +kernel
theorem dL_areBlocksSo_67 : decode cL_areBlocksSo 67 = .ok (.iconst 2, 1) := by decide +kernel
theorem dL_areBlocksSo_68 : decode cL_areBlocksSo 68 = .ok (.imul, 1) := by decide +kernel
theorem dL_areBlocksSo_69 : decode cL_areBlocksSo 69 = .ok (.istore 4, 2) := by decide +kernel
theorem dL_areBlocksSo_71 : decode cL_areBlocksSo 71 = .ok (.goto (-60), 3) := by decide +kernel
theorem dL_areBlocksSo_74 : decode cL_areBlocksSo 74 = .ok (.iload_n 2, 1) := by decide +kernel
theorem dL_areBlocksSo_75 : decode cL_areBlocksSo 75 = .ok (.ifCond .lt 41, 3) := by decide +kernel
theorem dL_areBlocksSo_78 : decode cL_areBlocksSo 78 = .ok (.iload_n 2, 1) := by decide +kernel
theorem dL_areBlocksSo_79 : decode cL_areBlocksSo 79 = .ok (.aload_n 0, 1) := by decide +kernel
theorem dL_areBlocksSo_80 : decode cL_areBlocksSo 80 = .ok (.iload_n 1, 1) := by decide +kernel
theorem dL_areBlocksSo_81 : decode cL_areBlocksSo 81 = .ok (.invokevirtual 90, 3) := by decide +kernel
theorem dL_areBlocksSo_84 : decode cL_areBlocksSo 84 = .ok (.if_icmp .ge 32, 3) := by decide +kernel
theorem dL_areBlocksSo_87 : decode cL_areBlocksSo 87 = .ok (.aload_n 0, 1) := by decide +kernel
theorem dL_areBlocksSo_88 : decode cL_areBlocksSo 88 = .ok (.iload_n 1, 1) := by decide +kernel
theorem dL_areBlocksSo_89 : decode cL_areBlocksSo 89 = .ok (.invokevirtual 90, 3) := by decide +kernel
theorem dL_areBlocksSo_92 : decode cL_areBlocksSo 92 = .ok (.sipush 2048, 3) := by decide +kernel
theorem dL_areBlocksSo_95 : decode cL_areBlocksSo 95 = .ok (.if_icmp .gt 17, 3) := by decide +kernel
theorem dL_areBlocksSo_98 : decode cL_areBlocksSo 98 = .ok (.aload_n 0, 1) := by decide +kernel
theorem dL_areBlocksSo_99 : decode cL_areBlocksSo 99 = .ok (.iload_n 1, 1) := by decide +kernel
theorem dL_areBlocksSo_100 : decode cL_areBlocksSo 100 = .ok (.aload_n 0, 1) := by decide +kernel
theorem dL_areBlocksSo_101 : decode cL_areBlocksSo 101 = .ok (.iload_n 1, 1) := by decide +kernel
theorem dL_areBlocksSo_102 : decode cL_areBlocksSo 102 = .ok (.invokevirtual 90, 3) := by decide +kernel
theorem dL_areBlocksSo_105 : decode cL_areBlocksSo 105 = .ok (.invokevirtual 102, 3) := by decide +kernel
theorem dL_areBlocksSo_108 : decode cL_areBlocksSo 108 = .ok (.iconst (-1), 1) := by decide +kernel
theorem dL_areBlocksSo_109 : decode cL_areBlocksSo 109 = .ok (.if_icmp .ne 7, 3) := by decide +kernel
theorem dL_areBlocksSo_112 : decode cL_areBlocksSo 112 = .ok (.iconst 1, 1) := by decide +kernel
theorem dL_areBlocksSo_113 : decode cL_areBlocksSo 113 = .ok (.goto 4, 3) := by decide +kernel
theorem dL_areBlocksSo_116 : decode cL_areBlocksSo 116 = .ok (.iconst 0, 1) := by decide +kernel
theorem dL_areBlocksSo_117 : decode cL_areBlocksSo 117 = .ok (.ireturn, 1) := by decide +kernel
theorem dL_areOwnersSo_0 : decode cL_areOwnersSo 0 = .ok (.iconst 0, 1) := by decide +kernel
theorem dL_areOwnersSo_1 : decode cL_areOwnersSo 1 = .ok (.istore_n 2, 1) := by decide +kernel
theorem dL_areOwnersSo_2 : decode cL_areOwnersSo 2 = .ok (.iconst 0, 1) := by decide +kernel
theorem dL_areOwnersSo_3 : decode cL_areOwnersSo 3 = .ok (.istore_n 3, 1) := by decide +kernel
theorem dL_areOwnersSo_4 : decode cL_areOwnersSo 4 = .ok (.iload_n 3, 1) := by decide +kernel
theorem dL_areOwnersSo_5 : decode cL_areOwnersSo 5 = .ok (.bipush 8, 2) := by decide +kernel
theorem dL_areOwnersSo_7 : decode cL_areOwnersSo 7 = .ok (.if_icmp .ge 60, 3) := by decide +kernel
theorem dL_areOwnersSo_10 : decode cL_areOwnersSo 10 = .ok (.aload_n 0, 1) := by decide +kernel
theorem dL_areOwnersSo_11 : decode cL_areOwnersSo 11 = .ok (.iload_n 3, 1) := by decide +kernel
theorem dL_areOwnersSo_12 : decode cL_areOwnersSo 12 = .ok (.invokevirtual 105, 3) := by decide +kernel
theorem dL_areOwnersSo_15 : decode cL_areOwnersSo 15 = .ok (.istore 4, 2) := by decide +kernel
theorem dL_areOwnersSo_17 : decode cL_areOwnersSo 17 = .ok (.aload_n 0, 1) := by decide +kernel
theorem dL_areOwnersSo_18 : decode cL_areOwnersSo 18 = .ok (.iload_n 3, 1) := by decide +kernel
theorem dL_areOwnersSo_19 : decode cL_areOwnersSo 19 = .ok (.invokevirtual 108, 3) := by decide +kernel
theorem dL_areOwnersSo_22 : decode cL_areOwnersSo 22 = .ok (.istore 5, 2) := by decide +kernel
theorem dL_areOwnersSo_24 : decode cL_areOwnersSo 24 = .ok (.iload_n 2, 1) := by decide +kernel
theorem dL_areOwnersSo_25 : decode cL_areOwnersSo 25 = .ok (.iload 4, 2) := by decide +kernel
theorem dL_areOwnersSo_27 : decode cL_areOwnersSo 27 = .ok (.iadd, 1) := by decide +kernel
theorem dL_areOwnersSo_28 : decode cL_areOwnersSo 28 = .ok (.istore_n 2, 1) := by decide +kernel
theorem dL_areOwnersSo_29 : decode cL_areOwnersSo 29 = .ok (.iload 4, 2) := by decide +kernel
theorem dL_areOwnersSo_31 : decode cL_areOwnersSo 31 = .ok (.ifCond .ne 7, 3) := by decide +kernel
theorem dL_areOwnersSo_34 : decode cL_areOwnersSo 34 = .ok (.iconst 1, 1) := by decide +kernel
theorem dL_areOwnersSo_35 : decode cL_areOwnersSo 35 = .ok (.goto 4, 3) := by decide +kernel
theorem dL_areOwnersSo_38 : decode cL_areOwnersSo 38 = .ok (.iconst 0, 1) := by decide +kernel
theorem dL_areOwnersSo_39 : decode cL_areOwnersSo 39 = .ok (.iload 5, 2) := by decide +kernel
theorem dL_areOwnersSo_41 : decode cL_areOwnersSo 41 = .ok (.ifCond .ne 7, 3) := by decide +kernel
theorem dL_areOwnersSo_44 : decode cL_areOwnersSo 44 = .ok (.iconst 1, 1) := by decide +kernel
theorem dL_areOwnersSo_45 : decode cL_areOwnersSo 45 = .ok (.goto 4, 3) := by decide +kernel
theorem dL_areOwnersSo_48 : decode cL_areOwnersSo 48 = .ok (.iconst 0, 1) := by decide +kernel
theorem dL_areOwnersSo_49 : decode cL_areOwnersSo 49 = .ok (.if_icmp .ne 10, 3) := by decide +kernel
theorem dL_areOwnersSo_52 : decode cL_areOwnersSo 52 = .ok (.iload 5, 2) := by decide +kernel
theorem dL_areOwnersSo_54 : decode cL_areOwnersSo 54 = .ok (.iload 4, 2) := by decide +kernel
theorem dL_areOwnersSo_56 : decode cL_areOwnersSo 56 = .ok (.if_icmp .le 5, 3) := by decide +kernel
theorem dL_areOwnersSo_59 : decode cL_areOwnersSo 59 = .ok (.iconst 0, 1) := by decide +kernel
theorem dL_areOwnersSo_60 : decode cL_areOwnersSo 60 = .ok (.ireturn, 1) := by decide +kernel
theorem dL_areOwnersSo_61 : decode cL_areOwnersSo 61 = .ok (.iinc 3 1, 3) := by decide +kernel
theorem dL_areOwnersSo_64 : decode cL_areOwnersSo 64 = .ok (.goto (-60), 3) := by decide +kernel
theorem dL_areOwnersSo_67 : decode cL_areOwnersSo 67 = .ok (.iconst 0, 1) := by decide +kernel
theorem dL_areOwnersSo_68 : decode cL_areOwnersSo 68 = .ok (.istore_n 3, 1) := by decide +kernel
theorem dL_areOwnersSo_69 : decode cL_areOwnersSo 69 = .ok (.iload_n 3, 1) := by decide +kernel
theorem dL_areOwnersSo_70 : decode cL_areOwnersSo 70 = .ok (.bipush 6, 2) := by decide +kernel
theorem dL_areOwnersSo_72 : decode cL_areOwnersSo 72 = .ok (.if_icmp .ge 74, 3) := by decide +kernel
theorem dL_areOwnersSo_75 : decode cL_areOwnersSo 75 = .ok (.iload_n 1, 1) := by decide +kernel
theorem dL_areOwnersSo_76 : decode cL_areOwnersSo 76 = .ok (.iconst 2, 1) := by decide +kernel
theorem dL_areOwnersSo_77 : decode cL_areOwnersSo 77 = .ok (.iload_n 3, 1) := by decide +kernel
theorem dL_areOwnersSo_78 : decode cL_areOwnersSo 78 = .ok (.imul, 1) := by decide +kernel
theorem dL_areOwnersSo_79 : decode cL_areOwnersSo 79 = .ok (.iconst 1, 1) := by decide +kernel
theorem dL_areOwnersSo_80 : decode cL_areOwnersSo 80 = .ok (.iadd, 1) := by decide +kernel
theorem dL_areOwnersSo_81 : decode cL_areOwnersSo 81 = .ok (.imul, 1) := by decide +kernel
theorem dL_areOwnersSo_82 : decode cL_areOwnersSo 82 = .ok (.sipush 4096, 3) := by decide +kernel
theorem dL_areOwnersSo_85 : decode cL_areOwnersSo 85 = .ok (.invokestatic 47, 3) := by decide +kernel
theorem dL_areOwnersSo_88 : decode cL_areOwnersSo 88 = .ok (.istore 4, 2) := by decide +kernel
theorem dL_areOwnersSo_90 : decode cL_areOwnersSo 90 = .ok (.aload_n 0, 1) := by decide +kernel
theorem dL_areOwnersSo_91 : decode cL_areOwnersSo 91 = .ok (.iload 4, 2) := by decide +kernel
theorem dL_areOwnersSo_93 : decode cL_areOwnersSo 93 = .ok (.invokevirtual 111, 3) := by decide +kernel
theorem dL_areOwnersSo_96 : decode cL_areOwnersSo 96 = .ok (.istore 5, 2) := by decide +kernel
theorem dL_areOwnersSo_98 : decode cL_areOwnersSo 98 = .ok (.aload_n 0, 1) := by decide +kernel
theorem dL_areOwnersSo_99 : decode cL_areOwnersSo 99 = .ok (.iload 4, 2) := by decide +kernel
theorem dL_areOwnersSo_101 : decode cL_areOwnersSo 101 = .ok (.invokevirtual 114, 3) := by decide +kernel
theorem dL_areOwnersSo_104 : decode cL_areOwnersSo 104 = .ok (.iload 5, 2) := by decide +kernel
theorem dL_areOwnersSo_106 : decode cL_areOwnersSo 106 = .ok (.if_icmp .ne 32, 3) := by decide +kernel
theorem dL_areOwnersSo_109 : decode cL_areOwnersSo 109 = .ok (.iload 4, 2) := by decide +kernel
theorem dL_areOwnersSo_111 : decode cL_areOwnersSo 111 = .ok (.aload_n 0, 1) := by decide +kernel
theorem dL_areOwnersSo_112 : decode cL_areOwnersSo 112 = .ok (.iload 5, 2) := by decide +kernel
theorem dL_areOwnersSo_114 : decode cL_areOwnersSo 114 = .ok (.invokevirtual 87, 3) := by decide +kernel
theorem dL_areOwnersSo_117 : decode cL_areOwnersSo 117 = .ok (.if_icmp .lt 21, 3) := by decide +kernel
theorem dL_areOwnersSo_120 : decode cL_areOwnersSo 120 = .ok (.iload 4, 2) := by decide +kernel
theorem dL_areOwnersSo_122 : decode cL_areOwnersSo 122 = .ok (.aload_n 0, 1) := by decide +kernel
theorem dL_areOwnersSo_123 : decode cL_areOwnersSo 123 = .ok (.iload 5, 2) := by decide +kernel
theorem dL_areOwnersSo_125 : decode cL_areOwnersSo 125 = .ok (.invokevirtual 87, 3) := by decide +kernel
theorem dL_areOwnersSo_128 : decode cL_areOwnersSo 128 = .ok (.aload_n 0, 1) := by decide +kernel
theorem dL_areOwnersSo_129 : decode cL_areOwnersSo 129 = .ok (.iload 5, 2) := by decide +kernel
theorem dL_areOwnersSo_131 : decode cL_areOwnersSo 131 = .ok (.invokevirtual 90, 3) := by decide +kernel
theorem dL_areOwnersSo_134 : decode cL_areOwnersSo 134 = .ok (.iadd, 1) := by decide +kernel
theorem dL_areOwnersSo_135 : decode cL_areOwnersSo 135 = .ok (.if_icmp .lt 5, 3) := by decide +kernel
theorem dL_areOwnersSo_138 : decode cL_areOwnersSo 138 = .ok (.iconst 0, 1) := by decide +kernel
theorem dL_areOwnersSo_139 : decode cL_areOwnersSo 139 = .ok (.ireturn, 1) := by decide +kernel
theorem dL_areOwnersSo_140 : decode cL_areOwnersSo 140 = .ok (.iinc 3 1, 3) := by decide +kernel
theorem dL_areOwnersSo_143 : decode cL_areOwnersSo 143 = .ok (.goto (-74), 3) := by decide +kernel
theorem dL_areOwnersSo_146 : decode cL_areOwnersSo 146 = .ok (.iload_n 2, 1) := by decide +kernel
theorem dL_areOwnersSo_147 : decode cL_areOwnersSo 147 = .ok (.sipush 4096, 3) := by decide +kernel
theorem dL_areOwnersSo_150 : decode cL_areOwnersSo 150 = .ok (.if_icmp .ne 7, 3) := by decide +kernel
theorem dL_areOwnersSo_153 : decode cL_areOwnersSo 153 = .ok (.iconst 1, 1) := by decide +kernel
theorem dL_areOwnersSo_154 : decode cL_areOwnersSo 154 = .ok (.goto 4, 3) := by decide +kernel
theorem dL_areOwnersSo_157 : decode cL_areOwnersSo 157 = .ok (.iconst 0, 1) := by decide +kernel
theorem dL_areOwnersSo_158 : decode cL_areOwnersSo 158 = .ok (.ireturn, 1) := by decide +kernel
theorem dL_law_0 : decode cL_law 0 = .ok (.new 9, 3) := by decide +kernel
theorem dL_law_3 : decode cL_law 3 = .ok (.dup, 1) := by decide +kernel
theorem dL_law_4 : decode cL_law 4 = .ok (.invokespecial 117, 3) := by decide +kernel
theorem dL_law_7 : decode cL_law 7 = .ok (.astore_n 1, 1) := by decide +kernel
theorem dL_law_8 : decode cL_law 8 = .ok (.new 9, 3) := by decide +kernel
theorem dL_law_11 : decode cL_law 11 = .ok (.dup, 1) := by decide +kernel
theorem dL_law_12 : decode cL_law 12 = .ok (.invokespecial 117, 3) := by decide +kernel
theorem dL_law_15 : decode cL_law 15 = .ok (.astore_n 2, 1) := by decide +kernel
theorem dL_law_16 : decode cL_law 16 = .ok (.iconst 0, 1) := by decide +kernel
theorem dL_law_17 : decode cL_law 17 = .ok (.istore_n 3, 1) := by decide +kernel
theorem dL_law_18 : decode cL_law 18 = .ok (.iload_n 3, 1) := by decide +kernel
theorem dL_law_19 : decode cL_law 19 = .ok (.bipush 70, 2) := by decide +kernel
theorem dL_law_21 : decode cL_law 21 = .ok (.if_icmp .ge 117, 3) := by decide +kernel
theorem dL_law_24 : decode cL_law 24 = .ok (.aload_n 0, 1) := by decide +kernel
theorem dL_law_25 : decode cL_law 25 = .ok (.iload_n 3, 1) := by decide +kernel
theorem dL_law_26 : decode cL_law 26 = .ok (.invokestatic 118, 3) := by decide +kernel
theorem dL_law_29 : decode cL_law 29 = .ok (.istore 4, 2) := by decide +kernel
theorem dL_law_31 : decode cL_law 31 = .ok (.aload_n 1, 1) := by decide +kernel
theorem dL_law_32 : decode cL_law 32 = .ok (.iload 4, 2) := by decide +kernel
theorem dL_law_34 : decode cL_law 34 = .ok (.invokestatic 122, 3) := by decide +kernel
theorem dL_law_37 : decode cL_law 37 = .ok (.istore 5, 2) := by decide +kernel
theorem dL_law_39 : decode cL_law 39 = .ok (.iload 5, 2) := by decide +kernel
theorem dL_law_41 : decode cL_law 41 = .ok (.ldc 16, 2) := by decide +kernel
theorem dL_law_43 : decode cL_law 43 = .ok (.if_icmp .eq 14, 3) := by decide +kernel
theorem dL_law_46 : decode cL_law 46 = .ok (.aload_n 2, 1) := by decide +kernel
theorem dL_law_47 : decode cL_law 47 = .ok (.iload 4, 2) := by decide +kernel
theorem dL_law_49 : decode cL_law 49 = .ok (.invokestatic 122, 3) := by decide +kernel
theorem dL_law_52 : decode cL_law 52 = .ok (.iload 5, 2) := by decide +kernel
theorem dL_law_54 : decode cL_law 54 = .ok (.if_icmp .ne 18, 3) := by decide +kernel
theorem dL_law_57 : decode cL_law 57 = .ok (.aload_n 1, 1) := by decide +kernel
theorem dL_law_58 : decode cL_law 58 = .ok (.aload_n 2, 1) := by decide +kernel
theorem dL_law_59 : decode cL_law 59 = .ok (.invokestatic 125, 3) := by decide +kernel
theorem dL_law_62 : decode cL_law 62 = .ok (.ifCond .eq 10, 3) := by decide +kernel
theorem dL_law_65 : decode cL_law 65 = .ok (.aload_n 1, 1) := by decide +kernel
theorem dL_law_66 : decode cL_law 66 = .ok (.invokestatic 129, 3) := by decide +kernel
theorem dL_law_69 : decode cL_law 69 = .ok (.ifCond .ne 5, 3) := by decide +kernel
theorem dL_law_72 : decode cL_law 72 = .ok (.iconst 0, 1) := by decide +kernel
theorem dL_law_73 : decode cL_law 73 = .ok (.ireturn, 1) := by decide +kernel
theorem dL_law_74 : decode cL_law 74 = .ok (.iload 4, 2) := by decide +kernel
theorem dL_law_76 : decode cL_law 76 = .ok (.iconst 5, 1) := by decide +kernel
theorem dL_law_77 : decode cL_law 77 = .ok (.ishr, 1) := by decide +kernel
theorem dL_law_78 : decode cL_law 78 = .ok (.bipush 12, 2) := by decide +kernel
theorem dL_law_80 : decode cL_law 80 = .ok (.invokestatic 47, 3) := by decide +kernel
theorem dL_law_83 : decode cL_law 83 = .ok (.istore 6, 2) := by decide +kernel
theorem dL_law_85 : decode cL_law 85 = .ok (.aload_n 1, 1) := by decide +kernel
theorem dL_law_86 : decode cL_law 86 = .ok (.iload 6, 2) := by decide +kernel
theorem dL_law_88 : decode cL_law 88 = .ok (.invokevirtual 83, 3) := by decide +kernel
theorem dL_law_91 : decode cL_law 91 = .ok (.ifCond .eq 21, 3) := by decide +kernel
theorem dL_law_94 : decode cL_law 94 = .ok (.iload_n 3, 1) := by decide +kernel
theorem dL_law_95 : decode cL_law 95 = .ok (.bipush 7, 2) := by decide +kernel
theorem dL_law_97 : decode cL_law 97 = .ok (.irem, 1) := by decide +kernel
theorem dL_law_98 : decode cL_law 98 = .ok (.bipush 6, 2) := by decide +kernel
theorem dL_law_100 : decode cL_law 100 = .ok (.if_icmp .ne 12, 3) := by decide +kernel
theorem dL_law_103 : decode cL_law 103 = .ok (.aload_n 1, 1) := by decide +kernel
theorem dL_law_104 : decode cL_law 104 = .ok (.iload 6, 2) := by decide +kernel
theorem dL_law_106 : decode cL_law 106 = .ok (.invokestatic 133, 3) := by decide +kernel
theorem dL_law_109 : decode cL_law 109 = .ok (.ifCond .eq 21, 3) := by decide +kernel
theorem dL_law_112 : decode cL_law 112 = .ok (.iload_n 3, 1) := by decide +kernel
theorem dL_law_113 : decode cL_law 113 = .ok (.bipush 23, 2) := by decide +kernel
theorem dL_law_115 : decode cL_law 115 = .ok (.irem, 1) := by decide +kernel
theorem dL_law_116 : decode cL_law 116 = .ok (.bipush 22, 2) := by decide +kernel
theorem dL_law_118 : decode cL_law 118 = .ok (.if_icmp .ne 14, 3) := by decide +kernel
theorem dL_law_121 : decode cL_law 121 = .ok (.aload_n 1, 1) := by decide +kernel
theorem dL_law_122 : decode cL_law 122 = .ok (.iload 4, 2) := by decide +kernel
theorem dL_law_124 : decode cL_law 124 = .ok (.invokestatic 137, 3) := by decide +kernel
theorem dL_law_127 : decode cL_law 127 = .ok (.ifCond .ne 5, 3) := by decide +kernel
theorem dL_law_130 : decode cL_law 130 = .ok (.iconst 0, 1) := by decide +kernel
theorem dL_law_131 : decode cL_law 131 = .ok (.ireturn, 1) := by decide +kernel
theorem dL_law_132 : decode cL_law 132 = .ok (.iinc 3 1, 3) := by decide +kernel
theorem dL_law_135 : decode cL_law 135 = .ok (.goto (-117), 3) := by decide +kernel
theorem dL_law_138 : decode cL_law 138 = .ok (.iconst 1, 1) := by decide +kernel
theorem dL_law_139 : decode cL_law 139 = .ok (.ireturn, 1) := by decide +kernel
