theorem in_RX0 : ∀ w ∈ u_ws RX0 TX0 5, w ∈ GW := by
  intro w hw
  simp only [u_ws, List.mem_map, List.mem_range] at hw
  obtain ⟨k, hk, rfl⟩ := hw
  have h : ∀ k, k < 5 → u_lay RX0 TX0 k ∈ GW := by decide +kernel
  exact h k hk
theorem in_RX1 : ∀ w ∈ u_ws RX1 TX1 8, w ∈ GW := by
  intro w hw
  simp only [u_ws, List.mem_map, List.mem_range] at hw
  obtain ⟨k, hk, rfl⟩ := hw
  have h : ∀ k, k < 8 → u_lay RX1 TX1 k ∈ GW := by decide +kernel
  exact h k hk
theorem ini_PrefixYardLaw : Cond.initialized RL ∈ GW := List.mem_filter.mpr ⟨List.mem_of_getElem? (i := 16) (by decide +kernel), by decide +kernel⟩
theorem ini_PrefixYard : Cond.initialized RX1 ∈ GW := List.mem_filter.mpr ⟨List.mem_of_getElem? (i := 17) (by decide +kernel), by decide +kernel⟩
theorem ini_PrefixYard_Span : Cond.initialized RX0 ∈ GW := List.mem_filter.mpr ⟨List.mem_of_getElem? (i := 18) (by decide +kernel), by decide +kernel⟩
theorem ini_java_lang_Throwable : Cond.initialized "java/lang/Throwable" ∈ GW := List.mem_filter.mpr ⟨List.mem_of_getElem? (i := 19) (by decide +kernel), by decide +kernel⟩
theorem ini_java_lang_Exception : Cond.initialized "java/lang/Exception" ∈ GW := List.mem_filter.mpr ⟨List.mem_of_getElem? (i := 20) (by decide +kernel), by decide +kernel⟩
theorem ini_java_lang_RuntimeException : Cond.initialized "java/lang/RuntimeException" ∈ GW := List.mem_filter.mpr ⟨List.mem_of_getElem? (i := 21) (by decide +kernel), by decide +kernel⟩
theorem ini_java_lang_IndexOutOfBoundsException : Cond.initialized "java/lang/IndexOutOfBoundsException" ∈ GW := List.mem_filter.mpr ⟨List.mem_of_getElem? (i := 22) (by decide +kernel), by decide +kernel⟩
theorem ini_java_lang_IllegalArgumentException : Cond.initialized "java/lang/IllegalArgumentException" ∈ GW := List.mem_filter.mpr ⟨List.mem_of_getElem? (i := 23) (by decide +kernel), by decide +kernel⟩
theorem ini_java_lang_IllegalStateException : Cond.initialized "java/lang/IllegalStateException" ∈ GW := List.mem_filter.mpr ⟨List.mem_of_getElem? (i := 24) (by decide +kernel), by decide +kernel⟩
theorem ini_java_lang_Math : Cond.initialized RJ9 ∈ GW := List.mem_filter.mpr ⟨List.mem_of_getElem? (i := 25) (by decide +kernel), by decide +kernel⟩
theorem cl_L_9 : Cond.classLink RL 9 RX1 ∈ GW := List.mem_filter.mpr ⟨List.mem_of_getElem? (i := 26) (by decide +kernel), by decide +kernel⟩
theorem ins_PrefixYard : Cond.instantiable RX1 8 ∈ GW := List.mem_filter.mpr ⟨List.mem_of_getElem? (i := 27) (by decide +kernel), by decide +kernel⟩
theorem ml_L_117 : Cond.methodLink RL 117 yX1_init ∈ GW := List.mem_filter.mpr ⟨List.mem_of_getElem? (i := 28) (by decide +kernel), by decide +kernel⟩
theorem ml_X1_1 : Cond.methodLink RX1 1 objectInit ∈ GW := List.mem_filter.mpr ⟨List.mem_of_getElem? (i := 31) (by decide +kernel), by decide +kernel⟩
theorem cl_X1_7 : Cond.classLink RX1 7 RX0 ∈ GW := List.mem_filter.mpr ⟨List.mem_of_getElem? (i := 34) (by decide +kernel), by decide +kernel⟩
theorem ins_PrefixYard_Span : Cond.instantiable RX0 5 ∈ GW := List.mem_filter.mpr ⟨List.mem_of_getElem? (i := 35) (by decide +kernel), by decide +kernel⟩
theorem ml_X1_11 : Cond.methodLink RX1 11 yX0_init ∈ GW := List.mem_filter.mpr ⟨List.mem_of_getElem? (i := 36) (by decide +kernel), by decide +kernel⟩
theorem ml_X0_1 : Cond.methodLink RX0 1 objectInit ∈ GW := List.mem_filter.mpr ⟨List.mem_of_getElem? (i := 39) (by decide +kernel), by decide +kernel⟩
theorem fl_X0_7 : Cond.fieldLink RX0 7 "PrefixYard$Span" "number" "I" ∈ GW := List.mem_filter.mpr ⟨List.mem_of_getElem? (i := 40) (by decide +kernel), by decide +kernel⟩
theorem fl_X1_154 : Cond.fieldLink RX1 154 "PrefixYard$Span" "number" "I" ∈ GW := List.mem_filter.mpr ⟨List.mem_of_getElem? (i := 41) (by decide +kernel), by decide +kernel⟩
theorem fl_X0_13 : Cond.fieldLink RX0 13 "PrefixYard$Span" "parent" "LPrefixYard$Span;" ∈ GW := List.mem_filter.mpr ⟨List.mem_of_getElem? (i := 42) (by decide +kernel), by decide +kernel⟩
theorem fl_X1_94 : Cond.fieldLink RX1 94 "PrefixYard$Span" "parent" "LPrefixYard$Span;" ∈ GW := List.mem_filter.mpr ⟨List.mem_of_getElem? (i := 43) (by decide +kernel), by decide +kernel⟩
theorem fl_X0_17 : Cond.fieldLink RX0 17 "PrefixYard$Span" "base" "I" ∈ GW := List.mem_filter.mpr ⟨List.mem_of_getElem? (i := 44) (by decide +kernel), by decide +kernel⟩
theorem fl_X1_101 : Cond.fieldLink RX1 101 "PrefixYard$Span" "base" "I" ∈ GW := List.mem_filter.mpr ⟨List.mem_of_getElem? (i := 45) (by decide +kernel), by decide +kernel⟩
theorem fl_X0_20 : Cond.fieldLink RX0 20 "PrefixYard$Span" "size" "I" ∈ GW := List.mem_filter.mpr ⟨List.mem_of_getElem? (i := 46) (by decide +kernel), by decide +kernel⟩
theorem fl_X1_114 : Cond.fieldLink RX1 114 "PrefixYard$Span" "size" "I" ∈ GW := List.mem_filter.mpr ⟨List.mem_of_getElem? (i := 47) (by decide +kernel), by decide +kernel⟩
theorem fl_X0_23 : Cond.fieldLink RX0 23 "PrefixYard$Span" "owner" "I" ∈ GW := List.mem_filter.mpr ⟨List.mem_of_getElem? (i := 48) (by decide +kernel), by decide +kernel⟩
theorem fl_X1_125 : Cond.fieldLink RX1 125 "PrefixYard$Span" "owner" "I" ∈ GW := List.mem_filter.mpr ⟨List.mem_of_getElem? (i := 49) (by decide +kernel), by decide +kernel⟩
theorem fl_X1_14 : Cond.fieldLink RX1 14 "PrefixYard" "whole" "LPrefixYard$Span;" ∈ GW := List.mem_filter.mpr ⟨List.mem_of_getElem? (i := 62) (by decide +kernel), by decide +kernel⟩
theorem fl_X1_18 : Cond.fieldLink RX1 18 "PrefixYard" "made" "[LPrefixYard$Span;" ∈ GW := List.mem_filter.mpr ⟨List.mem_of_getElem? (i := 63) (by decide +kernel), by decide +kernel⟩
theorem fl_X1_22 : Cond.fieldLink RX1 22 "PrefixYard" "madeCount" "I" ∈ GW := List.mem_filter.mpr ⟨List.mem_of_getElem? (i := 64) (by decide +kernel), by decide +kernel⟩
theorem fl_X1_26 : Cond.fieldLink RX1 26 "PrefixYard" "freeFrom" "[I" ∈ GW := List.mem_filter.mpr ⟨List.mem_of_getElem? (i := 65) (by decide +kernel), by decide +kernel⟩
theorem fl_X1_30 : Cond.fieldLink RX1 30 "PrefixYard" "lentCount" "I" ∈ GW := List.mem_filter.mpr ⟨List.mem_of_getElem? (i := 66) (by decide +kernel), by decide +kernel⟩
theorem fl_X1_33 : Cond.fieldLink RX1 33 "PrefixYard" "today" "I" ∈ GW := List.mem_filter.mpr ⟨List.mem_of_getElem? (i := 67) (by decide +kernel), by decide +kernel⟩
theorem fl_X1_36 : Cond.fieldLink RX1 36 "PrefixYard" "row" "[I" ∈ GW := List.mem_filter.mpr ⟨List.mem_of_getElem? (i := 68) (by decide +kernel), by decide +kernel⟩
theorem fl_X1_39 : Cond.fieldLink RX1 39 "PrefixYard" "rowStands" "Z" ∈ GW := List.mem_filter.mpr ⟨List.mem_of_getElem? (i := 69) (by decide +kernel), by decide +kernel⟩
theorem ml_L_83 : Cond.methodLink RL 83 yX1_isThere ∈ GW := List.mem_filter.mpr ⟨List.mem_of_getElem? (i := 88) (by decide +kernel), by decide +kernel⟩
theorem ml_X1_151 : Cond.methodLink RX1 151 yX1_findSpan ∈ GW := List.mem_filter.mpr ⟨List.mem_of_getElem? (i := 92) (by decide +kernel), by decide +kernel⟩
theorem ml_L_118 : Cond.methodLink RL 118 yL_cell ∈ GW := List.mem_filter.mpr ⟨List.mem_of_getElem? (i := 96) (by decide +kernel), by decide +kernel⟩
theorem ml_L_47 : Cond.methodLink RL 47 yL_low ∈ GW := List.mem_filter.mpr ⟨List.mem_of_getElem? (i := 99) (by decide +kernel), by decide +kernel⟩
theorem ct_L_7 : Cond.constant RL 7 (2147483647) ∈ GW := List.mem_filter.mpr ⟨List.mem_of_getElem? (i := 102) (by decide +kernel), by decide +kernel⟩
theorem ml_L_122 : Cond.methodLink RL 122 yL_act ∈ GW := List.mem_filter.mpr ⟨List.mem_of_getElem? (i := 103) (by decide +kernel), by decide +kernel⟩
theorem ml_L_52 : Cond.methodLink RL 52 yL_carve ∈ GW := List.mem_filter.mpr ⟨List.mem_of_getElem? (i := 106) (by decide +kernel), by decide +kernel⟩
theorem cl_L_14 : Cond.classLink RL 14 "java/lang/IndexOutOfBoundsException" ∈ GW := List.mem_filter.mpr ⟨List.mem_of_getElem? (i := 109) (by decide +kernel), by decide +kernel⟩
theorem cl_L_17 : Cond.classLink RL 17 "java/lang/IllegalArgumentException" ∈ GW := List.mem_filter.mpr ⟨List.mem_of_getElem? (i := 110) (by decide +kernel), by decide +kernel⟩
theorem cl_L_19 : Cond.classLink RL 19 "java/lang/IllegalStateException" ∈ GW := List.mem_filter.mpr ⟨List.mem_of_getElem? (i := 111) (by decide +kernel), by decide +kernel⟩
theorem ml_L_8 : Cond.methodLink RL 8 yX1_carve ∈ GW := List.mem_filter.mpr ⟨List.mem_of_getElem? (i := 112) (by decide +kernel), by decide +kernel⟩
theorem ml_X1_43 : Cond.methodLink RX1 43 yX1_spanOf ∈ GW := List.mem_filter.mpr ⟨List.mem_of_getElem? (i := 116) (by decide +kernel), by decide +kernel⟩
theorem cl_X1_178 : Cond.classLink RX1 178 "java/lang/IndexOutOfBoundsException" ∈ GW := List.mem_filter.mpr ⟨List.mem_of_getElem? (i := 120) (by decide +kernel), by decide +kernel⟩
theorem ins_java_lang_IndexOutOfBoundsException : Cond.instantiable "java/lang/IndexOutOfBoundsException" 6 ∈ GW := List.mem_filter.mpr ⟨List.mem_of_getElem? (i := 121) (by decide +kernel), by decide +kernel⟩
theorem ins_java_lang_Throwable : Cond.instantiable "java/lang/Throwable" 6 ∈ GW := List.mem_filter.mpr ⟨List.mem_of_getElem? (i := 159) (by decide +kernel), by decide +kernel⟩
theorem ml_X1_47 : Cond.methodLink RX1 47 yX1_checkSize ∈ GW := List.mem_filter.mpr ⟨List.mem_of_getElem? (i := 188) (by decide +kernel), by decide +kernel⟩
theorem cl_X1_54 : Cond.classLink RX1 54 "java/lang/IllegalArgumentException" ∈ GW := List.mem_filter.mpr ⟨List.mem_of_getElem? (i := 191) (by decide +kernel), by decide +kernel⟩
theorem ins_java_lang_IllegalArgumentException : Cond.instantiable "java/lang/IllegalArgumentException" 6 ∈ GW := List.mem_filter.mpr ⟨List.mem_of_getElem? (i := 192) (by decide +kernel), by decide +kernel⟩
theorem ml_X1_51 : Cond.methodLink RX1 51 yX1_checkOwner ∈ GW := List.mem_filter.mpr ⟨List.mem_of_getElem? (i := 207) (by decide +kernel), by decide +kernel⟩
theorem ml_X1_61 : Cond.methodLink RX1 61 yX1_checkCarving ∈ GW := List.mem_filter.mpr ⟨List.mem_of_getElem? (i := 212) (by decide +kernel), by decide +kernel⟩
theorem ml_X1_160 : Cond.methodLink RX1 160 yX1_lentInItself ∈ GW := List.mem_filter.mpr ⟨List.mem_of_getElem? (i := 216) (by decide +kernel), by decide +kernel⟩
theorem ml_X1_97 : Cond.methodLink RX1 97 yX1_hasChildren ∈ GW := List.mem_filter.mpr ⟨List.mem_of_getElem? (i := 220) (by decide +kernel), by decide +kernel⟩
theorem ml_X1_88 : Cond.methodLink RX1 88 yX1_countChildren ∈ GW := List.mem_filter.mpr ⟨List.mem_of_getElem? (i := 224) (by decide +kernel), by decide +kernel⟩
theorem ml_X1_193 : Cond.methodLink RX1 193 yX0_meets ∈ GW := List.mem_filter.mpr ⟨List.mem_of_getElem? (i := 228) (by decide +kernel), by decide +kernel⟩
theorem ml_X0_26 : Cond.methodLink RX0 26 yX0_end ∈ GW := List.mem_filter.mpr ⟨List.mem_of_getElem? (i := 232) (by decide +kernel), by decide +kernel⟩
theorem ml_X1_104 : Cond.methodLink RX1 104 yX0_end ∈ GW := List.mem_filter.mpr ⟨List.mem_of_getElem? (i := 236) (by decide +kernel), by decide +kernel⟩
theorem ml_X1_108 : Cond.methodLink RX1 108 yX1_countLent ∈ GW := List.mem_filter.mpr ⟨List.mem_of_getElem? (i := 237) (by decide +kernel), by decide +kernel⟩
theorem ml_X1_136 : Cond.methodLink RX1 136 yX1_isAddress ∈ GW := List.mem_filter.mpr ⟨List.mem_of_getElem? (i := 241) (by decide +kernel), by decide +kernel⟩
theorem cl_X1_69 : Cond.classLink RX1 69 "java/lang/IllegalStateException" ∈ GW := List.mem_filter.mpr ⟨List.mem_of_getElem? (i := 244) (by decide +kernel), by decide +kernel⟩
theorem ins_java_lang_IllegalStateException : Cond.instantiable "java/lang/IllegalStateException" 6 ∈ GW := List.mem_filter.mpr ⟨List.mem_of_getElem? (i := 245) (by decide +kernel), by decide +kernel⟩
theorem ml_X1_65 : Cond.methodLink RX1 65 yX1_chosenBlock ∈ GW := List.mem_filter.mpr ⟨List.mem_of_getElem? (i := 260) (by decide +kernel), by decide +kernel⟩
theorem ml_X1_168 : Cond.methodLink RX1 168 yX1_childAt ∈ GW := List.mem_filter.mpr ⟨List.mem_of_getElem? (i := 264) (by decide +kernel), by decide +kernel⟩
theorem ml_X1_84 : Cond.methodLink RX1 84 yX0_has ∈ GW := List.mem_filter.mpr ⟨List.mem_of_getElem? (i := 268) (by decide +kernel), by decide +kernel⟩
theorem ml_X1_74 : Cond.methodLink RX1 74 yX1_roomAt ∈ GW := List.mem_filter.mpr ⟨List.mem_of_getElem? (i := 272) (by decide +kernel), by decide +kernel⟩
theorem ml_X1_163 : Cond.methodLink RX1 163 yJ9_min_7cf53 ∈ GW := List.mem_filter.mpr ⟨List.mem_of_getElem? (i := 276) (by decide +kernel), by decide +kernel⟩
theorem ml_X1_197 : Cond.methodLink RX1 197 yX1_greatestBlock ∈ GW := List.mem_filter.mpr ⟨List.mem_of_getElem? (i := 279) (by decide +kernel), by decide +kernel⟩
theorem ml_X1_78 : Cond.methodLink RX1 78 yX1_makeSpan ∈ GW := List.mem_filter.mpr ⟨List.mem_of_getElem? (i := 283) (by decide +kernel), by decide +kernel⟩
theorem ct_L_16 : Cond.constant RL 16 (-99999) ∈ GW := List.mem_filter.mpr ⟨List.mem_of_getElem? (i := 288) (by decide +kernel), by decide +kernel⟩
theorem ml_L_55 : Cond.methodLink RL 55 yL_carveAt ∈ GW := List.mem_filter.mpr ⟨List.mem_of_getElem? (i := 289) (by decide +kernel), by decide +kernel⟩
theorem ml_L_21 : Cond.methodLink RL 21 yX1_carveAt ∈ GW := List.mem_filter.mpr ⟨List.mem_of_getElem? (i := 292) (by decide +kernel), by decide +kernel⟩
theorem ml_L_57 : Cond.methodLink RL 57 yL_remove ∈ GW := List.mem_filter.mpr ⟨List.mem_of_getElem? (i := 298) (by decide +kernel), by decide +kernel⟩
theorem ml_L_24 : Cond.methodLink RL 24 yX1_remove ∈ GW := List.mem_filter.mpr ⟨List.mem_of_getElem? (i := 301) (by decide +kernel), by decide +kernel⟩
theorem ml_L_60 : Cond.methodLink RL 60 yL_grow ∈ GW := List.mem_filter.mpr ⟨List.mem_of_getElem? (i := 306) (by decide +kernel), by decide +kernel⟩
theorem ml_L_28 : Cond.methodLink RL 28 yX1_grow ∈ GW := List.mem_filter.mpr ⟨List.mem_of_getElem? (i := 309) (by decide +kernel), by decide +kernel⟩
theorem ml_L_62 : Cond.methodLink RL 62 yL_halve ∈ GW := List.mem_filter.mpr ⟨List.mem_of_getElem? (i := 315) (by decide +kernel), by decide +kernel⟩
theorem ml_L_31 : Cond.methodLink RL 31 yX1_halve ∈ GW := List.mem_filter.mpr ⟨List.mem_of_getElem? (i := 318) (by decide +kernel), by decide +kernel⟩
theorem ml_L_64 : Cond.methodLink RL 64 yL_setOwner ∈ GW := List.mem_filter.mpr ⟨List.mem_of_getElem? (i := 324) (by decide +kernel), by decide +kernel⟩
theorem ml_L_34 : Cond.methodLink RL 34 yX1_setOwner ∈ GW := List.mem_filter.mpr ⟨List.mem_of_getElem? (i := 327) (by decide +kernel), by decide +kernel⟩
theorem ml_L_67 : Cond.methodLink RL 67 yL_lend ∈ GW := List.mem_filter.mpr ⟨List.mem_of_getElem? (i := 331) (by decide +kernel), by decide +kernel⟩
theorem ml_L_38 : Cond.methodLink RL 38 yX1_lend ∈ GW := List.mem_filter.mpr ⟨List.mem_of_getElem? (i := 334) (by decide +kernel), by decide +kernel⟩
theorem ml_X1_132 : Cond.methodLink RX1 132 yX1_lowestFree ∈ GW := List.mem_filter.mpr ⟨List.mem_of_getElem? (i := 340) (by decide +kernel), by decide +kernel⟩
theorem ml_L_69 : Cond.methodLink RL 69 yL_takeBack ∈ GW := List.mem_filter.mpr ⟨List.mem_of_getElem? (i := 345) (by decide +kernel), by decide +kernel⟩
theorem ml_L_41 : Cond.methodLink RL 41 yX1_takeBack ∈ GW := List.mem_filter.mpr ⟨List.mem_of_getElem? (i := 348) (by decide +kernel), by decide +kernel⟩
theorem ml_X1_141 : Cond.methodLink RX1 141 yX1_checkAddress ∈ GW := List.mem_filter.mpr ⟨List.mem_of_getElem? (i := 352) (by decide +kernel), by decide +kernel⟩
theorem ml_L_71 : Cond.methodLink RL 71 yL_pass ∈ GW := List.mem_filter.mpr ⟨List.mem_of_getElem? (i := 357) (by decide +kernel), by decide +kernel⟩
theorem ml_L_44 : Cond.methodLink RL 44 yX1_pass ∈ GW := List.mem_filter.mpr ⟨List.mem_of_getElem? (i := 360) (by decide +kernel), by decide +kernel⟩
theorem ct_X1_148 : Cond.constant RX1 148 (100000) ∈ GW := List.mem_filter.mpr ⟨List.mem_of_getElem? (i := 365) (by decide +kernel), by decide +kernel⟩
theorem ml_L_125 : Cond.methodLink RL 125 yL_areAlike ∈ GW := List.mem_filter.mpr ⟨List.mem_of_getElem? (i := 367) (by decide +kernel), by decide +kernel⟩
theorem ml_L_73 : Cond.methodLink RL 73 yX1_day ∈ GW := List.mem_filter.mpr ⟨List.mem_of_getElem? (i := 370) (by decide +kernel), by decide +kernel⟩
theorem ml_L_77 : Cond.methodLink RL 77 yX1_spans ∈ GW := List.mem_filter.mpr ⟨List.mem_of_getElem? (i := 374) (by decide +kernel), by decide +kernel⟩
theorem ml_L_80 : Cond.methodLink RL 80 yX1_lent ∈ GW := List.mem_filter.mpr ⟨List.mem_of_getElem? (i := 378) (by decide +kernel), by decide +kernel⟩
theorem ml_L_87 : Cond.methodLink RL 87 yX1_base ∈ GW := List.mem_filter.mpr ⟨List.mem_of_getElem? (i := 382) (by decide +kernel), by decide +kernel⟩
theorem ml_L_90 : Cond.methodLink RL 90 yX1_size ∈ GW := List.mem_filter.mpr ⟨List.mem_of_getElem? (i := 386) (by decide +kernel), by decide +kernel⟩
theorem ml_L_93 : Cond.methodLink RL 93 yX1_free ∈ GW := List.mem_filter.mpr ⟨List.mem_of_getElem? (i := 390) (by decide +kernel), by decide +kernel⟩
theorem ml_X1_157 : Cond.methodLink RX1 157 yX1_outsideChildren ∈ GW := List.mem_filter.mpr ⟨List.mem_of_getElem? (i := 394) (by decide +kernel), by decide +kernel⟩
theorem ml_L_129 : Cond.methodLink RL 129 yL_areSpansSo ∈ GW := List.mem_filter.mpr ⟨List.mem_of_getElem? (i := 398) (by decide +kernel), by decide +kernel⟩
theorem ml_L_96 : Cond.methodLink RL 96 yX1_parent ∈ GW := List.mem_filter.mpr ⟨List.mem_of_getElem? (i := 401) (by decide +kernel), by decide +kernel⟩
theorem ml_L_133 : Cond.methodLink RL 133 yL_areBlocksSo ∈ GW := List.mem_filter.mpr ⟨List.mem_of_getElem? (i := 405) (by decide +kernel), by decide +kernel⟩
theorem ml_L_99 : Cond.methodLink RL 99 yX1_greatestFree ∈ GW := List.mem_filter.mpr ⟨List.mem_of_getElem? (i := 408) (by decide +kernel), by decide +kernel⟩
theorem ml_L_102 : Cond.methodLink RL 102 yX1_inTheWay ∈ GW := List.mem_filter.mpr ⟨List.mem_of_getElem? (i := 412) (by decide +kernel), by decide +kernel⟩
theorem ml_L_137 : Cond.methodLink RL 137 yL_areOwnersSo ∈ GW := List.mem_filter.mpr ⟨List.mem_of_getElem? (i := 416) (by decide +kernel), by decide +kernel⟩
theorem ml_L_105 : Cond.methodLink RL 105 yX1_owned ∈ GW := List.mem_filter.mpr ⟨List.mem_of_getElem? (i := 419) (by decide +kernel), by decide +kernel⟩
theorem ml_L_108 : Cond.methodLink RL 108 yX1_blocks ∈ GW := List.mem_filter.mpr ⟨List.mem_of_getElem? (i := 423) (by decide +kernel), by decide +kernel⟩
theorem ml_X1_172 : Cond.methodLink RX1 172 yX1_layRow ∈ GW := List.mem_filter.mpr ⟨List.mem_of_getElem? (i := 427) (by decide +kernel), by decide +kernel⟩
theorem ml_X1_200 : Cond.methodLink RX1 200 yX1_laySpan ∈ GW := List.mem_filter.mpr ⟨List.mem_of_getElem? (i := 431) (by decide +kernel), by decide +kernel⟩
theorem ml_X1_175 : Cond.methodLink RX1 175 yX1_countBlocks ∈ GW := List.mem_filter.mpr ⟨List.mem_of_getElem? (i := 435) (by decide +kernel), by decide +kernel⟩
theorem ml_L_111 : Cond.methodLink RL 111 yX1_nearest ∈ GW := List.mem_filter.mpr ⟨List.mem_of_getElem? (i := 438) (by decide +kernel), by decide +kernel⟩
theorem ml_L_114 : Cond.methodLink RL 114 yX1_nearestByRow ∈ GW := List.mem_filter.mpr ⟨List.mem_of_getElem? (i := 442) (by decide +kernel), by decide +kernel⟩
theorem mc_X0_init : Cond.code yX0_init cX0_init 6 none ∈ GW := List.mem_filter.mpr ⟨List.mem_of_getElem? (i := 38) (by decide +kernel), by decide +kernel⟩
theorem mi_X0_init : Cond.instanceMethod yX0_init ∈ GW := List.mem_filter.mpr ⟨List.mem_of_getElem? (i := 37) (by decide +kernel), by decide +kernel⟩
theorem mc_X0_end : Cond.code yX0_end cX0_end 1 (some .int) ∈ GW := List.mem_filter.mpr ⟨List.mem_of_getElem? (i := 235) (by decide +kernel), by decide +kernel⟩
theorem mi_X0_end : Cond.instanceMethod yX0_end ∈ GW := List.mem_filter.mpr ⟨List.mem_of_getElem? (i := 233) (by decide +kernel), by decide +kernel⟩
theorem ms_X0_end : Cond.selects RX0 yX0_end yX0_end ∈ GW := List.mem_filter.mpr ⟨List.mem_of_getElem? (i := 234) (by decide +kernel), by decide +kernel⟩
theorem mc_X0_has : Cond.code yX0_has cX0_has 2 (some .boolean) ∈ GW := List.mem_filter.mpr ⟨List.mem_of_getElem? (i := 271) (by decide +kernel), by decide +kernel⟩
theorem mi_X0_has : Cond.instanceMethod yX0_has ∈ GW := List.mem_filter.mpr ⟨List.mem_of_getElem? (i := 269) (by decide +kernel), by decide +kernel⟩
theorem ms_X0_has : Cond.selects RX0 yX0_has yX0_has ∈ GW := List.mem_filter.mpr ⟨List.mem_of_getElem? (i := 270) (by decide +kernel), by decide +kernel⟩
theorem mc_X0_meets : Cond.code yX0_meets cX0_meets 3 (some .boolean) ∈ GW := List.mem_filter.mpr ⟨List.mem_of_getElem? (i := 231) (by decide +kernel), by decide +kernel⟩
theorem mi_X0_meets : Cond.instanceMethod yX0_meets ∈ GW := List.mem_filter.mpr ⟨List.mem_of_getElem? (i := 229) (by decide +kernel), by decide +kernel⟩
theorem ms_X0_meets : Cond.selects RX0 yX0_meets yX0_meets ∈ GW := List.mem_filter.mpr ⟨List.mem_of_getElem? (i := 230) (by decide +kernel), by decide +kernel⟩
theorem mc_X1_init : Cond.code yX1_init cX1_init 1 none ∈ GW := List.mem_filter.mpr ⟨List.mem_of_getElem? (i := 30) (by decide +kernel), by decide +kernel⟩
theorem mi_X1_init : Cond.instanceMethod yX1_init ∈ GW := List.mem_filter.mpr ⟨List.mem_of_getElem? (i := 29) (by decide +kernel), by decide +kernel⟩
theorem mc_X1_carve : Cond.code yX1_carve cX1_carve 9 (some .int) ∈ GW := List.mem_filter.mpr ⟨List.mem_of_getElem? (i := 115) (by decide +kernel), by decide +kernel⟩
theorem mi_X1_carve : Cond.instanceMethod yX1_carve ∈ GW := List.mem_filter.mpr ⟨List.mem_of_getElem? (i := 113) (by decide +kernel), by decide +kernel⟩
theorem ms_X1_carve : Cond.selects RX1 yX1_carve yX1_carve ∈ GW := List.mem_filter.mpr ⟨List.mem_of_getElem? (i := 114) (by decide +kernel), by decide +kernel⟩
theorem mc_X1_carveAt : Cond.code yX1_carveAt cX1_carveAt 6 (some .int) ∈ GW := List.mem_filter.mpr ⟨List.mem_of_getElem? (i := 295) (by decide +kernel), by decide +kernel⟩
theorem mi_X1_carveAt : Cond.instanceMethod yX1_carveAt ∈ GW := List.mem_filter.mpr ⟨List.mem_of_getElem? (i := 293) (by decide +kernel), by decide +kernel⟩
theorem ms_X1_carveAt : Cond.selects RX1 yX1_carveAt yX1_carveAt ∈ GW := List.mem_filter.mpr ⟨List.mem_of_getElem? (i := 294) (by decide +kernel), by decide +kernel⟩
theorem mc_X1_remove : Cond.code yX1_remove cX1_remove 3 (some .int) ∈ GW := List.mem_filter.mpr ⟨List.mem_of_getElem? (i := 304) (by decide +kernel), by decide +kernel⟩
theorem mi_X1_remove : Cond.instanceMethod yX1_remove ∈ GW := List.mem_filter.mpr ⟨List.mem_of_getElem? (i := 302) (by decide +kernel), by decide +kernel⟩
theorem ms_X1_remove : Cond.selects RX1 yX1_remove yX1_remove ∈ GW := List.mem_filter.mpr ⟨List.mem_of_getElem? (i := 303) (by decide +kernel), by decide +kernel⟩
theorem mc_X1_grow : Cond.code yX1_grow cX1_grow 6 (some .int) ∈ GW := List.mem_filter.mpr ⟨List.mem_of_getElem? (i := 312) (by decide +kernel), by decide +kernel⟩
theorem mi_X1_grow : Cond.instanceMethod yX1_grow ∈ GW := List.mem_filter.mpr ⟨List.mem_of_getElem? (i := 310) (by decide +kernel), by decide +kernel⟩
theorem ms_X1_grow : Cond.selects RX1 yX1_grow yX1_grow ∈ GW := List.mem_filter.mpr ⟨List.mem_of_getElem? (i := 311) (by decide +kernel), by decide +kernel⟩
theorem mc_X1_halve : Cond.code yX1_halve cX1_halve 5 (some .int) ∈ GW := List.mem_filter.mpr ⟨List.mem_of_getElem? (i := 321) (by decide +kernel), by decide +kernel⟩
theorem mi_X1_halve : Cond.instanceMethod yX1_halve ∈ GW := List.mem_filter.mpr ⟨List.mem_of_getElem? (i := 319) (by decide +kernel), by decide +kernel⟩
theorem ms_X1_halve : Cond.selects RX1 yX1_halve yX1_halve ∈ GW := List.mem_filter.mpr ⟨List.mem_of_getElem? (i := 320) (by decide +kernel), by decide +kernel⟩
theorem mc_X1_setOwner : Cond.code yX1_setOwner cX1_setOwner 5 (some .int) ∈ GW := List.mem_filter.mpr ⟨List.mem_of_getElem? (i := 330) (by decide +kernel), by decide +kernel⟩
theorem mi_X1_setOwner : Cond.instanceMethod yX1_setOwner ∈ GW := List.mem_filter.mpr ⟨List.mem_of_getElem? (i := 328) (by decide +kernel), by decide +kernel⟩
theorem ms_X1_setOwner : Cond.selects RX1 yX1_setOwner yX1_setOwner ∈ GW := List.mem_filter.mpr ⟨List.mem_of_getElem? (i := 329) (by decide +kernel), by decide +kernel⟩
theorem mc_X1_lend : Cond.code yX1_lend cX1_lend 5 (some .int) ∈ GW := List.mem_filter.mpr ⟨List.mem_of_getElem? (i := 337) (by decide +kernel), by decide +kernel⟩
theorem mi_X1_lend : Cond.instanceMethod yX1_lend ∈ GW := List.mem_filter.mpr ⟨List.mem_of_getElem? (i := 335) (by decide +kernel), by decide +kernel⟩
theorem ms_X1_lend : Cond.selects RX1 yX1_lend yX1_lend ∈ GW := List.mem_filter.mpr ⟨List.mem_of_getElem? (i := 336) (by decide +kernel), by decide +kernel⟩
theorem mc_X1_takeBack : Cond.code yX1_takeBack cX1_takeBack 3 (some .int) ∈ GW := List.mem_filter.mpr ⟨List.mem_of_getElem? (i := 351) (by decide +kernel), by decide +kernel⟩
theorem mi_X1_takeBack : Cond.instanceMethod yX1_takeBack ∈ GW := List.mem_filter.mpr ⟨List.mem_of_getElem? (i := 349) (by decide +kernel), by decide +kernel⟩
theorem ms_X1_takeBack : Cond.selects RX1 yX1_takeBack yX1_takeBack ∈ GW := List.mem_filter.mpr ⟨List.mem_of_getElem? (i := 350) (by decide +kernel), by decide +kernel⟩
theorem mc_X1_pass : Cond.code yX1_pass cX1_pass 5 (some .int) ∈ GW := List.mem_filter.mpr ⟨List.mem_of_getElem? (i := 363) (by decide +kernel), by decide +kernel⟩
theorem mi_X1_pass : Cond.instanceMethod yX1_pass ∈ GW := List.mem_filter.mpr ⟨List.mem_of_getElem? (i := 361) (by decide +kernel), by decide +kernel⟩
theorem ms_X1_pass : Cond.selects RX1 yX1_pass yX1_pass ∈ GW := List.mem_filter.mpr ⟨List.mem_of_getElem? (i := 362) (by decide +kernel), by decide +kernel⟩
theorem mc_X1_day : Cond.code yX1_day cX1_day 1 (some .int) ∈ GW := List.mem_filter.mpr ⟨List.mem_of_getElem? (i := 373) (by decide +kernel), by decide +kernel⟩
theorem mi_X1_day : Cond.instanceMethod yX1_day ∈ GW := List.mem_filter.mpr ⟨List.mem_of_getElem? (i := 371) (by decide +kernel), by decide +kernel⟩
theorem ms_X1_day : Cond.selects RX1 yX1_day yX1_day ∈ GW := List.mem_filter.mpr ⟨List.mem_of_getElem? (i := 372) (by decide +kernel), by decide +kernel⟩
theorem mc_X1_spans : Cond.code yX1_spans cX1_spans 6 (some .int) ∈ GW := List.mem_filter.mpr ⟨List.mem_of_getElem? (i := 377) (by decide +kernel), by decide +kernel⟩
theorem mi_X1_spans : Cond.instanceMethod yX1_spans ∈ GW := List.mem_filter.mpr ⟨List.mem_of_getElem? (i := 375) (by decide +kernel), by decide +kernel⟩
theorem ms_X1_spans : Cond.selects RX1 yX1_spans yX1_spans ∈ GW := List.mem_filter.mpr ⟨List.mem_of_getElem? (i := 376) (by decide +kernel), by decide +kernel⟩
theorem mc_X1_isThere : Cond.code yX1_isThere cX1_isThere 2 (some .boolean) ∈ GW := List.mem_filter.mpr ⟨List.mem_of_getElem? (i := 91) (by decide +kernel), by decide +kernel⟩
theorem mi_X1_isThere : Cond.instanceMethod yX1_isThere ∈ GW := List.mem_filter.mpr ⟨List.mem_of_getElem? (i := 89) (by decide +kernel), by decide +kernel⟩
theorem ms_X1_isThere : Cond.selects RX1 yX1_isThere yX1_isThere ∈ GW := List.mem_filter.mpr ⟨List.mem_of_getElem? (i := 90) (by decide +kernel), by decide +kernel⟩
theorem mc_X1_base : Cond.code yX1_base cX1_base 2 (some .int) ∈ GW := List.mem_filter.mpr ⟨List.mem_of_getElem? (i := 385) (by decide +kernel), by decide +kernel⟩
theorem mi_X1_base : Cond.instanceMethod yX1_base ∈ GW := List.mem_filter.mpr ⟨List.mem_of_getElem? (i := 383) (by decide +kernel), by decide +kernel⟩
theorem ms_X1_base : Cond.selects RX1 yX1_base yX1_base ∈ GW := List.mem_filter.mpr ⟨List.mem_of_getElem? (i := 384) (by decide +kernel), by decide +kernel⟩
theorem mc_X1_size : Cond.code yX1_size cX1_size 2 (some .int) ∈ GW := List.mem_filter.mpr ⟨List.mem_of_getElem? (i := 389) (by decide +kernel), by decide +kernel⟩
theorem mi_X1_size : Cond.instanceMethod yX1_size ∈ GW := List.mem_filter.mpr ⟨List.mem_of_getElem? (i := 387) (by decide +kernel), by decide +kernel⟩
theorem ms_X1_size : Cond.selects RX1 yX1_size yX1_size ∈ GW := List.mem_filter.mpr ⟨List.mem_of_getElem? (i := 388) (by decide +kernel), by decide +kernel⟩
theorem mc_X1_parent : Cond.code yX1_parent cX1_parent 3 (some .int) ∈ GW := List.mem_filter.mpr ⟨List.mem_of_getElem? (i := 404) (by decide +kernel), by decide +kernel⟩
theorem mi_X1_parent : Cond.instanceMethod yX1_parent ∈ GW := List.mem_filter.mpr ⟨List.mem_of_getElem? (i := 402) (by decide +kernel), by decide +kernel⟩
theorem ms_X1_parent : Cond.selects RX1 yX1_parent yX1_parent ∈ GW := List.mem_filter.mpr ⟨List.mem_of_getElem? (i := 403) (by decide +kernel), by decide +kernel⟩
theorem mc_X1_free : Cond.code yX1_free cX1_free 3 (some .int) ∈ GW := List.mem_filter.mpr ⟨List.mem_of_getElem? (i := 393) (by decide +kernel), by decide +kernel⟩
theorem mi_X1_free : Cond.instanceMethod yX1_free ∈ GW := List.mem_filter.mpr ⟨List.mem_of_getElem? (i := 391) (by decide +kernel), by decide +kernel⟩
theorem ms_X1_free : Cond.selects RX1 yX1_free yX1_free ∈ GW := List.mem_filter.mpr ⟨List.mem_of_getElem? (i := 392) (by decide +kernel), by decide +kernel⟩
theorem mc_X1_greatestFree : Cond.code yX1_greatestFree cX1_greatestFree 5 (some .int) ∈ GW := List.mem_filter.mpr ⟨List.mem_of_getElem? (i := 411) (by decide +kernel), by decide +kernel⟩
theorem mi_X1_greatestFree : Cond.instanceMethod yX1_greatestFree ∈ GW := List.mem_filter.mpr ⟨List.mem_of_getElem? (i := 409) (by decide +kernel), by decide +kernel⟩
theorem ms_X1_greatestFree : Cond.selects RX1 yX1_greatestFree yX1_greatestFree ∈ GW := List.mem_filter.mpr ⟨List.mem_of_getElem? (i := 410) (by decide +kernel), by decide +kernel⟩
theorem mc_X1_inTheWay : Cond.code yX1_inTheWay cX1_inTheWay 8 (some .int) ∈ GW := List.mem_filter.mpr ⟨List.mem_of_getElem? (i := 415) (by decide +kernel), by decide +kernel⟩
theorem mi_X1_inTheWay : Cond.instanceMethod yX1_inTheWay ∈ GW := List.mem_filter.mpr ⟨List.mem_of_getElem? (i := 413) (by decide +kernel), by decide +kernel⟩
theorem ms_X1_inTheWay : Cond.selects RX1 yX1_inTheWay yX1_inTheWay ∈ GW := List.mem_filter.mpr ⟨List.mem_of_getElem? (i := 414) (by decide +kernel), by decide +kernel⟩
theorem mc_X1_lent : Cond.code yX1_lent cX1_lent 1 (some .int) ∈ GW := List.mem_filter.mpr ⟨List.mem_of_getElem? (i := 381) (by decide +kernel), by decide +kernel⟩
theorem mi_X1_lent : Cond.instanceMethod yX1_lent ∈ GW := List.mem_filter.mpr ⟨List.mem_of_getElem? (i := 379) (by decide +kernel), by decide +kernel⟩
theorem ms_X1_lent : Cond.selects RX1 yX1_lent yX1_lent ∈ GW := List.mem_filter.mpr ⟨List.mem_of_getElem? (i := 380) (by decide +kernel), by decide +kernel⟩
theorem mc_X1_nearest : Cond.code yX1_nearest cX1_nearest 5 (some .int) ∈ GW := List.mem_filter.mpr ⟨List.mem_of_getElem? (i := 441) (by decide +kernel), by decide +kernel⟩
theorem mi_X1_nearest : Cond.instanceMethod yX1_nearest ∈ GW := List.mem_filter.mpr ⟨List.mem_of_getElem? (i := 439) (by decide +kernel), by decide +kernel⟩
theorem ms_X1_nearest : Cond.selects RX1 yX1_nearest yX1_nearest ∈ GW := List.mem_filter.mpr ⟨List.mem_of_getElem? (i := 440) (by decide +kernel), by decide +kernel⟩
theorem mc_X1_nearestByRow : Cond.code yX1_nearestByRow cX1_nearestByRow 2 (some .int) ∈ GW := List.mem_filter.mpr ⟨List.mem_of_getElem? (i := 445) (by decide +kernel), by decide +kernel⟩
theorem mi_X1_nearestByRow : Cond.instanceMethod yX1_nearestByRow ∈ GW := List.mem_filter.mpr ⟨List.mem_of_getElem? (i := 443) (by decide +kernel), by decide +kernel⟩
theorem ms_X1_nearestByRow : Cond.selects RX1 yX1_nearestByRow yX1_nearestByRow ∈ GW := List.mem_filter.mpr ⟨List.mem_of_getElem? (i := 444) (by decide +kernel), by decide +kernel⟩
theorem mc_X1_owned : Cond.code yX1_owned cX1_owned 7 (some .int) ∈ GW := List.mem_filter.mpr ⟨List.mem_of_getElem? (i := 422) (by decide +kernel), by decide +kernel⟩
theorem mi_X1_owned : Cond.instanceMethod yX1_owned ∈ GW := List.mem_filter.mpr ⟨List.mem_of_getElem? (i := 420) (by decide +kernel), by decide +kernel⟩
theorem ms_X1_owned : Cond.selects RX1 yX1_owned yX1_owned ∈ GW := List.mem_filter.mpr ⟨List.mem_of_getElem? (i := 421) (by decide +kernel), by decide +kernel⟩
theorem mc_X1_blocks : Cond.code yX1_blocks cX1_blocks 6 (some .int) ∈ GW := List.mem_filter.mpr ⟨List.mem_of_getElem? (i := 426) (by decide +kernel), by decide +kernel⟩
theorem mi_X1_blocks : Cond.instanceMethod yX1_blocks ∈ GW := List.mem_filter.mpr ⟨List.mem_of_getElem? (i := 424) (by decide +kernel), by decide +kernel⟩
theorem ms_X1_blocks : Cond.selects RX1 yX1_blocks yX1_blocks ∈ GW := List.mem_filter.mpr ⟨List.mem_of_getElem? (i := 425) (by decide +kernel), by decide +kernel⟩
theorem mc_X1_findSpan : Cond.code yX1_findSpan cX1_findSpan 2 (some (.object "PrefixYard$Span")) ∈ GW := List.mem_filter.mpr ⟨List.mem_of_getElem? (i := 95) (by decide +kernel), by decide +kernel⟩
theorem mi_X1_findSpan : Cond.instanceMethod yX1_findSpan ∈ GW := List.mem_filter.mpr ⟨List.mem_of_getElem? (i := 94) (by decide +kernel), by decide +kernel⟩
theorem ms_X1_findSpan : Cond.selects RX1 yX1_findSpan yX1_findSpan ∈ GW := List.mem_filter.mpr ⟨List.mem_of_getElem? (i := 0) (by decide +kernel), by decide +kernel⟩
theorem mc_X1_spanOf : Cond.code yX1_spanOf cX1_spanOf 3 (some (.object "PrefixYard$Span")) ∈ GW := List.mem_filter.mpr ⟨List.mem_of_getElem? (i := 119) (by decide +kernel), by decide +kernel⟩
theorem mi_X1_spanOf : Cond.instanceMethod yX1_spanOf ∈ GW := List.mem_filter.mpr ⟨List.mem_of_getElem? (i := 118) (by decide +kernel), by decide +kernel⟩
theorem ms_X1_spanOf : Cond.selects RX1 yX1_spanOf yX1_spanOf ∈ GW := List.mem_filter.mpr ⟨List.mem_of_getElem? (i := 1) (by decide +kernel), by decide +kernel⟩
theorem mc_X1_isAddress : Cond.code yX1_isAddress cX1_isAddress 1 (some .boolean) ∈ GW := List.mem_filter.mpr ⟨List.mem_of_getElem? (i := 243) (by decide +kernel), by decide +kernel⟩
theorem mt_X1_isAddress : Cond.static yX1_isAddress ∈ GW := List.mem_filter.mpr ⟨List.mem_of_getElem? (i := 242) (by decide +kernel), by decide +kernel⟩
theorem mc_X1_checkAddress : Cond.code yX1_checkAddress cX1_checkAddress 1 none ∈ GW := List.mem_filter.mpr ⟨List.mem_of_getElem? (i := 354) (by decide +kernel), by decide +kernel⟩
theorem mt_X1_checkAddress : Cond.static yX1_checkAddress ∈ GW := List.mem_filter.mpr ⟨List.mem_of_getElem? (i := 353) (by decide +kernel), by decide +kernel⟩
theorem mc_X1_checkSize : Cond.code yX1_checkSize cX1_checkSize 1 none ∈ GW := List.mem_filter.mpr ⟨List.mem_of_getElem? (i := 190) (by decide +kernel), by decide +kernel⟩
theorem mt_X1_checkSize : Cond.static yX1_checkSize ∈ GW := List.mem_filter.mpr ⟨List.mem_of_getElem? (i := 189) (by decide +kernel), by decide +kernel⟩
theorem mc_X1_checkOwner : Cond.code yX1_checkOwner cX1_checkOwner 1 none ∈ GW := List.mem_filter.mpr ⟨List.mem_of_getElem? (i := 209) (by decide +kernel), by decide +kernel⟩
theorem mt_X1_checkOwner : Cond.static yX1_checkOwner ∈ GW := List.mem_filter.mpr ⟨List.mem_of_getElem? (i := 208) (by decide +kernel), by decide +kernel⟩
theorem mc_X1_checkCarving : Cond.code yX1_checkCarving cX1_checkCarving 3 none ∈ GW := List.mem_filter.mpr ⟨List.mem_of_getElem? (i := 215) (by decide +kernel), by decide +kernel⟩
theorem mi_X1_checkCarving : Cond.instanceMethod yX1_checkCarving ∈ GW := List.mem_filter.mpr ⟨List.mem_of_getElem? (i := 214) (by decide +kernel), by decide +kernel⟩
theorem ms_X1_checkCarving : Cond.selects RX1 yX1_checkCarving yX1_checkCarving ∈ GW := List.mem_filter.mpr ⟨List.mem_of_getElem? (i := 3) (by decide +kernel), by decide +kernel⟩
theorem mc_X1_makeSpan : Cond.code yX1_makeSpan cX1_makeSpan 6 (some .int) ∈ GW := List.mem_filter.mpr ⟨List.mem_of_getElem? (i := 286) (by decide +kernel), by decide +kernel⟩
theorem mi_X1_makeSpan : Cond.instanceMethod yX1_makeSpan ∈ GW := List.mem_filter.mpr ⟨List.mem_of_getElem? (i := 285) (by decide +kernel), by decide +kernel⟩
theorem ms_X1_makeSpan : Cond.selects RX1 yX1_makeSpan yX1_makeSpan ∈ GW := List.mem_filter.mpr ⟨List.mem_of_getElem? (i := 11) (by decide +kernel), by decide +kernel⟩
theorem mc_X1_childAt : Cond.code yX1_childAt cX1_childAt 7 (some (.object "PrefixYard$Span")) ∈ GW := List.mem_filter.mpr ⟨List.mem_of_getElem? (i := 267) (by decide +kernel), by decide +kernel⟩
theorem mi_X1_childAt : Cond.instanceMethod yX1_childAt ∈ GW := List.mem_filter.mpr ⟨List.mem_of_getElem? (i := 266) (by decide +kernel), by decide +kernel⟩
theorem ms_X1_childAt : Cond.selects RX1 yX1_childAt yX1_childAt ∈ GW := List.mem_filter.mpr ⟨List.mem_of_getElem? (i := 9) (by decide +kernel), by decide +kernel⟩
theorem mc_X1_countChildren : Cond.code yX1_countChildren cX1_countChildren 9 (some .int) ∈ GW := List.mem_filter.mpr ⟨List.mem_of_getElem? (i := 227) (by decide +kernel), by decide +kernel⟩
theorem mi_X1_countChildren : Cond.instanceMethod yX1_countChildren ∈ GW := List.mem_filter.mpr ⟨List.mem_of_getElem? (i := 226) (by decide +kernel), by decide +kernel⟩
theorem ms_X1_countChildren : Cond.selects RX1 yX1_countChildren yX1_countChildren ∈ GW := List.mem_filter.mpr ⟨List.mem_of_getElem? (i := 6) (by decide +kernel), by decide +kernel⟩
theorem mc_X1_hasChildren : Cond.code yX1_hasChildren cX1_hasChildren 2 (some .boolean) ∈ GW := List.mem_filter.mpr ⟨List.mem_of_getElem? (i := 223) (by decide +kernel), by decide +kernel⟩
theorem mi_X1_hasChildren : Cond.instanceMethod yX1_hasChildren ∈ GW := List.mem_filter.mpr ⟨List.mem_of_getElem? (i := 222) (by decide +kernel), by decide +kernel⟩
theorem ms_X1_hasChildren : Cond.selects RX1 yX1_hasChildren yX1_hasChildren ∈ GW := List.mem_filter.mpr ⟨List.mem_of_getElem? (i := 5) (by decide +kernel), by decide +kernel⟩
theorem mc_X1_outsideChildren : Cond.code yX1_outsideChildren cX1_outsideChildren 7 (some .int) ∈ GW := List.mem_filter.mpr ⟨List.mem_of_getElem? (i := 397) (by decide +kernel), by decide +kernel⟩
theorem mi_X1_outsideChildren : Cond.instanceMethod yX1_outsideChildren ∈ GW := List.mem_filter.mpr ⟨List.mem_of_getElem? (i := 396) (by decide +kernel), by decide +kernel⟩
theorem ms_X1_outsideChildren : Cond.selects RX1 yX1_outsideChildren yX1_outsideChildren ∈ GW := List.mem_filter.mpr ⟨List.mem_of_getElem? (i := 13) (by decide +kernel), by decide +kernel⟩
theorem mc_X1_chosenBlock : Cond.code yX1_chosenBlock cX1_chosenBlock 11 (some .int) ∈ GW := List.mem_filter.mpr ⟨List.mem_of_getElem? (i := 263) (by decide +kernel), by decide +kernel⟩
theorem mi_X1_chosenBlock : Cond.instanceMethod yX1_chosenBlock ∈ GW := List.mem_filter.mpr ⟨List.mem_of_getElem? (i := 262) (by decide +kernel), by decide +kernel⟩
theorem ms_X1_chosenBlock : Cond.selects RX1 yX1_chosenBlock yX1_chosenBlock ∈ GW := List.mem_filter.mpr ⟨List.mem_of_getElem? (i := 8) (by decide +kernel), by decide +kernel⟩
theorem mc_X1_roomAt : Cond.code yX1_roomAt cX1_roomAt 8 (some .int) ∈ GW := List.mem_filter.mpr ⟨List.mem_of_getElem? (i := 275) (by decide +kernel), by decide +kernel⟩
theorem mi_X1_roomAt : Cond.instanceMethod yX1_roomAt ∈ GW := List.mem_filter.mpr ⟨List.mem_of_getElem? (i := 274) (by decide +kernel), by decide +kernel⟩
theorem ms_X1_roomAt : Cond.selects RX1 yX1_roomAt yX1_roomAt ∈ GW := List.mem_filter.mpr ⟨List.mem_of_getElem? (i := 10) (by decide +kernel), by decide +kernel⟩
theorem mc_X1_greatestBlock : Cond.code yX1_greatestBlock cX1_greatestBlock 4 (some .int) ∈ GW := List.mem_filter.mpr ⟨List.mem_of_getElem? (i := 281) (by decide +kernel), by decide +kernel⟩
theorem mt_X1_greatestBlock : Cond.static yX1_greatestBlock ∈ GW := List.mem_filter.mpr ⟨List.mem_of_getElem? (i := 280) (by decide +kernel), by decide +kernel⟩
theorem mc_X1_countBlocks : Cond.code yX1_countBlocks cX1_countBlocks 4 (some .int) ∈ GW := List.mem_filter.mpr ⟨List.mem_of_getElem? (i := 437) (by decide +kernel), by decide +kernel⟩
theorem mt_X1_countBlocks : Cond.static yX1_countBlocks ∈ GW := List.mem_filter.mpr ⟨List.mem_of_getElem? (i := 436) (by decide +kernel), by decide +kernel⟩
theorem mc_X1_countLent : Cond.code yX1_countLent cX1_countLent 5 (some .int) ∈ GW := List.mem_filter.mpr ⟨List.mem_of_getElem? (i := 240) (by decide +kernel), by decide +kernel⟩
theorem mi_X1_countLent : Cond.instanceMethod yX1_countLent ∈ GW := List.mem_filter.mpr ⟨List.mem_of_getElem? (i := 239) (by decide +kernel), by decide +kernel⟩
theorem ms_X1_countLent : Cond.selects RX1 yX1_countLent yX1_countLent ∈ GW := List.mem_filter.mpr ⟨List.mem_of_getElem? (i := 7) (by decide +kernel), by decide +kernel⟩
theorem mc_X1_lentInItself : Cond.code yX1_lentInItself cX1_lentInItself 2 (some .int) ∈ GW := List.mem_filter.mpr ⟨List.mem_of_getElem? (i := 219) (by decide +kernel), by decide +kernel⟩
theorem mi_X1_lentInItself : Cond.instanceMethod yX1_lentInItself ∈ GW := List.mem_filter.mpr ⟨List.mem_of_getElem? (i := 218) (by decide +kernel), by decide +kernel⟩
theorem ms_X1_lentInItself : Cond.selects RX1 yX1_lentInItself yX1_lentInItself ∈ GW := List.mem_filter.mpr ⟨List.mem_of_getElem? (i := 4) (by decide +kernel), by decide +kernel⟩
theorem mc_X1_lowestFree : Cond.code yX1_lowestFree cX1_lowestFree 3 (some .int) ∈ GW := List.mem_filter.mpr ⟨List.mem_of_getElem? (i := 343) (by decide +kernel), by decide +kernel⟩
theorem mi_X1_lowestFree : Cond.instanceMethod yX1_lowestFree ∈ GW := List.mem_filter.mpr ⟨List.mem_of_getElem? (i := 342) (by decide +kernel), by decide +kernel⟩
theorem ms_X1_lowestFree : Cond.selects RX1 yX1_lowestFree yX1_lowestFree ∈ GW := List.mem_filter.mpr ⟨List.mem_of_getElem? (i := 12) (by decide +kernel), by decide +kernel⟩
theorem mc_X1_layRow : Cond.code yX1_layRow cX1_layRow 6 none ∈ GW := List.mem_filter.mpr ⟨List.mem_of_getElem? (i := 430) (by decide +kernel), by decide +kernel⟩
theorem mi_X1_layRow : Cond.instanceMethod yX1_layRow ∈ GW := List.mem_filter.mpr ⟨List.mem_of_getElem? (i := 429) (by decide +kernel), by decide +kernel⟩
theorem ms_X1_layRow : Cond.selects RX1 yX1_layRow yX1_layRow ∈ GW := List.mem_filter.mpr ⟨List.mem_of_getElem? (i := 14) (by decide +kernel), by decide +kernel⟩
theorem mc_X1_laySpan : Cond.code yX1_laySpan cX1_laySpan 3 none ∈ GW := List.mem_filter.mpr ⟨List.mem_of_getElem? (i := 434) (by decide +kernel), by decide +kernel⟩
theorem mi_X1_laySpan : Cond.instanceMethod yX1_laySpan ∈ GW := List.mem_filter.mpr ⟨List.mem_of_getElem? (i := 433) (by decide +kernel), by decide +kernel⟩
theorem ms_X1_laySpan : Cond.selects RX1 yX1_laySpan yX1_laySpan ∈ GW := List.mem_filter.mpr ⟨List.mem_of_getElem? (i := 15) (by decide +kernel), by decide +kernel⟩
theorem mc_L_cell : Cond.code yL_cell cL_cell 2 (some .int) ∈ GW := List.mem_filter.mpr ⟨List.mem_of_getElem? (i := 98) (by decide +kernel), by decide +kernel⟩
theorem mt_L_cell : Cond.static yL_cell ∈ GW := List.mem_filter.mpr ⟨List.mem_of_getElem? (i := 97) (by decide +kernel), by decide +kernel⟩
theorem mc_L_low : Cond.code yL_low cL_low 2 (some .int) ∈ GW := List.mem_filter.mpr ⟨List.mem_of_getElem? (i := 101) (by decide +kernel), by decide +kernel⟩
theorem mt_L_low : Cond.static yL_low ∈ GW := List.mem_filter.mpr ⟨List.mem_of_getElem? (i := 100) (by decide +kernel), by decide +kernel⟩
theorem mc_L_carve : Cond.codeWith yL_carve cL_carve 6 (some .int) [(0, 9, 10, 14), (0, 9, 15, 17), (0, 9, 20, 19)] ∈ GW := List.mem_filter.mpr ⟨List.mem_of_getElem? (i := 108) (by decide +kernel), by decide +kernel⟩
theorem mt_L_carve : Cond.static yL_carve ∈ GW := List.mem_filter.mpr ⟨List.mem_of_getElem? (i := 107) (by decide +kernel), by decide +kernel⟩
theorem mc_L_carveAt : Cond.codeWith yL_carveAt cL_carveAt 6 (some .int) [(0, 9, 10, 14), (0, 9, 15, 17), (0, 9, 20, 19)] ∈ GW := List.mem_filter.mpr ⟨List.mem_of_getElem? (i := 291) (by decide +kernel), by decide +kernel⟩
theorem mt_L_carveAt : Cond.static yL_carveAt ∈ GW := List.mem_filter.mpr ⟨List.mem_of_getElem? (i := 290) (by decide +kernel), by decide +kernel⟩
theorem mc_L_remove : Cond.codeWith yL_remove cL_remove 3 (some .int) [(0, 5, 6, 14), (0, 5, 10, 19)] ∈ GW := List.mem_filter.mpr ⟨List.mem_of_getElem? (i := 300) (by decide +kernel), by decide +kernel⟩
theorem mt_L_remove : Cond.static yL_remove ∈ GW := List.mem_filter.mpr ⟨List.mem_of_getElem? (i := 299) (by decide +kernel), by decide +kernel⟩
theorem mc_L_grow : Cond.codeWith yL_grow cL_grow 3 (some .int) [(0, 5, 6, 14), (0, 5, 10, 19)] ∈ GW := List.mem_filter.mpr ⟨List.mem_of_getElem? (i := 308) (by decide +kernel), by decide +kernel⟩
theorem mt_L_grow : Cond.static yL_grow ∈ GW := List.mem_filter.mpr ⟨List.mem_of_getElem? (i := 307) (by decide +kernel), by decide +kernel⟩
theorem mc_L_halve : Cond.codeWith yL_halve cL_halve 3 (some .int) [(0, 5, 6, 14), (0, 5, 10, 19)] ∈ GW := List.mem_filter.mpr ⟨List.mem_of_getElem? (i := 317) (by decide +kernel), by decide +kernel⟩
theorem mt_L_halve : Cond.static yL_halve ∈ GW := List.mem_filter.mpr ⟨List.mem_of_getElem? (i := 316) (by decide +kernel), by decide +kernel⟩
theorem mc_L_setOwner : Cond.codeWith yL_setOwner cL_setOwner 4 (some .int) [(0, 6, 7, 14), (0, 6, 11, 17)] ∈ GW := List.mem_filter.mpr ⟨List.mem_of_getElem? (i := 326) (by decide +kernel), by decide +kernel⟩
theorem mt_L_setOwner : Cond.static yL_setOwner ∈ GW := List.mem_filter.mpr ⟨List.mem_of_getElem? (i := 325) (by decide +kernel), by decide +kernel⟩
theorem mc_L_lend : Cond.codeWith yL_lend cL_lend 4 (some .int) [(0, 6, 7, 14), (0, 6, 11, 17), (0, 6, 15, 19)] ∈ GW := List.mem_filter.mpr ⟨List.mem_of_getElem? (i := 333) (by decide +kernel), by decide +kernel⟩
theorem mt_L_lend : Cond.static yL_lend ∈ GW := List.mem_filter.mpr ⟨List.mem_of_getElem? (i := 332) (by decide +kernel), by decide +kernel⟩
theorem mc_L_takeBack : Cond.codeWith yL_takeBack cL_takeBack 3 (some .int) [(0, 5, 6, 14), (0, 5, 10, 19)] ∈ GW := List.mem_filter.mpr ⟨List.mem_of_getElem? (i := 347) (by decide +kernel), by decide +kernel⟩
theorem mt_L_takeBack : Cond.static yL_takeBack ∈ GW := List.mem_filter.mpr ⟨List.mem_of_getElem? (i := 346) (by decide +kernel), by decide +kernel⟩
theorem mc_L_pass : Cond.codeWith yL_pass cL_pass 3 (some .int) [(0, 5, 6, 17), (0, 5, 10, 19)] ∈ GW := List.mem_filter.mpr ⟨List.mem_of_getElem? (i := 359) (by decide +kernel), by decide +kernel⟩
theorem mt_L_pass : Cond.static yL_pass ∈ GW := List.mem_filter.mpr ⟨List.mem_of_getElem? (i := 358) (by decide +kernel), by decide +kernel⟩
theorem mc_L_act : Cond.code yL_act cL_act 5 (some .int) ∈ GW := List.mem_filter.mpr ⟨List.mem_of_getElem? (i := 105) (by decide +kernel), by decide +kernel⟩
theorem mt_L_act : Cond.static yL_act ∈ GW := List.mem_filter.mpr ⟨List.mem_of_getElem? (i := 104) (by decide +kernel), by decide +kernel⟩
theorem mc_L_areAlike : Cond.code yL_areAlike cL_areAlike 4 (some .boolean) ∈ GW := List.mem_filter.mpr ⟨List.mem_of_getElem? (i := 369) (by decide +kernel), by decide +kernel⟩
theorem mt_L_areAlike : Cond.static yL_areAlike ∈ GW := List.mem_filter.mpr ⟨List.mem_of_getElem? (i := 368) (by decide +kernel), by decide +kernel⟩
theorem mc_L_areSpansSo : Cond.code yL_areSpansSo cL_areSpansSo 8 (some .boolean) ∈ GW := List.mem_filter.mpr ⟨List.mem_of_getElem? (i := 400) (by decide +kernel), by decide +kernel⟩
theorem mt_L_areSpansSo : Cond.static yL_areSpansSo ∈ GW := List.mem_filter.mpr ⟨List.mem_of_getElem? (i := 399) (by decide +kernel), by decide +kernel⟩
theorem mc_L_areBlocksSo : Cond.code yL_areBlocksSo cL_areBlocksSo 6 (some .boolean) ∈ GW := List.mem_filter.mpr ⟨List.mem_of_getElem? (i := 407) (by decide +kernel), by decide +kernel⟩
theorem mt_L_areBlocksSo : Cond.static yL_areBlocksSo ∈ GW := List.mem_filter.mpr ⟨List.mem_of_getElem? (i := 406) (by decide +kernel), by decide +kernel⟩
theorem mc_L_areOwnersSo : Cond.code yL_areOwnersSo cL_areOwnersSo 6 (some .boolean) ∈ GW := List.mem_filter.mpr ⟨List.mem_of_getElem? (i := 418) (by decide +kernel), by decide +kernel⟩
theorem mt_L_areOwnersSo : Cond.static yL_areOwnersSo ∈ GW := List.mem_filter.mpr ⟨List.mem_of_getElem? (i := 417) (by decide +kernel), by decide +kernel⟩
theorem ob_i : Cond.instanceMethod objectInit ∈ GW := List.mem_filter.mpr ⟨List.mem_of_getElem? (i := 32) (by decide +kernel), by decide +kernel⟩
theorem ob_c : Cond.code objectInit ⟨#[0xb1]⟩ 1 none ∈ GW := List.mem_filter.mpr ⟨List.mem_of_getElem? (i := 33) (by decide +kernel), by decide +kernel⟩
theorem mm_t : Cond.static Lib.Math.min.name ∈ GW := List.mem_filter.mpr ⟨List.mem_of_getElem? (i := 277) (by decide +kernel), by decide +kernel⟩
theorem mm_c : Cond.code Lib.Math.min.name Lib.Math.min.code 2 (some .int) ∈ GW := List.mem_filter.mpr ⟨List.mem_of_getElem? (i := 278) (by decide +kernel), by decide +kernel⟩
