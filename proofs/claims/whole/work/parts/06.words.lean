theorem in_RX0 : ∀ w ∈ u_ws RX0 TX0 5, w ∈ GW := by
  intro w hw
  simp only [u_ws, List.mem_map, List.mem_range] at hw
  obtain ⟨k, hk, rfl⟩ := hw
  have h : ∀ k, k < 5 → u_lay RX0 TX0 k ∈ GW := by decide +kernel
  exact h k hk
theorem in_RX1 : ∀ w ∈ u_ws RX1 TX1 8, w ∈ GW := by
  intro w hw
  simp only [u_ws, List.mem_map, List.mem_range] at hw
  obtain ⟨k, hk, rfl⟩ := hw
  have h : ∀ k, k < 8 → u_lay RX1 TX1 k ∈ GW := by decide +kernel
  exact h k hk
theorem in_RX2 : ∀ w ∈ u_ws RX2 TX2 11, w ∈ GW := by
  intro w hw
  simp only [u_ws, List.mem_map, List.mem_range] at hw
  obtain ⟨k, hk, rfl⟩ := hw
  have h : ∀ k, k < 11 → u_lay RX2 TX2 k ∈ GW := by decide +kernel
  exact h k hk
theorem ini_PrefixYardLaw : Cond.initialized RL ∈ GW := List.mem_filter.mpr ⟨List.mem_of_getElem? (i := 33) (by decide +kernel), by decide +kernel⟩
theorem ini_PrefixYard : Cond.initialized RX1 ∈ GW := List.mem_filter.mpr ⟨List.mem_of_getElem? (i := 34) (by decide +kernel), by decide +kernel⟩
theorem ini_PrefixYard_Span : Cond.initialized RX0 ∈ GW := List.mem_filter.mpr ⟨List.mem_of_getElem? (i := 35) (by decide +kernel), by decide +kernel⟩
theorem ini_PrefixYardModel : Cond.initialized RX2 ∈ GW := List.mem_filter.mpr ⟨List.mem_of_getElem? (i := 36) (by decide +kernel), by decide +kernel⟩
theorem ini_java_lang_Throwable : Cond.initialized "java/lang/Throwable" ∈ GW := List.mem_filter.mpr ⟨List.mem_of_getElem? (i := 37) (by decide +kernel), by decide +kernel⟩
theorem ini_java_lang_Exception : Cond.initialized "java/lang/Exception" ∈ GW := List.mem_filter.mpr ⟨List.mem_of_getElem? (i := 38) (by decide +kernel), by decide +kernel⟩
theorem ini_java_lang_RuntimeException : Cond.initialized "java/lang/RuntimeException" ∈ GW := List.mem_filter.mpr ⟨List.mem_of_getElem? (i := 39) (by decide +kernel), by decide +kernel⟩
theorem ini_java_lang_IndexOutOfBoundsException : Cond.initialized "java/lang/IndexOutOfBoundsException" ∈ GW := List.mem_filter.mpr ⟨List.mem_of_getElem? (i := 40) (by decide +kernel), by decide +kernel⟩
theorem ini_java_lang_IllegalArgumentException : Cond.initialized "java/lang/IllegalArgumentException" ∈ GW := List.mem_filter.mpr ⟨List.mem_of_getElem? (i := 41) (by decide +kernel), by decide +kernel⟩
theorem ini_java_lang_IllegalStateException : Cond.initialized "java/lang/IllegalStateException" ∈ GW := List.mem_filter.mpr ⟨List.mem_of_getElem? (i := 42) (by decide +kernel), by decide +kernel⟩
theorem ini_java_lang_Math : Cond.initialized RJ9 ∈ GW := List.mem_filter.mpr ⟨List.mem_of_getElem? (i := 43) (by decide +kernel), by decide +kernel⟩
theorem cl_L_8 : Cond.classLink RL 8 RX1 ∈ GW := List.mem_filter.mpr ⟨List.mem_of_getElem? (i := 44) (by decide +kernel), by decide +kernel⟩
theorem ins_PrefixYard : Cond.instantiable RX1 8 ∈ GW := List.mem_filter.mpr ⟨List.mem_of_getElem? (i := 45) (by decide +kernel), by decide +kernel⟩
theorem ml_L_79 : Cond.methodLink RL 79 yX1_init ∈ GW := List.mem_filter.mpr ⟨List.mem_of_getElem? (i := 46) (by decide +kernel), by decide +kernel⟩
theorem ml_X1_1 : Cond.methodLink RX1 1 objectInit ∈ GW := List.mem_filter.mpr ⟨List.mem_of_getElem? (i := 49) (by decide +kernel), by decide +kernel⟩
theorem cl_X1_7 : Cond.classLink RX1 7 RX0 ∈ GW := List.mem_filter.mpr ⟨List.mem_of_getElem? (i := 52) (by decide +kernel), by decide +kernel⟩
theorem ins_PrefixYard_Span : Cond.instantiable RX0 5 ∈ GW := List.mem_filter.mpr ⟨List.mem_of_getElem? (i := 53) (by decide +kernel), by decide +kernel⟩
theorem ml_X1_11 : Cond.methodLink RX1 11 yX0_init ∈ GW := List.mem_filter.mpr ⟨List.mem_of_getElem? (i := 54) (by decide +kernel), by decide +kernel⟩
theorem ml_X0_1 : Cond.methodLink RX0 1 objectInit ∈ GW := List.mem_filter.mpr ⟨List.mem_of_getElem? (i := 57) (by decide +kernel), by decide +kernel⟩
theorem fl_X0_7 : Cond.fieldLink RX0 7 "PrefixYard$Span" "number" "I" ∈ GW := List.mem_filter.mpr ⟨List.mem_of_getElem? (i := 58) (by decide +kernel), by decide +kernel⟩
theorem fl_X1_154 : Cond.fieldLink RX1 154 "PrefixYard$Span" "number" "I" ∈ GW := List.mem_filter.mpr ⟨List.mem_of_getElem? (i := 59) (by decide +kernel), by decide +kernel⟩
theorem fl_X0_13 : Cond.fieldLink RX0 13 "PrefixYard$Span" "parent" "LPrefixYard$Span;" ∈ GW := List.mem_filter.mpr ⟨List.mem_of_getElem? (i := 60) (by decide +kernel), by decide +kernel⟩
theorem fl_X1_94 : Cond.fieldLink RX1 94 "PrefixYard$Span" "parent" "LPrefixYard$Span;" ∈ GW := List.mem_filter.mpr ⟨List.mem_of_getElem? (i := 61) (by decide +kernel), by decide +kernel⟩
theorem fl_X0_17 : Cond.fieldLink RX0 17 "PrefixYard$Span" "base" "I" ∈ GW := List.mem_filter.mpr ⟨List.mem_of_getElem? (i := 62) (by decide +kernel), by decide +kernel⟩
theorem fl_X1_101 : Cond.fieldLink RX1 101 "PrefixYard$Span" "base" "I" ∈ GW := List.mem_filter.mpr ⟨List.mem_of_getElem? (i := 63) (by decide +kernel), by decide +kernel⟩
theorem fl_X0_20 : Cond.fieldLink RX0 20 "PrefixYard$Span" "size" "I" ∈ GW := List.mem_filter.mpr ⟨List.mem_of_getElem? (i := 64) (by decide +kernel), by decide +kernel⟩
theorem fl_X1_114 : Cond.fieldLink RX1 114 "PrefixYard$Span" "size" "I" ∈ GW := List.mem_filter.mpr ⟨List.mem_of_getElem? (i := 65) (by decide +kernel), by decide +kernel⟩
theorem fl_X0_23 : Cond.fieldLink RX0 23 "PrefixYard$Span" "owner" "I" ∈ GW := List.mem_filter.mpr ⟨List.mem_of_getElem? (i := 66) (by decide +kernel), by decide +kernel⟩
theorem fl_X1_125 : Cond.fieldLink RX1 125 "PrefixYard$Span" "owner" "I" ∈ GW := List.mem_filter.mpr ⟨List.mem_of_getElem? (i := 67) (by decide +kernel), by decide +kernel⟩
theorem fl_X1_14 : Cond.fieldLink RX1 14 "PrefixYard" "whole" "LPrefixYard$Span;" ∈ GW := List.mem_filter.mpr ⟨List.mem_of_getElem? (i := 80) (by decide +kernel), by decide +kernel⟩
theorem fl_X1_18 : Cond.fieldLink RX1 18 "PrefixYard" "made" "[LPrefixYard$Span;" ∈ GW := List.mem_filter.mpr ⟨List.mem_of_getElem? (i := 81) (by decide +kernel), by decide +kernel⟩
theorem fl_X1_22 : Cond.fieldLink RX1 22 "PrefixYard" "madeCount" "I" ∈ GW := List.mem_filter.mpr ⟨List.mem_of_getElem? (i := 82) (by decide +kernel), by decide +kernel⟩
theorem fl_X1_26 : Cond.fieldLink RX1 26 "PrefixYard" "freeFrom" "[I" ∈ GW := List.mem_filter.mpr ⟨List.mem_of_getElem? (i := 83) (by decide +kernel), by decide +kernel⟩
theorem fl_X1_30 : Cond.fieldLink RX1 30 "PrefixYard" "lentCount" "I" ∈ GW := List.mem_filter.mpr ⟨List.mem_of_getElem? (i := 84) (by decide +kernel), by decide +kernel⟩
theorem fl_X1_33 : Cond.fieldLink RX1 33 "PrefixYard" "today" "I" ∈ GW := List.mem_filter.mpr ⟨List.mem_of_getElem? (i := 85) (by decide +kernel), by decide +kernel⟩
theorem fl_X1_36 : Cond.fieldLink RX1 36 "PrefixYard" "row" "[I" ∈ GW := List.mem_filter.mpr ⟨List.mem_of_getElem? (i := 86) (by decide +kernel), by decide +kernel⟩
theorem fl_X1_39 : Cond.fieldLink RX1 39 "PrefixYard" "rowStands" "Z" ∈ GW := List.mem_filter.mpr ⟨List.mem_of_getElem? (i := 87) (by decide +kernel), by decide +kernel⟩
theorem ml_L_119 : Cond.methodLink RL 119 yX1_day ∈ GW := List.mem_filter.mpr ⟨List.mem_of_getElem? (i := 106) (by decide +kernel), by decide +kernel⟩
theorem ml_L_123 : Cond.methodLink RL 123 yX1_spans ∈ GW := List.mem_filter.mpr ⟨List.mem_of_getElem? (i := 110) (by decide +kernel), by decide +kernel⟩
theorem ml_L_127 : Cond.methodLink RL 127 yX1_isThere ∈ GW := List.mem_filter.mpr ⟨List.mem_of_getElem? (i := 114) (by decide +kernel), by decide +kernel⟩
theorem ml_X1_151 : Cond.methodLink RX1 151 yX1_findSpan ∈ GW := List.mem_filter.mpr ⟨List.mem_of_getElem? (i := 118) (by decide +kernel), by decide +kernel⟩
theorem ml_L_149 : Cond.methodLink RL 149 yX1_lent ∈ GW := List.mem_filter.mpr ⟨List.mem_of_getElem? (i := 122) (by decide +kernel), by decide +kernel⟩
theorem ml_L_83 : Cond.methodLink RL 83 yL_carve ∈ GW := List.mem_filter.mpr ⟨List.mem_of_getElem? (i := 126) (by decide +kernel), by decide +kernel⟩
theorem cl_L_13 : Cond.classLink RL 13 "java/lang/IndexOutOfBoundsException" ∈ GW := List.mem_filter.mpr ⟨List.mem_of_getElem? (i := 129) (by decide +kernel), by decide +kernel⟩
theorem cl_L_15 : Cond.classLink RL 15 "java/lang/IllegalArgumentException" ∈ GW := List.mem_filter.mpr ⟨List.mem_of_getElem? (i := 130) (by decide +kernel), by decide +kernel⟩
theorem cl_L_17 : Cond.classLink RL 17 "java/lang/IllegalStateException" ∈ GW := List.mem_filter.mpr ⟨List.mem_of_getElem? (i := 131) (by decide +kernel), by decide +kernel⟩
theorem ml_L_7 : Cond.methodLink RL 7 yX1_carve ∈ GW := List.mem_filter.mpr ⟨List.mem_of_getElem? (i := 132) (by decide +kernel), by decide +kernel⟩
theorem ml_X1_43 : Cond.methodLink RX1 43 yX1_spanOf ∈ GW := List.mem_filter.mpr ⟨List.mem_of_getElem? (i := 136) (by decide +kernel), by decide +kernel⟩
theorem cl_X1_178 : Cond.classLink RX1 178 "java/lang/IndexOutOfBoundsException" ∈ GW := List.mem_filter.mpr ⟨List.mem_of_getElem? (i := 140) (by decide +kernel), by decide +kernel⟩
theorem ins_java_lang_IndexOutOfBoundsException : Cond.instantiable "java/lang/IndexOutOfBoundsException" 6 ∈ GW := List.mem_filter.mpr ⟨List.mem_of_getElem? (i := 141) (by decide +kernel), by decide +kernel⟩
theorem ins_java_lang_Throwable : Cond.instantiable "java/lang/Throwable" 6 ∈ GW := List.mem_filter.mpr ⟨List.mem_of_getElem? (i := 179) (by decide +kernel), by decide +kernel⟩
theorem ml_X1_47 : Cond.methodLink RX1 47 yX1_checkSize ∈ GW := List.mem_filter.mpr ⟨List.mem_of_getElem? (i := 208) (by decide +kernel), by decide +kernel⟩
theorem cl_X1_54 : Cond.classLink RX1 54 "java/lang/IllegalArgumentException" ∈ GW := List.mem_filter.mpr ⟨List.mem_of_getElem? (i := 211) (by decide +kernel), by decide +kernel⟩
theorem ins_java_lang_IllegalArgumentException : Cond.instantiable "java/lang/IllegalArgumentException" 6 ∈ GW := List.mem_filter.mpr ⟨List.mem_of_getElem? (i := 212) (by decide +kernel), by decide +kernel⟩
theorem ml_X1_51 : Cond.methodLink RX1 51 yX1_checkOwner ∈ GW := List.mem_filter.mpr ⟨List.mem_of_getElem? (i := 227) (by decide +kernel), by decide +kernel⟩
theorem ml_X1_61 : Cond.methodLink RX1 61 yX1_checkCarving ∈ GW := List.mem_filter.mpr ⟨List.mem_of_getElem? (i := 232) (by decide +kernel), by decide +kernel⟩
theorem ml_X1_160 : Cond.methodLink RX1 160 yX1_lentInItself ∈ GW := List.mem_filter.mpr ⟨List.mem_of_getElem? (i := 236) (by decide +kernel), by decide +kernel⟩
theorem ml_X1_97 : Cond.methodLink RX1 97 yX1_hasChildren ∈ GW := List.mem_filter.mpr ⟨List.mem_of_getElem? (i := 240) (by decide +kernel), by decide +kernel⟩
theorem ml_X1_88 : Cond.methodLink RX1 88 yX1_countChildren ∈ GW := List.mem_filter.mpr ⟨List.mem_of_getElem? (i := 244) (by decide +kernel), by decide +kernel⟩
theorem ml_X1_193 : Cond.methodLink RX1 193 yX0_meets ∈ GW := List.mem_filter.mpr ⟨List.mem_of_getElem? (i := 248) (by decide +kernel), by decide +kernel⟩
theorem ml_X0_26 : Cond.methodLink RX0 26 yX0_end ∈ GW := List.mem_filter.mpr ⟨List.mem_of_getElem? (i := 252) (by decide +kernel), by decide +kernel⟩
theorem ml_X1_104 : Cond.methodLink RX1 104 yX0_end ∈ GW := List.mem_filter.mpr ⟨List.mem_of_getElem? (i := 256) (by decide +kernel), by decide +kernel⟩
theorem ml_X1_108 : Cond.methodLink RX1 108 yX1_countLent ∈ GW := List.mem_filter.mpr ⟨List.mem_of_getElem? (i := 257) (by decide +kernel), by decide +kernel⟩
theorem ml_X1_136 : Cond.methodLink RX1 136 yX1_isAddress ∈ GW := List.mem_filter.mpr ⟨List.mem_of_getElem? (i := 261) (by decide +kernel), by decide +kernel⟩
theorem cl_X1_69 : Cond.classLink RX1 69 "java/lang/IllegalStateException" ∈ GW := List.mem_filter.mpr ⟨List.mem_of_getElem? (i := 264) (by decide +kernel), by decide +kernel⟩
theorem ins_java_lang_IllegalStateException : Cond.instantiable "java/lang/IllegalStateException" 6 ∈ GW := List.mem_filter.mpr ⟨List.mem_of_getElem? (i := 265) (by decide +kernel), by decide +kernel⟩
theorem ml_X1_65 : Cond.methodLink RX1 65 yX1_chosenBlock ∈ GW := List.mem_filter.mpr ⟨List.mem_of_getElem? (i := 280) (by decide +kernel), by decide +kernel⟩
theorem ml_X1_168 : Cond.methodLink RX1 168 yX1_childAt ∈ GW := List.mem_filter.mpr ⟨List.mem_of_getElem? (i := 284) (by decide +kernel), by decide +kernel⟩
theorem ml_X1_84 : Cond.methodLink RX1 84 yX0_has ∈ GW := List.mem_filter.mpr ⟨List.mem_of_getElem? (i := 288) (by decide +kernel), by decide +kernel⟩
theorem ml_X1_74 : Cond.methodLink RX1 74 yX1_roomAt ∈ GW := List.mem_filter.mpr ⟨List.mem_of_getElem? (i := 292) (by decide +kernel), by decide +kernel⟩
theorem ml_X1_163 : Cond.methodLink RX1 163 yJ9_min_7cf53 ∈ GW := List.mem_filter.mpr ⟨List.mem_of_getElem? (i := 296) (by decide +kernel), by decide +kernel⟩
theorem ml_X1_197 : Cond.methodLink RX1 197 yX1_greatestBlock ∈ GW := List.mem_filter.mpr ⟨List.mem_of_getElem? (i := 299) (by decide +kernel), by decide +kernel⟩
theorem ml_X1_78 : Cond.methodLink RX1 78 yX1_makeSpan ∈ GW := List.mem_filter.mpr ⟨List.mem_of_getElem? (i := 303) (by decide +kernel), by decide +kernel⟩
theorem ml_L_93 : Cond.methodLink RL 93 yL_carveAt ∈ GW := List.mem_filter.mpr ⟨List.mem_of_getElem? (i := 308) (by decide +kernel), by decide +kernel⟩
theorem ml_L_19 : Cond.methodLink RL 19 yX1_carveAt ∈ GW := List.mem_filter.mpr ⟨List.mem_of_getElem? (i := 311) (by decide +kernel), by decide +kernel⟩
theorem ml_L_96 : Cond.methodLink RL 96 yL_remove ∈ GW := List.mem_filter.mpr ⟨List.mem_of_getElem? (i := 317) (by decide +kernel), by decide +kernel⟩
theorem ml_L_22 : Cond.methodLink RL 22 yX1_remove ∈ GW := List.mem_filter.mpr ⟨List.mem_of_getElem? (i := 320) (by decide +kernel), by decide +kernel⟩
theorem ml_L_100 : Cond.methodLink RL 100 yL_grow ∈ GW := List.mem_filter.mpr ⟨List.mem_of_getElem? (i := 325) (by decide +kernel), by decide +kernel⟩
theorem ml_L_26 : Cond.methodLink RL 26 yX1_grow ∈ GW := List.mem_filter.mpr ⟨List.mem_of_getElem? (i := 328) (by decide +kernel), by decide +kernel⟩
theorem ml_L_103 : Cond.methodLink RL 103 yL_halve ∈ GW := List.mem_filter.mpr ⟨List.mem_of_getElem? (i := 334) (by decide +kernel), by decide +kernel⟩
theorem ml_L_29 : Cond.methodLink RL 29 yX1_halve ∈ GW := List.mem_filter.mpr ⟨List.mem_of_getElem? (i := 337) (by decide +kernel), by decide +kernel⟩
theorem ml_L_106 : Cond.methodLink RL 106 yL_setOwner ∈ GW := List.mem_filter.mpr ⟨List.mem_of_getElem? (i := 343) (by decide +kernel), by decide +kernel⟩
theorem ml_L_32 : Cond.methodLink RL 32 yX1_setOwner ∈ GW := List.mem_filter.mpr ⟨List.mem_of_getElem? (i := 346) (by decide +kernel), by decide +kernel⟩
theorem ml_L_110 : Cond.methodLink RL 110 yL_lend ∈ GW := List.mem_filter.mpr ⟨List.mem_of_getElem? (i := 350) (by decide +kernel), by decide +kernel⟩
theorem ml_L_36 : Cond.methodLink RL 36 yX1_lend ∈ GW := List.mem_filter.mpr ⟨List.mem_of_getElem? (i := 353) (by decide +kernel), by decide +kernel⟩
theorem ml_X1_132 : Cond.methodLink RX1 132 yX1_lowestFree ∈ GW := List.mem_filter.mpr ⟨List.mem_of_getElem? (i := 359) (by decide +kernel), by decide +kernel⟩
theorem ml_L_113 : Cond.methodLink RL 113 yL_takeBack ∈ GW := List.mem_filter.mpr ⟨List.mem_of_getElem? (i := 364) (by decide +kernel), by decide +kernel⟩
theorem ml_L_39 : Cond.methodLink RL 39 yX1_takeBack ∈ GW := List.mem_filter.mpr ⟨List.mem_of_getElem? (i := 367) (by decide +kernel), by decide +kernel⟩
theorem ml_X1_141 : Cond.methodLink RX1 141 yX1_checkAddress ∈ GW := List.mem_filter.mpr ⟨List.mem_of_getElem? (i := 371) (by decide +kernel), by decide +kernel⟩
theorem ml_L_116 : Cond.methodLink RL 116 yL_pass ∈ GW := List.mem_filter.mpr ⟨List.mem_of_getElem? (i := 376) (by decide +kernel), by decide +kernel⟩
theorem ml_L_42 : Cond.methodLink RL 42 yX1_pass ∈ GW := List.mem_filter.mpr ⟨List.mem_of_getElem? (i := 379) (by decide +kernel), by decide +kernel⟩
theorem ct_X1_148 : Cond.constant RX1 148 (100000) ∈ GW := List.mem_filter.mpr ⟨List.mem_of_getElem? (i := 384) (by decide +kernel), by decide +kernel⟩
theorem ml_L_131 : Cond.methodLink RL 131 yL_base ∈ GW := List.mem_filter.mpr ⟨List.mem_of_getElem? (i := 386) (by decide +kernel), by decide +kernel⟩
theorem ml_L_45 : Cond.methodLink RL 45 yX1_base ∈ GW := List.mem_filter.mpr ⟨List.mem_of_getElem? (i := 389) (by decide +kernel), by decide +kernel⟩
theorem ml_L_134 : Cond.methodLink RL 134 yL_size ∈ GW := List.mem_filter.mpr ⟨List.mem_of_getElem? (i := 393) (by decide +kernel), by decide +kernel⟩
theorem ml_L_48 : Cond.methodLink RL 48 yX1_size ∈ GW := List.mem_filter.mpr ⟨List.mem_of_getElem? (i := 396) (by decide +kernel), by decide +kernel⟩
theorem ml_L_137 : Cond.methodLink RL 137 yL_parent ∈ GW := List.mem_filter.mpr ⟨List.mem_of_getElem? (i := 400) (by decide +kernel), by decide +kernel⟩
theorem ml_L_51 : Cond.methodLink RL 51 yX1_parent ∈ GW := List.mem_filter.mpr ⟨List.mem_of_getElem? (i := 403) (by decide +kernel), by decide +kernel⟩
theorem ml_L_140 : Cond.methodLink RL 140 yL_free ∈ GW := List.mem_filter.mpr ⟨List.mem_of_getElem? (i := 407) (by decide +kernel), by decide +kernel⟩
theorem ml_L_54 : Cond.methodLink RL 54 yX1_free ∈ GW := List.mem_filter.mpr ⟨List.mem_of_getElem? (i := 410) (by decide +kernel), by decide +kernel⟩
theorem ml_X1_157 : Cond.methodLink RX1 157 yX1_outsideChildren ∈ GW := List.mem_filter.mpr ⟨List.mem_of_getElem? (i := 414) (by decide +kernel), by decide +kernel⟩
theorem ml_L_143 : Cond.methodLink RL 143 yL_greatestFree ∈ GW := List.mem_filter.mpr ⟨List.mem_of_getElem? (i := 418) (by decide +kernel), by decide +kernel⟩
theorem ml_L_57 : Cond.methodLink RL 57 yX1_greatestFree ∈ GW := List.mem_filter.mpr ⟨List.mem_of_getElem? (i := 421) (by decide +kernel), by decide +kernel⟩
theorem ml_L_146 : Cond.methodLink RL 146 yL_inTheWay ∈ GW := List.mem_filter.mpr ⟨List.mem_of_getElem? (i := 425) (by decide +kernel), by decide +kernel⟩
theorem ml_L_60 : Cond.methodLink RL 60 yX1_inTheWay ∈ GW := List.mem_filter.mpr ⟨List.mem_of_getElem? (i := 428) (by decide +kernel), by decide +kernel⟩
theorem ml_L_153 : Cond.methodLink RL 153 yL_isLent ∈ GW := List.mem_filter.mpr ⟨List.mem_of_getElem? (i := 432) (by decide +kernel), by decide +kernel⟩
theorem ml_L_63 : Cond.methodLink RL 63 yX1_isLent ∈ GW := List.mem_filter.mpr ⟨List.mem_of_getElem? (i := 435) (by decide +kernel), by decide +kernel⟩
theorem ml_L_156 : Cond.methodLink RL 156 yL_nearest ∈ GW := List.mem_filter.mpr ⟨List.mem_of_getElem? (i := 439) (by decide +kernel), by decide +kernel⟩
theorem ml_L_67 : Cond.methodLink RL 67 yX1_nearest ∈ GW := List.mem_filter.mpr ⟨List.mem_of_getElem? (i := 442) (by decide +kernel), by decide +kernel⟩
theorem ml_L_159 : Cond.methodLink RL 159 yL_nearestByRow ∈ GW := List.mem_filter.mpr ⟨List.mem_of_getElem? (i := 446) (by decide +kernel), by decide +kernel⟩
theorem ml_L_70 : Cond.methodLink RL 70 yX1_nearestByRow ∈ GW := List.mem_filter.mpr ⟨List.mem_of_getElem? (i := 449) (by decide +kernel), by decide +kernel⟩
theorem ml_X1_172 : Cond.methodLink RX1 172 yX1_layRow ∈ GW := List.mem_filter.mpr ⟨List.mem_of_getElem? (i := 453) (by decide +kernel), by decide +kernel⟩
theorem ml_X1_200 : Cond.methodLink RX1 200 yX1_laySpan ∈ GW := List.mem_filter.mpr ⟨List.mem_of_getElem? (i := 457) (by decide +kernel), by decide +kernel⟩
theorem ml_L_162 : Cond.methodLink RL 162 yL_owned ∈ GW := List.mem_filter.mpr ⟨List.mem_of_getElem? (i := 461) (by decide +kernel), by decide +kernel⟩
theorem ml_L_73 : Cond.methodLink RL 73 yX1_owned ∈ GW := List.mem_filter.mpr ⟨List.mem_of_getElem? (i := 464) (by decide +kernel), by decide +kernel⟩
theorem ml_L_165 : Cond.methodLink RL 165 yL_blocks ∈ GW := List.mem_filter.mpr ⟨List.mem_of_getElem? (i := 468) (by decide +kernel), by decide +kernel⟩
theorem ml_L_76 : Cond.methodLink RL 76 yX1_blocks ∈ GW := List.mem_filter.mpr ⟨List.mem_of_getElem? (i := 471) (by decide +kernel), by decide +kernel⟩
theorem ml_X1_175 : Cond.methodLink RX1 175 yX1_countBlocks ∈ GW := List.mem_filter.mpr ⟨List.mem_of_getElem? (i := 475) (by decide +kernel), by decide +kernel⟩
theorem cl_L_80 : Cond.classLink RL 80 RX2 ∈ GW := List.mem_filter.mpr ⟨List.mem_of_getElem? (i := 478) (by decide +kernel), by decide +kernel⟩
theorem ins_PrefixYardModel : Cond.instantiable RX2 11 ∈ GW := List.mem_filter.mpr ⟨List.mem_of_getElem? (i := 479) (by decide +kernel), by decide +kernel⟩
theorem ml_L_82 : Cond.methodLink RL 82 yX2_init ∈ GW := List.mem_filter.mpr ⟨List.mem_of_getElem? (i := 480) (by decide +kernel), by decide +kernel⟩
theorem ml_X2_1 : Cond.methodLink RX2 1 objectInit ∈ GW := List.mem_filter.mpr ⟨List.mem_of_getElem? (i := 483) (by decide +kernel), by decide +kernel⟩
theorem fl_X2_36 : Cond.fieldLink RX2 36 "PrefixYardModel" "thrown" "I" ∈ GW := List.mem_filter.mpr ⟨List.mem_of_getElem? (i := 484) (by decide +kernel), by decide +kernel⟩
theorem fl_X2_7 : Cond.fieldLink RX2 7 "PrefixYardModel" "bases" "[I" ∈ GW := List.mem_filter.mpr ⟨List.mem_of_getElem? (i := 485) (by decide +kernel), by decide +kernel⟩
theorem fl_X2_13 : Cond.fieldLink RX2 13 "PrefixYardModel" "sizes" "[I" ∈ GW := List.mem_filter.mpr ⟨List.mem_of_getElem? (i := 486) (by decide +kernel), by decide +kernel⟩
theorem fl_X2_16 : Cond.fieldLink RX2 16 "PrefixYardModel" "parents" "[I" ∈ GW := List.mem_filter.mpr ⟨List.mem_of_getElem? (i := 487) (by decide +kernel), by decide +kernel⟩
theorem fl_X2_19 : Cond.fieldLink RX2 19 "PrefixYardModel" "owners" "[I" ∈ GW := List.mem_filter.mpr ⟨List.mem_of_getElem? (i := 488) (by decide +kernel), by decide +kernel⟩
theorem fl_X2_22 : Cond.fieldLink RX2 22 "PrefixYardModel" "isHere" "[Z" ∈ GW := List.mem_filter.mpr ⟨List.mem_of_getElem? (i := 489) (by decide +kernel), by decide +kernel⟩
theorem fl_X2_26 : Cond.fieldLink RX2 26 "PrefixYardModel" "made" "I" ∈ GW := List.mem_filter.mpr ⟨List.mem_of_getElem? (i := 490) (by decide +kernel), by decide +kernel⟩
theorem fl_X2_30 : Cond.fieldLink RX2 30 "PrefixYardModel" "ends" "[I" ∈ GW := List.mem_filter.mpr ⟨List.mem_of_getElem? (i := 491) (by decide +kernel), by decide +kernel⟩
theorem fl_X2_93 : Cond.fieldLink RX2 93 "PrefixYardModel" "lent" "I" ∈ GW := List.mem_filter.mpr ⟨List.mem_of_getElem? (i := 492) (by decide +kernel), by decide +kernel⟩
theorem fl_X2_100 : Cond.fieldLink RX2 100 "PrefixYardModel" "day" "I" ∈ GW := List.mem_filter.mpr ⟨List.mem_of_getElem? (i := 493) (by decide +kernel), by decide +kernel⟩
theorem fl_X2_33 : Cond.fieldLink RX2 33 "PrefixYardModel" "sums" "[I" ∈ GW := List.mem_filter.mpr ⟨List.mem_of_getElem? (i := 494) (by decide +kernel), by decide +kernel⟩
theorem ml_L_89 : Cond.methodLink RL 89 yX2_thrown ∈ GW := List.mem_filter.mpr ⟨List.mem_of_getElem? (i := 519) (by decide +kernel), by decide +kernel⟩
theorem ml_L_88 : Cond.methodLink RL 88 yX2_carve ∈ GW := List.mem_filter.mpr ⟨List.mem_of_getElem? (i := 523) (by decide +kernel), by decide +kernel⟩
theorem ml_X2_64 : Cond.methodLink RX2 64 yX2_isSize ∈ GW := List.mem_filter.mpr ⟨List.mem_of_getElem? (i := 527) (by decide +kernel), by decide +kernel⟩
theorem ml_X2_39 : Cond.methodLink RX2 39 yX2_in ∈ GW := List.mem_filter.mpr ⟨List.mem_of_getElem? (i := 530) (by decide +kernel), by decide +kernel⟩
theorem ml_X2_67 : Cond.methodLink RX2 67 yX2_isOwner ∈ GW := List.mem_filter.mpr ⟨List.mem_of_getElem? (i := 533) (by decide +kernel), by decide +kernel⟩
theorem ml_X2_70 : Cond.methodLink RX2 70 yX2_isSpan ∈ GW := List.mem_filter.mpr ⟨List.mem_of_getElem? (i := 536) (by decide +kernel), by decide +kernel⟩
theorem ml_X2_73 : Cond.methodLink RX2 73 yX2_isClosed ∈ GW := List.mem_filter.mpr ⟨List.mem_of_getElem? (i := 540) (by decide +kernel), by decide +kernel⟩
theorem ml_X2_56 : Cond.methodLink RX2 56 yX2_hasSpans ∈ GW := List.mem_filter.mpr ⟨List.mem_of_getElem? (i := 544) (by decide +kernel), by decide +kernel⟩
theorem ml_X2_46 : Cond.methodLink RX2 46 yX2_countIn ∈ GW := List.mem_filter.mpr ⟨List.mem_of_getElem? (i := 548) (by decide +kernel), by decide +kernel⟩
theorem ml_X2_60 : Cond.methodLink RX2 60 yX2_lentIn ∈ GW := List.mem_filter.mpr ⟨List.mem_of_getElem? (i := 552) (by decide +kernel), by decide +kernel⟩
theorem ml_X2_77 : Cond.methodLink RX2 77 yX2_find ∈ GW := List.mem_filter.mpr ⟨List.mem_of_getElem? (i := 556) (by decide +kernel), by decide +kernel⟩
theorem ml_X2_53 : Cond.methodLink RX2 53 yX2_isWhole ∈ GW := List.mem_filter.mpr ⟨List.mem_of_getElem? (i := 560) (by decide +kernel), by decide +kernel⟩
theorem ml_X2_50 : Cond.methodLink RX2 50 yX2_isFree ∈ GW := List.mem_filter.mpr ⟨List.mem_of_getElem? (i := 564) (by decide +kernel), by decide +kernel⟩
theorem ml_X2_43 : Cond.methodLink RX2 43 yX2_liesIn ∈ GW := List.mem_filter.mpr ⟨List.mem_of_getElem? (i := 568) (by decide +kernel), by decide +kernel⟩
theorem ml_X2_81 : Cond.methodLink RX2 81 yX2_goesWell ∈ GW := List.mem_filter.mpr ⟨List.mem_of_getElem? (i := 572) (by decide +kernel), by decide +kernel⟩
theorem ml_X2_84 : Cond.methodLink RX2 84 yX2_make ∈ GW := List.mem_filter.mpr ⟨List.mem_of_getElem? (i := 576) (by decide +kernel), by decide +kernel⟩
theorem ml_L_95 : Cond.methodLink RL 95 yX2_carveAt ∈ GW := List.mem_filter.mpr ⟨List.mem_of_getElem? (i := 580) (by decide +kernel), by decide +kernel⟩
theorem ml_L_99 : Cond.methodLink RL 99 yX2_remove ∈ GW := List.mem_filter.mpr ⟨List.mem_of_getElem? (i := 584) (by decide +kernel), by decide +kernel⟩
theorem ml_L_102 : Cond.methodLink RL 102 yX2_grow ∈ GW := List.mem_filter.mpr ⟨List.mem_of_getElem? (i := 588) (by decide +kernel), by decide +kernel⟩
theorem ml_X2_87 : Cond.methodLink RX2 87 yX2_canGrow ∈ GW := List.mem_filter.mpr ⟨List.mem_of_getElem? (i := 592) (by decide +kernel), by decide +kernel⟩
theorem ml_L_105 : Cond.methodLink RL 105 yX2_halve ∈ GW := List.mem_filter.mpr ⟨List.mem_of_getElem? (i := 596) (by decide +kernel), by decide +kernel⟩
theorem ml_X2_90 : Cond.methodLink RX2 90 yX2_canHalve ∈ GW := List.mem_filter.mpr ⟨List.mem_of_getElem? (i := 600) (by decide +kernel), by decide +kernel⟩
theorem ml_L_109 : Cond.methodLink RL 109 yX2_setOwner ∈ GW := List.mem_filter.mpr ⟨List.mem_of_getElem? (i := 604) (by decide +kernel), by decide +kernel⟩
theorem ml_L_112 : Cond.methodLink RL 112 yX2_lend ∈ GW := List.mem_filter.mpr ⟨List.mem_of_getElem? (i := 608) (by decide +kernel), by decide +kernel⟩
theorem ml_X2_96 : Cond.methodLink RX2 96 yX2_lowestFree ∈ GW := List.mem_filter.mpr ⟨List.mem_of_getElem? (i := 612) (by decide +kernel), by decide +kernel⟩
theorem ml_L_115 : Cond.methodLink RL 115 yX2_takeBack ∈ GW := List.mem_filter.mpr ⟨List.mem_of_getElem? (i := 616) (by decide +kernel), by decide +kernel⟩
theorem ml_X2_103 : Cond.methodLink RX2 103 yX2_isAddress ∈ GW := List.mem_filter.mpr ⟨List.mem_of_getElem? (i := 620) (by decide +kernel), by decide +kernel⟩
theorem ml_L_118 : Cond.methodLink RL 118 yX2_pass ∈ GW := List.mem_filter.mpr ⟨List.mem_of_getElem? (i := 623) (by decide +kernel), by decide +kernel⟩
theorem ct_X2_106 : Cond.constant RX2 106 (100000) ∈ GW := List.mem_filter.mpr ⟨List.mem_of_getElem? (i := 627) (by decide +kernel), by decide +kernel⟩
theorem ml_L_122 : Cond.methodLink RL 122 yX2_day ∈ GW := List.mem_filter.mpr ⟨List.mem_of_getElem? (i := 628) (by decide +kernel), by decide +kernel⟩
theorem ml_L_126 : Cond.methodLink RL 126 yX2_spans ∈ GW := List.mem_filter.mpr ⟨List.mem_of_getElem? (i := 632) (by decide +kernel), by decide +kernel⟩
theorem ml_L_130 : Cond.methodLink RL 130 yX2_isThere ∈ GW := List.mem_filter.mpr ⟨List.mem_of_getElem? (i := 636) (by decide +kernel), by decide +kernel⟩
theorem ml_L_133 : Cond.methodLink RL 133 yX2_base ∈ GW := List.mem_filter.mpr ⟨List.mem_of_getElem? (i := 640) (by decide +kernel), by decide +kernel⟩
theorem ml_L_136 : Cond.methodLink RL 136 yX2_size ∈ GW := List.mem_filter.mpr ⟨List.mem_of_getElem? (i := 644) (by decide +kernel), by decide +kernel⟩
theorem ml_L_139 : Cond.methodLink RL 139 yX2_parent ∈ GW := List.mem_filter.mpr ⟨List.mem_of_getElem? (i := 648) (by decide +kernel), by decide +kernel⟩
theorem ml_L_142 : Cond.methodLink RL 142 yX2_free ∈ GW := List.mem_filter.mpr ⟨List.mem_of_getElem? (i := 652) (by decide +kernel), by decide +kernel⟩
theorem ml_L_145 : Cond.methodLink RL 145 yX2_greatestFree ∈ GW := List.mem_filter.mpr ⟨List.mem_of_getElem? (i := 656) (by decide +kernel), by decide +kernel⟩
theorem ml_L_148 : Cond.methodLink RL 148 yX2_inTheWay ∈ GW := List.mem_filter.mpr ⟨List.mem_of_getElem? (i := 660) (by decide +kernel), by decide +kernel⟩
theorem ml_L_152 : Cond.methodLink RL 152 yX2_lent ∈ GW := List.mem_filter.mpr ⟨List.mem_of_getElem? (i := 664) (by decide +kernel), by decide +kernel⟩
theorem ml_L_155 : Cond.methodLink RL 155 yX2_isLent ∈ GW := List.mem_filter.mpr ⟨List.mem_of_getElem? (i := 668) (by decide +kernel), by decide +kernel⟩
theorem ml_L_158 : Cond.methodLink RL 158 yX2_nearest ∈ GW := List.mem_filter.mpr ⟨List.mem_of_getElem? (i := 672) (by decide +kernel), by decide +kernel⟩
theorem ml_X2_107 : Cond.methodLink RX2 107 yX2_nearestByRow ∈ GW := List.mem_filter.mpr ⟨List.mem_of_getElem? (i := 676) (by decide +kernel), by decide +kernel⟩
theorem ml_X2_110 : Cond.methodLink RX2 110 yX2_nearestOf ∈ GW := List.mem_filter.mpr ⟨List.mem_of_getElem? (i := 680) (by decide +kernel), by decide +kernel⟩
theorem ml_L_161 : Cond.methodLink RL 161 yX2_nearestByRow ∈ GW := List.mem_filter.mpr ⟨List.mem_of_getElem? (i := 684) (by decide +kernel), by decide +kernel⟩
theorem ml_L_164 : Cond.methodLink RL 164 yX2_owned ∈ GW := List.mem_filter.mpr ⟨List.mem_of_getElem? (i := 685) (by decide +kernel), by decide +kernel⟩
theorem ml_X2_113 : Cond.methodLink RX2 113 yX2_layOwner ∈ GW := List.mem_filter.mpr ⟨List.mem_of_getElem? (i := 689) (by decide +kernel), by decide +kernel⟩
theorem ml_L_167 : Cond.methodLink RL 167 yX2_blocks ∈ GW := List.mem_filter.mpr ⟨List.mem_of_getElem? (i := 693) (by decide +kernel), by decide +kernel⟩
theorem ml_X2_117 : Cond.methodLink RX2 117 yX2_isAll ∈ GW := List.mem_filter.mpr ⟨List.mem_of_getElem? (i := 697) (by decide +kernel), by decide +kernel⟩
theorem mc_X0_init : Cond.code yX0_init cX0_init 6 none ∈ GW := List.mem_filter.mpr ⟨List.mem_of_getElem? (i := 56) (by decide +kernel), by decide +kernel⟩
theorem mi_X0_init : Cond.instanceMethod yX0_init ∈ GW := List.mem_filter.mpr ⟨List.mem_of_getElem? (i := 55) (by decide +kernel), by decide +kernel⟩
theorem mc_X0_end : Cond.code yX0_end cX0_end 1 (some .int) ∈ GW := List.mem_filter.mpr ⟨List.mem_of_getElem? (i := 255) (by decide +kernel), by decide +kernel⟩
theorem mi_X0_end : Cond.instanceMethod yX0_end ∈ GW := List.mem_filter.mpr ⟨List.mem_of_getElem? (i := 253) (by decide +kernel), by decide +kernel⟩
theorem ms_X0_end : Cond.selects RX0 yX0_end yX0_end ∈ GW := List.mem_filter.mpr ⟨List.mem_of_getElem? (i := 254) (by decide +kernel), by decide +kernel⟩
theorem mc_X0_has : Cond.code yX0_has cX0_has 2 (some .boolean) ∈ GW := List.mem_filter.mpr ⟨List.mem_of_getElem? (i := 291) (by decide +kernel), by decide +kernel⟩
theorem mi_X0_has : Cond.instanceMethod yX0_has ∈ GW := List.mem_filter.mpr ⟨List.mem_of_getElem? (i := 289) (by decide +kernel), by decide +kernel⟩
theorem ms_X0_has : Cond.selects RX0 yX0_has yX0_has ∈ GW := List.mem_filter.mpr ⟨List.mem_of_getElem? (i := 290) (by decide +kernel), by decide +kernel⟩
theorem mc_X0_meets : Cond.code yX0_meets cX0_meets 3 (some .boolean) ∈ GW := List.mem_filter.mpr ⟨List.mem_of_getElem? (i := 251) (by decide +kernel), by decide +kernel⟩
theorem mi_X0_meets : Cond.instanceMethod yX0_meets ∈ GW := List.mem_filter.mpr ⟨List.mem_of_getElem? (i := 249) (by decide +kernel), by decide +kernel⟩
theorem ms_X0_meets : Cond.selects RX0 yX0_meets yX0_meets ∈ GW := List.mem_filter.mpr ⟨List.mem_of_getElem? (i := 250) (by decide +kernel), by decide +kernel⟩
theorem mc_X1_init : Cond.code yX1_init cX1_init 1 none ∈ GW := List.mem_filter.mpr ⟨List.mem_of_getElem? (i := 48) (by decide +kernel), by decide +kernel⟩
theorem mi_X1_init : Cond.instanceMethod yX1_init ∈ GW := List.mem_filter.mpr ⟨List.mem_of_getElem? (i := 47) (by decide +kernel), by decide +kernel⟩
theorem mc_X1_carve : Cond.code yX1_carve cX1_carve 9 (some .int) ∈ GW := List.mem_filter.mpr ⟨List.mem_of_getElem? (i := 135) (by decide +kernel), by decide +kernel⟩
theorem mi_X1_carve : Cond.instanceMethod yX1_carve ∈ GW := List.mem_filter.mpr ⟨List.mem_of_getElem? (i := 133) (by decide +kernel), by decide +kernel⟩
theorem ms_X1_carve : Cond.selects RX1 yX1_carve yX1_carve ∈ GW := List.mem_filter.mpr ⟨List.mem_of_getElem? (i := 134) (by decide +kernel), by decide +kernel⟩
theorem mc_X1_carveAt : Cond.code yX1_carveAt cX1_carveAt 6 (some .int) ∈ GW := List.mem_filter.mpr ⟨List.mem_of_getElem? (i := 314) (by decide +kernel), by decide +kernel⟩
theorem mi_X1_carveAt : Cond.instanceMethod yX1_carveAt ∈ GW := List.mem_filter.mpr ⟨List.mem_of_getElem? (i := 312) (by decide +kernel), by decide +kernel⟩
theorem ms_X1_carveAt : Cond.selects RX1 yX1_carveAt yX1_carveAt ∈ GW := List.mem_filter.mpr ⟨List.mem_of_getElem? (i := 313) (by decide +kernel), by decide +kernel⟩
theorem mc_X1_remove : Cond.code yX1_remove cX1_remove 3 (some .int) ∈ GW := List.mem_filter.mpr ⟨List.mem_of_getElem? (i := 323) (by decide +kernel), by decide +kernel⟩
theorem mi_X1_remove : Cond.instanceMethod yX1_remove ∈ GW := List.mem_filter.mpr ⟨List.mem_of_getElem? (i := 321) (by decide +kernel), by decide +kernel⟩
theorem ms_X1_remove : Cond.selects RX1 yX1_remove yX1_remove ∈ GW := List.mem_filter.mpr ⟨List.mem_of_getElem? (i := 322) (by decide +kernel), by decide +kernel⟩
theorem mc_X1_grow : Cond.code yX1_grow cX1_grow 6 (some .int) ∈ GW := List.mem_filter.mpr ⟨List.mem_of_getElem? (i := 331) (by decide +kernel), by decide +kernel⟩
theorem mi_X1_grow : Cond.instanceMethod yX1_grow ∈ GW := List.mem_filter.mpr ⟨List.mem_of_getElem? (i := 329) (by decide +kernel), by decide +kernel⟩
theorem ms_X1_grow : Cond.selects RX1 yX1_grow yX1_grow ∈ GW := List.mem_filter.mpr ⟨List.mem_of_getElem? (i := 330) (by decide +kernel), by decide +kernel⟩
theorem mc_X1_halve : Cond.code yX1_halve cX1_halve 5 (some .int) ∈ GW := List.mem_filter.mpr ⟨List.mem_of_getElem? (i := 340) (by decide +kernel), by decide +kernel⟩
theorem mi_X1_halve : Cond.instanceMethod yX1_halve ∈ GW := List.mem_filter.mpr ⟨List.mem_of_getElem? (i := 338) (by decide +kernel), by decide +kernel⟩
theorem ms_X1_halve : Cond.selects RX1 yX1_halve yX1_halve ∈ GW := List.mem_filter.mpr ⟨List.mem_of_getElem? (i := 339) (by decide +kernel), by decide +kernel⟩
theorem mc_X1_setOwner : Cond.code yX1_setOwner cX1_setOwner 5 (some .int) ∈ GW := List.mem_filter.mpr ⟨List.mem_of_getElem? (i := 349) (by decide +kernel), by decide +kernel⟩
theorem mi_X1_setOwner : Cond.instanceMethod yX1_setOwner ∈ GW := List.mem_filter.mpr ⟨List.mem_of_getElem? (i := 347) (by decide +kernel), by decide +kernel⟩
theorem ms_X1_setOwner : Cond.selects RX1 yX1_setOwner yX1_setOwner ∈ GW := List.mem_filter.mpr ⟨List.mem_of_getElem? (i := 348) (by decide +kernel), by decide +kernel⟩
theorem mc_X1_lend : Cond.code yX1_lend cX1_lend 5 (some .int) ∈ GW := List.mem_filter.mpr ⟨List.mem_of_getElem? (i := 356) (by decide +kernel), by decide +kernel⟩
theorem mi_X1_lend : Cond.instanceMethod yX1_lend ∈ GW := List.mem_filter.mpr ⟨List.mem_of_getElem? (i := 354) (by decide +kernel), by decide +kernel⟩
theorem ms_X1_lend : Cond.selects RX1 yX1_lend yX1_lend ∈ GW := List.mem_filter.mpr ⟨List.mem_of_getElem? (i := 355) (by decide +kernel), by decide +kernel⟩
theorem mc_X1_takeBack : Cond.code yX1_takeBack cX1_takeBack 3 (some .int) ∈ GW := List.mem_filter.mpr ⟨List.mem_of_getElem? (i := 370) (by decide +kernel), by decide +kernel⟩
theorem mi_X1_takeBack : Cond.instanceMethod yX1_takeBack ∈ GW := List.mem_filter.mpr ⟨List.mem_of_getElem? (i := 368) (by decide +kernel), by decide +kernel⟩
theorem ms_X1_takeBack : Cond.selects RX1 yX1_takeBack yX1_takeBack ∈ GW := List.mem_filter.mpr ⟨List.mem_of_getElem? (i := 369) (by decide +kernel), by decide +kernel⟩
theorem mc_X1_pass : Cond.code yX1_pass cX1_pass 5 (some .int) ∈ GW := List.mem_filter.mpr ⟨List.mem_of_getElem? (i := 382) (by decide +kernel), by decide +kernel⟩
theorem mi_X1_pass : Cond.instanceMethod yX1_pass ∈ GW := List.mem_filter.mpr ⟨List.mem_of_getElem? (i := 380) (by decide +kernel), by decide +kernel⟩
theorem ms_X1_pass : Cond.selects RX1 yX1_pass yX1_pass ∈ GW := List.mem_filter.mpr ⟨List.mem_of_getElem? (i := 381) (by decide +kernel), by decide +kernel⟩
theorem mc_X1_day : Cond.code yX1_day cX1_day 1 (some .int) ∈ GW := List.mem_filter.mpr ⟨List.mem_of_getElem? (i := 109) (by decide +kernel), by decide +kernel⟩
theorem mi_X1_day : Cond.instanceMethod yX1_day ∈ GW := List.mem_filter.mpr ⟨List.mem_of_getElem? (i := 107) (by decide +kernel), by decide +kernel⟩
theorem ms_X1_day : Cond.selects RX1 yX1_day yX1_day ∈ GW := List.mem_filter.mpr ⟨List.mem_of_getElem? (i := 108) (by decide +kernel), by decide +kernel⟩
theorem mc_X1_spans : Cond.code yX1_spans cX1_spans 6 (some .int) ∈ GW := List.mem_filter.mpr ⟨List.mem_of_getElem? (i := 113) (by decide +kernel), by decide +kernel⟩
theorem mi_X1_spans : Cond.instanceMethod yX1_spans ∈ GW := List.mem_filter.mpr ⟨List.mem_of_getElem? (i := 111) (by decide +kernel), by decide +kernel⟩
theorem ms_X1_spans : Cond.selects RX1 yX1_spans yX1_spans ∈ GW := List.mem_filter.mpr ⟨List.mem_of_getElem? (i := 112) (by decide +kernel), by decide +kernel⟩
theorem mc_X1_isThere : Cond.code yX1_isThere cX1_isThere 2 (some .boolean) ∈ GW := List.mem_filter.mpr ⟨List.mem_of_getElem? (i := 117) (by decide +kernel), by decide +kernel⟩
theorem mi_X1_isThere : Cond.instanceMethod yX1_isThere ∈ GW := List.mem_filter.mpr ⟨List.mem_of_getElem? (i := 115) (by decide +kernel), by decide +kernel⟩
theorem ms_X1_isThere : Cond.selects RX1 yX1_isThere yX1_isThere ∈ GW := List.mem_filter.mpr ⟨List.mem_of_getElem? (i := 116) (by decide +kernel), by decide +kernel⟩
theorem mc_X1_base : Cond.code yX1_base cX1_base 2 (some .int) ∈ GW := List.mem_filter.mpr ⟨List.mem_of_getElem? (i := 392) (by decide +kernel), by decide +kernel⟩
theorem mi_X1_base : Cond.instanceMethod yX1_base ∈ GW := List.mem_filter.mpr ⟨List.mem_of_getElem? (i := 390) (by decide +kernel), by decide +kernel⟩
theorem ms_X1_base : Cond.selects RX1 yX1_base yX1_base ∈ GW := List.mem_filter.mpr ⟨List.mem_of_getElem? (i := 391) (by decide +kernel), by decide +kernel⟩
theorem mc_X1_size : Cond.code yX1_size cX1_size 2 (some .int) ∈ GW := List.mem_filter.mpr ⟨List.mem_of_getElem? (i := 399) (by decide +kernel), by decide +kernel⟩
theorem mi_X1_size : Cond.instanceMethod yX1_size ∈ GW := List.mem_filter.mpr ⟨List.mem_of_getElem? (i := 397) (by decide +kernel), by decide +kernel⟩
theorem ms_X1_size : Cond.selects RX1 yX1_size yX1_size ∈ GW := List.mem_filter.mpr ⟨List.mem_of_getElem? (i := 398) (by decide +kernel), by decide +kernel⟩
theorem mc_X1_parent : Cond.code yX1_parent cX1_parent 3 (some .int) ∈ GW := List.mem_filter.mpr ⟨List.mem_of_getElem? (i := 406) (by decide +kernel), by decide +kernel⟩
theorem mi_X1_parent : Cond.instanceMethod yX1_parent ∈ GW := List.mem_filter.mpr ⟨List.mem_of_getElem? (i := 404) (by decide +kernel), by decide +kernel⟩
theorem ms_X1_parent : Cond.selects RX1 yX1_parent yX1_parent ∈ GW := List.mem_filter.mpr ⟨List.mem_of_getElem? (i := 405) (by decide +kernel), by decide +kernel⟩
theorem mc_X1_free : Cond.code yX1_free cX1_free 3 (some .int) ∈ GW := List.mem_filter.mpr ⟨List.mem_of_getElem? (i := 413) (by decide +kernel), by decide +kernel⟩
theorem mi_X1_free : Cond.instanceMethod yX1_free ∈ GW := List.mem_filter.mpr ⟨List.mem_of_getElem? (i := 411) (by decide +kernel), by decide +kernel⟩
theorem ms_X1_free : Cond.selects RX1 yX1_free yX1_free ∈ GW := List.mem_filter.mpr ⟨List.mem_of_getElem? (i := 412) (by decide +kernel), by decide +kernel⟩
theorem mc_X1_greatestFree : Cond.code yX1_greatestFree cX1_greatestFree 5 (some .int) ∈ GW := List.mem_filter.mpr ⟨List.mem_of_getElem? (i := 424) (by decide +kernel), by decide +kernel⟩
theorem mi_X1_greatestFree : Cond.instanceMethod yX1_greatestFree ∈ GW := List.mem_filter.mpr ⟨List.mem_of_getElem? (i := 422) (by decide +kernel), by decide +kernel⟩
theorem ms_X1_greatestFree : Cond.selects RX1 yX1_greatestFree yX1_greatestFree ∈ GW := List.mem_filter.mpr ⟨List.mem_of_getElem? (i := 423) (by decide +kernel), by decide +kernel⟩
theorem mc_X1_inTheWay : Cond.code yX1_inTheWay cX1_inTheWay 8 (some .int) ∈ GW := List.mem_filter.mpr ⟨List.mem_of_getElem? (i := 431) (by decide +kernel), by decide +kernel⟩
theorem mi_X1_inTheWay : Cond.instanceMethod yX1_inTheWay ∈ GW := List.mem_filter.mpr ⟨List.mem_of_getElem? (i := 429) (by decide +kernel), by decide +kernel⟩
theorem ms_X1_inTheWay : Cond.selects RX1 yX1_inTheWay yX1_inTheWay ∈ GW := List.mem_filter.mpr ⟨List.mem_of_getElem? (i := 430) (by decide +kernel), by decide +kernel⟩
theorem mc_X1_lent : Cond.code yX1_lent cX1_lent 1 (some .int) ∈ GW := List.mem_filter.mpr ⟨List.mem_of_getElem? (i := 125) (by decide +kernel), by decide +kernel⟩
theorem mi_X1_lent : Cond.instanceMethod yX1_lent ∈ GW := List.mem_filter.mpr ⟨List.mem_of_getElem? (i := 123) (by decide +kernel), by decide +kernel⟩
theorem ms_X1_lent : Cond.selects RX1 yX1_lent yX1_lent ∈ GW := List.mem_filter.mpr ⟨List.mem_of_getElem? (i := 124) (by decide +kernel), by decide +kernel⟩
theorem mc_X1_isLent : Cond.code yX1_isLent cX1_isLent 2 (some .boolean) ∈ GW := List.mem_filter.mpr ⟨List.mem_of_getElem? (i := 438) (by decide +kernel), by decide +kernel⟩
theorem mi_X1_isLent : Cond.instanceMethod yX1_isLent ∈ GW := List.mem_filter.mpr ⟨List.mem_of_getElem? (i := 436) (by decide +kernel), by decide +kernel⟩
theorem ms_X1_isLent : Cond.selects RX1 yX1_isLent yX1_isLent ∈ GW := List.mem_filter.mpr ⟨List.mem_of_getElem? (i := 437) (by decide +kernel), by decide +kernel⟩
theorem mc_X1_nearest : Cond.code yX1_nearest cX1_nearest 5 (some .int) ∈ GW := List.mem_filter.mpr ⟨List.mem_of_getElem? (i := 445) (by decide +kernel), by decide +kernel⟩
theorem mi_X1_nearest : Cond.instanceMethod yX1_nearest ∈ GW := List.mem_filter.mpr ⟨List.mem_of_getElem? (i := 443) (by decide +kernel), by decide +kernel⟩
theorem ms_X1_nearest : Cond.selects RX1 yX1_nearest yX1_nearest ∈ GW := List.mem_filter.mpr ⟨List.mem_of_getElem? (i := 444) (by decide +kernel), by decide +kernel⟩
theorem mc_X1_nearestByRow : Cond.code yX1_nearestByRow cX1_nearestByRow 2 (some .int) ∈ GW := List.mem_filter.mpr ⟨List.mem_of_getElem? (i := 452) (by decide +kernel), by decide +kernel⟩
theorem mi_X1_nearestByRow : Cond.instanceMethod yX1_nearestByRow ∈ GW := List.mem_filter.mpr ⟨List.mem_of_getElem? (i := 450) (by decide +kernel), by decide +kernel⟩
theorem ms_X1_nearestByRow : Cond.selects RX1 yX1_nearestByRow yX1_nearestByRow ∈ GW := List.mem_filter.mpr ⟨List.mem_of_getElem? (i := 451) (by decide +kernel), by decide +kernel⟩
theorem mc_X1_owned : Cond.code yX1_owned cX1_owned 7 (some .int) ∈ GW := List.mem_filter.mpr ⟨List.mem_of_getElem? (i := 467) (by decide +kernel), by decide +kernel⟩
theorem mi_X1_owned : Cond.instanceMethod yX1_owned ∈ GW := List.mem_filter.mpr ⟨List.mem_of_getElem? (i := 465) (by decide +kernel), by decide +kernel⟩
theorem ms_X1_owned : Cond.selects RX1 yX1_owned yX1_owned ∈ GW := List.mem_filter.mpr ⟨List.mem_of_getElem? (i := 466) (by decide +kernel), by decide +kernel⟩
theorem mc_X1_blocks : Cond.code yX1_blocks cX1_blocks 6 (some .int) ∈ GW := List.mem_filter.mpr ⟨List.mem_of_getElem? (i := 474) (by decide +kernel), by decide +kernel⟩
theorem mi_X1_blocks : Cond.instanceMethod yX1_blocks ∈ GW := List.mem_filter.mpr ⟨List.mem_of_getElem? (i := 472) (by decide +kernel), by decide +kernel⟩
theorem ms_X1_blocks : Cond.selects RX1 yX1_blocks yX1_blocks ∈ GW := List.mem_filter.mpr ⟨List.mem_of_getElem? (i := 473) (by decide +kernel), by decide +kernel⟩
theorem mc_X1_findSpan : Cond.code yX1_findSpan cX1_findSpan 2 (some (.object "PrefixYard$Span")) ∈ GW := List.mem_filter.mpr ⟨List.mem_of_getElem? (i := 121) (by decide +kernel), by decide +kernel⟩
theorem mi_X1_findSpan : Cond.instanceMethod yX1_findSpan ∈ GW := List.mem_filter.mpr ⟨List.mem_of_getElem? (i := 120) (by decide +kernel), by decide +kernel⟩
theorem ms_X1_findSpan : Cond.selects RX1 yX1_findSpan yX1_findSpan ∈ GW := List.mem_filter.mpr ⟨List.mem_of_getElem? (i := 0) (by decide +kernel), by decide +kernel⟩
theorem mc_X1_spanOf : Cond.code yX1_spanOf cX1_spanOf 3 (some (.object "PrefixYard$Span")) ∈ GW := List.mem_filter.mpr ⟨List.mem_of_getElem? (i := 139) (by decide +kernel), by decide +kernel⟩
theorem mi_X1_spanOf : Cond.instanceMethod yX1_spanOf ∈ GW := List.mem_filter.mpr ⟨List.mem_of_getElem? (i := 138) (by decide +kernel), by decide +kernel⟩
theorem ms_X1_spanOf : Cond.selects RX1 yX1_spanOf yX1_spanOf ∈ GW := List.mem_filter.mpr ⟨List.mem_of_getElem? (i := 1) (by decide +kernel), by decide +kernel⟩
theorem mc_X1_isAddress : Cond.code yX1_isAddress cX1_isAddress 1 (some .boolean) ∈ GW := List.mem_filter.mpr ⟨List.mem_of_getElem? (i := 263) (by decide +kernel), by decide +kernel⟩
theorem mt_X1_isAddress : Cond.static yX1_isAddress ∈ GW := List.mem_filter.mpr ⟨List.mem_of_getElem? (i := 262) (by decide +kernel), by decide +kernel⟩
theorem mc_X1_checkAddress : Cond.code yX1_checkAddress cX1_checkAddress 1 none ∈ GW := List.mem_filter.mpr ⟨List.mem_of_getElem? (i := 373) (by decide +kernel), by decide +kernel⟩
theorem mt_X1_checkAddress : Cond.static yX1_checkAddress ∈ GW := List.mem_filter.mpr ⟨List.mem_of_getElem? (i := 372) (by decide +kernel), by decide +kernel⟩
theorem mc_X1_checkSize : Cond.code yX1_checkSize cX1_checkSize 1 none ∈ GW := List.mem_filter.mpr ⟨List.mem_of_getElem? (i := 210) (by decide +kernel), by decide +kernel⟩
theorem mt_X1_checkSize : Cond.static yX1_checkSize ∈ GW := List.mem_filter.mpr ⟨List.mem_of_getElem? (i := 209) (by decide +kernel), by decide +kernel⟩
theorem mc_X1_checkOwner : Cond.code yX1_checkOwner cX1_checkOwner 1 none ∈ GW := List.mem_filter.mpr ⟨List.mem_of_getElem? (i := 229) (by decide +kernel), by decide +kernel⟩
theorem mt_X1_checkOwner : Cond.static yX1_checkOwner ∈ GW := List.mem_filter.mpr ⟨List.mem_of_getElem? (i := 228) (by decide +kernel), by decide +kernel⟩
theorem mc_X1_checkCarving : Cond.code yX1_checkCarving cX1_checkCarving 3 none ∈ GW := List.mem_filter.mpr ⟨List.mem_of_getElem? (i := 235) (by decide +kernel), by decide +kernel⟩
theorem mi_X1_checkCarving : Cond.instanceMethod yX1_checkCarving ∈ GW := List.mem_filter.mpr ⟨List.mem_of_getElem? (i := 234) (by decide +kernel), by decide +kernel⟩
theorem ms_X1_checkCarving : Cond.selects RX1 yX1_checkCarving yX1_checkCarving ∈ GW := List.mem_filter.mpr ⟨List.mem_of_getElem? (i := 3) (by decide +kernel), by decide +kernel⟩
theorem mc_X1_makeSpan : Cond.code yX1_makeSpan cX1_makeSpan 6 (some .int) ∈ GW := List.mem_filter.mpr ⟨List.mem_of_getElem? (i := 306) (by decide +kernel), by decide +kernel⟩
theorem mi_X1_makeSpan : Cond.instanceMethod yX1_makeSpan ∈ GW := List.mem_filter.mpr ⟨List.mem_of_getElem? (i := 305) (by decide +kernel), by decide +kernel⟩
theorem ms_X1_makeSpan : Cond.selects RX1 yX1_makeSpan yX1_makeSpan ∈ GW := List.mem_filter.mpr ⟨List.mem_of_getElem? (i := 11) (by decide +kernel), by decide +kernel⟩
theorem mc_X1_childAt : Cond.code yX1_childAt cX1_childAt 7 (some (.object "PrefixYard$Span")) ∈ GW := List.mem_filter.mpr ⟨List.mem_of_getElem? (i := 287) (by decide +kernel), by decide +kernel⟩
theorem mi_X1_childAt : Cond.instanceMethod yX1_childAt ∈ GW := List.mem_filter.mpr ⟨List.mem_of_getElem? (i := 286) (by decide +kernel), by decide +kernel⟩
theorem ms_X1_childAt : Cond.selects RX1 yX1_childAt yX1_childAt ∈ GW := List.mem_filter.mpr ⟨List.mem_of_getElem? (i := 9) (by decide +kernel), by decide +kernel⟩
theorem mc_X1_countChildren : Cond.code yX1_countChildren cX1_countChildren 9 (some .int) ∈ GW := List.mem_filter.mpr ⟨List.mem_of_getElem? (i := 247) (by decide +kernel), by decide +kernel⟩
theorem mi_X1_countChildren : Cond.instanceMethod yX1_countChildren ∈ GW := List.mem_filter.mpr ⟨List.mem_of_getElem? (i := 246) (by decide +kernel), by decide +kernel⟩
theorem ms_X1_countChildren : Cond.selects RX1 yX1_countChildren yX1_countChildren ∈ GW := List.mem_filter.mpr ⟨List.mem_of_getElem? (i := 6) (by decide +kernel), by decide +kernel⟩
theorem mc_X1_hasChildren : Cond.code yX1_hasChildren cX1_hasChildren 2 (some .boolean) ∈ GW := List.mem_filter.mpr ⟨List.mem_of_getElem? (i := 243) (by decide +kernel), by decide +kernel⟩
theorem mi_X1_hasChildren : Cond.instanceMethod yX1_hasChildren ∈ GW := List.mem_filter.mpr ⟨List.mem_of_getElem? (i := 242) (by decide +kernel), by decide +kernel⟩
theorem ms_X1_hasChildren : Cond.selects RX1 yX1_hasChildren yX1_hasChildren ∈ GW := List.mem_filter.mpr ⟨List.mem_of_getElem? (i := 5) (by decide +kernel), by decide +kernel⟩
theorem mc_X1_outsideChildren : Cond.code yX1_outsideChildren cX1_outsideChildren 7 (some .int) ∈ GW := List.mem_filter.mpr ⟨List.mem_of_getElem? (i := 417) (by decide +kernel), by decide +kernel⟩
theorem mi_X1_outsideChildren : Cond.instanceMethod yX1_outsideChildren ∈ GW := List.mem_filter.mpr ⟨List.mem_of_getElem? (i := 416) (by decide +kernel), by decide +kernel⟩
theorem ms_X1_outsideChildren : Cond.selects RX1 yX1_outsideChildren yX1_outsideChildren ∈ GW := List.mem_filter.mpr ⟨List.mem_of_getElem? (i := 13) (by decide +kernel), by decide +kernel⟩
theorem mc_X1_chosenBlock : Cond.code yX1_chosenBlock cX1_chosenBlock 11 (some .int) ∈ GW := List.mem_filter.mpr ⟨List.mem_of_getElem? (i := 283) (by decide +kernel), by decide +kernel⟩
theorem mi_X1_chosenBlock : Cond.instanceMethod yX1_chosenBlock ∈ GW := List.mem_filter.mpr ⟨List.mem_of_getElem? (i := 282) (by decide +kernel), by decide +kernel⟩
theorem ms_X1_chosenBlock : Cond.selects RX1 yX1_chosenBlock yX1_chosenBlock ∈ GW := List.mem_filter.mpr ⟨List.mem_of_getElem? (i := 8) (by decide +kernel), by decide +kernel⟩
theorem mc_X1_roomAt : Cond.code yX1_roomAt cX1_roomAt 8 (some .int) ∈ GW := List.mem_filter.mpr ⟨List.mem_of_getElem? (i := 295) (by decide +kernel), by decide +kernel⟩
theorem mi_X1_roomAt : Cond.instanceMethod yX1_roomAt ∈ GW := List.mem_filter.mpr ⟨List.mem_of_getElem? (i := 294) (by decide +kernel), by decide +kernel⟩
theorem ms_X1_roomAt : Cond.selects RX1 yX1_roomAt yX1_roomAt ∈ GW := List.mem_filter.mpr ⟨List.mem_of_getElem? (i := 10) (by decide +kernel), by decide +kernel⟩
theorem mc_X1_greatestBlock : Cond.code yX1_greatestBlock cX1_greatestBlock 4 (some .int) ∈ GW := List.mem_filter.mpr ⟨List.mem_of_getElem? (i := 301) (by decide +kernel), by decide +kernel⟩
theorem mt_X1_greatestBlock : Cond.static yX1_greatestBlock ∈ GW := List.mem_filter.mpr ⟨List.mem_of_getElem? (i := 300) (by decide +kernel), by decide +kernel⟩
theorem mc_X1_countBlocks : Cond.code yX1_countBlocks cX1_countBlocks 4 (some .int) ∈ GW := List.mem_filter.mpr ⟨List.mem_of_getElem? (i := 477) (by decide +kernel), by decide +kernel⟩
theorem mt_X1_countBlocks : Cond.static yX1_countBlocks ∈ GW := List.mem_filter.mpr ⟨List.mem_of_getElem? (i := 476) (by decide +kernel), by decide +kernel⟩
theorem mc_X1_countLent : Cond.code yX1_countLent cX1_countLent 5 (some .int) ∈ GW := List.mem_filter.mpr ⟨List.mem_of_getElem? (i := 260) (by decide +kernel), by decide +kernel⟩
theorem mi_X1_countLent : Cond.instanceMethod yX1_countLent ∈ GW := List.mem_filter.mpr ⟨List.mem_of_getElem? (i := 259) (by decide +kernel), by decide +kernel⟩
theorem ms_X1_countLent : Cond.selects RX1 yX1_countLent yX1_countLent ∈ GW := List.mem_filter.mpr ⟨List.mem_of_getElem? (i := 7) (by decide +kernel), by decide +kernel⟩
theorem mc_X1_lentInItself : Cond.code yX1_lentInItself cX1_lentInItself 2 (some .int) ∈ GW := List.mem_filter.mpr ⟨List.mem_of_getElem? (i := 239) (by decide +kernel), by decide +kernel⟩
theorem mi_X1_lentInItself : Cond.instanceMethod yX1_lentInItself ∈ GW := List.mem_filter.mpr ⟨List.mem_of_getElem? (i := 238) (by decide +kernel), by decide +kernel⟩
theorem ms_X1_lentInItself : Cond.selects RX1 yX1_lentInItself yX1_lentInItself ∈ GW := List.mem_filter.mpr ⟨List.mem_of_getElem? (i := 4) (by decide +kernel), by decide +kernel⟩
theorem mc_X1_lowestFree : Cond.code yX1_lowestFree cX1_lowestFree 3 (some .int) ∈ GW := List.mem_filter.mpr ⟨List.mem_of_getElem? (i := 362) (by decide +kernel), by decide +kernel⟩
theorem mi_X1_lowestFree : Cond.instanceMethod yX1_lowestFree ∈ GW := List.mem_filter.mpr ⟨List.mem_of_getElem? (i := 361) (by decide +kernel), by decide +kernel⟩
theorem ms_X1_lowestFree : Cond.selects RX1 yX1_lowestFree yX1_lowestFree ∈ GW := List.mem_filter.mpr ⟨List.mem_of_getElem? (i := 12) (by decide +kernel), by decide +kernel⟩
theorem mc_X1_layRow : Cond.code yX1_layRow cX1_layRow 6 none ∈ GW := List.mem_filter.mpr ⟨List.mem_of_getElem? (i := 456) (by decide +kernel), by decide +kernel⟩
theorem mi_X1_layRow : Cond.instanceMethod yX1_layRow ∈ GW := List.mem_filter.mpr ⟨List.mem_of_getElem? (i := 455) (by decide +kernel), by decide +kernel⟩
theorem ms_X1_layRow : Cond.selects RX1 yX1_layRow yX1_layRow ∈ GW := List.mem_filter.mpr ⟨List.mem_of_getElem? (i := 14) (by decide +kernel), by decide +kernel⟩
theorem mc_X1_laySpan : Cond.code yX1_laySpan cX1_laySpan 3 none ∈ GW := List.mem_filter.mpr ⟨List.mem_of_getElem? (i := 460) (by decide +kernel), by decide +kernel⟩
theorem mi_X1_laySpan : Cond.instanceMethod yX1_laySpan ∈ GW := List.mem_filter.mpr ⟨List.mem_of_getElem? (i := 459) (by decide +kernel), by decide +kernel⟩
theorem ms_X1_laySpan : Cond.selects RX1 yX1_laySpan yX1_laySpan ∈ GW := List.mem_filter.mpr ⟨List.mem_of_getElem? (i := 15) (by decide +kernel), by decide +kernel⟩
theorem mc_X2_init : Cond.code yX2_init cX2_init 1 none ∈ GW := List.mem_filter.mpr ⟨List.mem_of_getElem? (i := 482) (by decide +kernel), by decide +kernel⟩
theorem mi_X2_init : Cond.instanceMethod yX2_init ∈ GW := List.mem_filter.mpr ⟨List.mem_of_getElem? (i := 481) (by decide +kernel), by decide +kernel⟩
theorem mc_X2_thrown : Cond.code yX2_thrown cX2_thrown 1 (some .int) ∈ GW := List.mem_filter.mpr ⟨List.mem_of_getElem? (i := 522) (by decide +kernel), by decide +kernel⟩
theorem mi_X2_thrown : Cond.instanceMethod yX2_thrown ∈ GW := List.mem_filter.mpr ⟨List.mem_of_getElem? (i := 520) (by decide +kernel), by decide +kernel⟩
theorem ms_X2_thrown : Cond.selects RX2 yX2_thrown yX2_thrown ∈ GW := List.mem_filter.mpr ⟨List.mem_of_getElem? (i := 521) (by decide +kernel), by decide +kernel⟩
theorem mc_X2_goesWell : Cond.code yX2_goesWell cX2_goesWell 2 (some .boolean) ∈ GW := List.mem_filter.mpr ⟨List.mem_of_getElem? (i := 575) (by decide +kernel), by decide +kernel⟩
theorem mi_X2_goesWell : Cond.instanceMethod yX2_goesWell ∈ GW := List.mem_filter.mpr ⟨List.mem_of_getElem? (i := 574) (by decide +kernel), by decide +kernel⟩
theorem ms_X2_goesWell : Cond.selects RX2 yX2_goesWell yX2_goesWell ∈ GW := List.mem_filter.mpr ⟨List.mem_of_getElem? (i := 25) (by decide +kernel), by decide +kernel⟩
theorem mc_X2_in : Cond.code yX2_in cX2_in 3 (some .boolean) ∈ GW := List.mem_filter.mpr ⟨List.mem_of_getElem? (i := 532) (by decide +kernel), by decide +kernel⟩
theorem mt_X2_in : Cond.static yX2_in ∈ GW := List.mem_filter.mpr ⟨List.mem_of_getElem? (i := 531) (by decide +kernel), by decide +kernel⟩
theorem mc_X2_isSpan : Cond.code yX2_isSpan cX2_isSpan 2 (some .boolean) ∈ GW := List.mem_filter.mpr ⟨List.mem_of_getElem? (i := 539) (by decide +kernel), by decide +kernel⟩
theorem mi_X2_isSpan : Cond.instanceMethod yX2_isSpan ∈ GW := List.mem_filter.mpr ⟨List.mem_of_getElem? (i := 538) (by decide +kernel), by decide +kernel⟩
theorem ms_X2_isSpan : Cond.selects RX2 yX2_isSpan yX2_isSpan ∈ GW := List.mem_filter.mpr ⟨List.mem_of_getElem? (i := 16) (by decide +kernel), by decide +kernel⟩
theorem mc_X2_isSize : Cond.code yX2_isSize cX2_isSize 1 (some .boolean) ∈ GW := List.mem_filter.mpr ⟨List.mem_of_getElem? (i := 529) (by decide +kernel), by decide +kernel⟩
theorem mt_X2_isSize : Cond.static yX2_isSize ∈ GW := List.mem_filter.mpr ⟨List.mem_of_getElem? (i := 528) (by decide +kernel), by decide +kernel⟩
theorem mc_X2_isOwner : Cond.code yX2_isOwner cX2_isOwner 1 (some .boolean) ∈ GW := List.mem_filter.mpr ⟨List.mem_of_getElem? (i := 535) (by decide +kernel), by decide +kernel⟩
theorem mt_X2_isOwner : Cond.static yX2_isOwner ∈ GW := List.mem_filter.mpr ⟨List.mem_of_getElem? (i := 534) (by decide +kernel), by decide +kernel⟩
theorem mc_X2_isAddress : Cond.code yX2_isAddress cX2_isAddress 1 (some .boolean) ∈ GW := List.mem_filter.mpr ⟨List.mem_of_getElem? (i := 622) (by decide +kernel), by decide +kernel⟩
theorem mt_X2_isAddress : Cond.static yX2_isAddress ∈ GW := List.mem_filter.mpr ⟨List.mem_of_getElem? (i := 621) (by decide +kernel), by decide +kernel⟩
theorem mc_X2_countIn : Cond.code yX2_countIn cX2_countIn 8 (some .int) ∈ GW := List.mem_filter.mpr ⟨List.mem_of_getElem? (i := 551) (by decide +kernel), by decide +kernel⟩
theorem mi_X2_countIn : Cond.instanceMethod yX2_countIn ∈ GW := List.mem_filter.mpr ⟨List.mem_of_getElem? (i := 550) (by decide +kernel), by decide +kernel⟩
theorem ms_X2_countIn : Cond.selects RX2 yX2_countIn yX2_countIn ∈ GW := List.mem_filter.mpr ⟨List.mem_of_getElem? (i := 19) (by decide +kernel), by decide +kernel⟩
theorem mc_X2_liesIn : Cond.code yX2_liesIn cX2_liesIn 4 (some .boolean) ∈ GW := List.mem_filter.mpr ⟨List.mem_of_getElem? (i := 571) (by decide +kernel), by decide +kernel⟩
theorem mi_X2_liesIn : Cond.instanceMethod yX2_liesIn ∈ GW := List.mem_filter.mpr ⟨List.mem_of_getElem? (i := 570) (by decide +kernel), by decide +kernel⟩
theorem ms_X2_liesIn : Cond.selects RX2 yX2_liesIn yX2_liesIn ∈ GW := List.mem_filter.mpr ⟨List.mem_of_getElem? (i := 24) (by decide +kernel), by decide +kernel⟩
theorem mc_X2_isFree : Cond.code yX2_isFree cX2_isFree 4 (some .boolean) ∈ GW := List.mem_filter.mpr ⟨List.mem_of_getElem? (i := 567) (by decide +kernel), by decide +kernel⟩
theorem mi_X2_isFree : Cond.instanceMethod yX2_isFree ∈ GW := List.mem_filter.mpr ⟨List.mem_of_getElem? (i := 566) (by decide +kernel), by decide +kernel⟩
theorem ms_X2_isFree : Cond.selects RX2 yX2_isFree yX2_isFree ∈ GW := List.mem_filter.mpr ⟨List.mem_of_getElem? (i := 23) (by decide +kernel), by decide +kernel⟩
theorem mc_X2_isWhole : Cond.code yX2_isWhole cX2_isWhole 5 (some .boolean) ∈ GW := List.mem_filter.mpr ⟨List.mem_of_getElem? (i := 563) (by decide +kernel), by decide +kernel⟩
theorem mi_X2_isWhole : Cond.instanceMethod yX2_isWhole ∈ GW := List.mem_filter.mpr ⟨List.mem_of_getElem? (i := 562) (by decide +kernel), by decide +kernel⟩
theorem ms_X2_isWhole : Cond.selects RX2 yX2_isWhole yX2_isWhole ∈ GW := List.mem_filter.mpr ⟨List.mem_of_getElem? (i := 22) (by decide +kernel), by decide +kernel⟩
theorem mc_X2_find : Cond.code yX2_find cX2_find 9 (some .int) ∈ GW := List.mem_filter.mpr ⟨List.mem_of_getElem? (i := 559) (by decide +kernel), by decide +kernel⟩
theorem mi_X2_find : Cond.instanceMethod yX2_find ∈ GW := List.mem_filter.mpr ⟨List.mem_of_getElem? (i := 558) (by decide +kernel), by decide +kernel⟩
theorem ms_X2_find : Cond.selects RX2 yX2_find yX2_find ∈ GW := List.mem_filter.mpr ⟨List.mem_of_getElem? (i := 21) (by decide +kernel), by decide +kernel⟩
theorem mc_X2_lentIn : Cond.code yX2_lentIn cX2_lentIn 5 (some .int) ∈ GW := List.mem_filter.mpr ⟨List.mem_of_getElem? (i := 555) (by decide +kernel), by decide +kernel⟩
theorem mi_X2_lentIn : Cond.instanceMethod yX2_lentIn ∈ GW := List.mem_filter.mpr ⟨List.mem_of_getElem? (i := 554) (by decide +kernel), by decide +kernel⟩
theorem ms_X2_lentIn : Cond.selects RX2 yX2_lentIn yX2_lentIn ∈ GW := List.mem_filter.mpr ⟨List.mem_of_getElem? (i := 20) (by decide +kernel), by decide +kernel⟩
theorem mc_X2_hasSpans : Cond.code yX2_hasSpans cX2_hasSpans 2 (some .boolean) ∈ GW := List.mem_filter.mpr ⟨List.mem_of_getElem? (i := 547) (by decide +kernel), by decide +kernel⟩
theorem mi_X2_hasSpans : Cond.instanceMethod yX2_hasSpans ∈ GW := List.mem_filter.mpr ⟨List.mem_of_getElem? (i := 546) (by decide +kernel), by decide +kernel⟩
theorem ms_X2_hasSpans : Cond.selects RX2 yX2_hasSpans yX2_hasSpans ∈ GW := List.mem_filter.mpr ⟨List.mem_of_getElem? (i := 18) (by decide +kernel), by decide +kernel⟩
theorem mc_X2_isClosed : Cond.code yX2_isClosed cX2_isClosed 4 (some .boolean) ∈ GW := List.mem_filter.mpr ⟨List.mem_of_getElem? (i := 543) (by decide +kernel), by decide +kernel⟩
theorem mi_X2_isClosed : Cond.instanceMethod yX2_isClosed ∈ GW := List.mem_filter.mpr ⟨List.mem_of_getElem? (i := 542) (by decide +kernel), by decide +kernel⟩
theorem ms_X2_isClosed : Cond.selects RX2 yX2_isClosed yX2_isClosed ∈ GW := List.mem_filter.mpr ⟨List.mem_of_getElem? (i := 17) (by decide +kernel), by decide +kernel⟩
theorem mc_X2_make : Cond.code yX2_make cX2_make 5 (some .int) ∈ GW := List.mem_filter.mpr ⟨List.mem_of_getElem? (i := 579) (by decide +kernel), by decide +kernel⟩
theorem mi_X2_make : Cond.instanceMethod yX2_make ∈ GW := List.mem_filter.mpr ⟨List.mem_of_getElem? (i := 578) (by decide +kernel), by decide +kernel⟩
theorem ms_X2_make : Cond.selects RX2 yX2_make yX2_make ∈ GW := List.mem_filter.mpr ⟨List.mem_of_getElem? (i := 26) (by decide +kernel), by decide +kernel⟩
theorem mc_X2_carve : Cond.code yX2_carve cX2_carve 8 (some .int) ∈ GW := List.mem_filter.mpr ⟨List.mem_of_getElem? (i := 526) (by decide +kernel), by decide +kernel⟩
theorem mi_X2_carve : Cond.instanceMethod yX2_carve ∈ GW := List.mem_filter.mpr ⟨List.mem_of_getElem? (i := 524) (by decide +kernel), by decide +kernel⟩
theorem ms_X2_carve : Cond.selects RX2 yX2_carve yX2_carve ∈ GW := List.mem_filter.mpr ⟨List.mem_of_getElem? (i := 525) (by decide +kernel), by decide +kernel⟩
theorem mc_X2_carveAt : Cond.code yX2_carveAt cX2_carveAt 7 (some .int) ∈ GW := List.mem_filter.mpr ⟨List.mem_of_getElem? (i := 583) (by decide +kernel), by decide +kernel⟩
theorem mi_X2_carveAt : Cond.instanceMethod yX2_carveAt ∈ GW := List.mem_filter.mpr ⟨List.mem_of_getElem? (i := 581) (by decide +kernel), by decide +kernel⟩
theorem ms_X2_carveAt : Cond.selects RX2 yX2_carveAt yX2_carveAt ∈ GW := List.mem_filter.mpr ⟨List.mem_of_getElem? (i := 582) (by decide +kernel), by decide +kernel⟩
theorem mc_X2_remove : Cond.code yX2_remove cX2_remove 3 (some .int) ∈ GW := List.mem_filter.mpr ⟨List.mem_of_getElem? (i := 587) (by decide +kernel), by decide +kernel⟩
theorem mi_X2_remove : Cond.instanceMethod yX2_remove ∈ GW := List.mem_filter.mpr ⟨List.mem_of_getElem? (i := 585) (by decide +kernel), by decide +kernel⟩
theorem ms_X2_remove : Cond.selects RX2 yX2_remove yX2_remove ∈ GW := List.mem_filter.mpr ⟨List.mem_of_getElem? (i := 586) (by decide +kernel), by decide +kernel⟩
theorem mc_X2_canGrow : Cond.code yX2_canGrow cX2_canGrow 5 (some .boolean) ∈ GW := List.mem_filter.mpr ⟨List.mem_of_getElem? (i := 595) (by decide +kernel), by decide +kernel⟩
theorem mi_X2_canGrow : Cond.instanceMethod yX2_canGrow ∈ GW := List.mem_filter.mpr ⟨List.mem_of_getElem? (i := 594) (by decide +kernel), by decide +kernel⟩
theorem ms_X2_canGrow : Cond.selects RX2 yX2_canGrow yX2_canGrow ∈ GW := List.mem_filter.mpr ⟨List.mem_of_getElem? (i := 27) (by decide +kernel), by decide +kernel⟩
theorem mc_X2_grow : Cond.code yX2_grow cX2_grow 3 (some .int) ∈ GW := List.mem_filter.mpr ⟨List.mem_of_getElem? (i := 591) (by decide +kernel), by decide +kernel⟩
theorem mi_X2_grow : Cond.instanceMethod yX2_grow ∈ GW := List.mem_filter.mpr ⟨List.mem_of_getElem? (i := 589) (by decide +kernel), by decide +kernel⟩
theorem ms_X2_grow : Cond.selects RX2 yX2_grow yX2_grow ∈ GW := List.mem_filter.mpr ⟨List.mem_of_getElem? (i := 590) (by decide +kernel), by decide +kernel⟩
theorem mc_X2_canHalve : Cond.code yX2_canHalve cX2_canHalve 4 (some .boolean) ∈ GW := List.mem_filter.mpr ⟨List.mem_of_getElem? (i := 603) (by decide +kernel), by decide +kernel⟩
theorem mi_X2_canHalve : Cond.instanceMethod yX2_canHalve ∈ GW := List.mem_filter.mpr ⟨List.mem_of_getElem? (i := 602) (by decide +kernel), by decide +kernel⟩
theorem ms_X2_canHalve : Cond.selects RX2 yX2_canHalve yX2_canHalve ∈ GW := List.mem_filter.mpr ⟨List.mem_of_getElem? (i := 28) (by decide +kernel), by decide +kernel⟩
theorem mc_X2_halve : Cond.code yX2_halve cX2_halve 3 (some .int) ∈ GW := List.mem_filter.mpr ⟨List.mem_of_getElem? (i := 599) (by decide +kernel), by decide +kernel⟩
theorem mi_X2_halve : Cond.instanceMethod yX2_halve ∈ GW := List.mem_filter.mpr ⟨List.mem_of_getElem? (i := 597) (by decide +kernel), by decide +kernel⟩
theorem ms_X2_halve : Cond.selects RX2 yX2_halve yX2_halve ∈ GW := List.mem_filter.mpr ⟨List.mem_of_getElem? (i := 598) (by decide +kernel), by decide +kernel⟩
theorem mc_X2_setOwner : Cond.code yX2_setOwner cX2_setOwner 4 (some .int) ∈ GW := List.mem_filter.mpr ⟨List.mem_of_getElem? (i := 607) (by decide +kernel), by decide +kernel⟩
theorem mi_X2_setOwner : Cond.instanceMethod yX2_setOwner ∈ GW := List.mem_filter.mpr ⟨List.mem_of_getElem? (i := 605) (by decide +kernel), by decide +kernel⟩
theorem ms_X2_setOwner : Cond.selects RX2 yX2_setOwner yX2_setOwner ∈ GW := List.mem_filter.mpr ⟨List.mem_of_getElem? (i := 606) (by decide +kernel), by decide +kernel⟩
theorem mc_X2_lowestFree : Cond.code yX2_lowestFree cX2_lowestFree 3 (some .int) ∈ GW := List.mem_filter.mpr ⟨List.mem_of_getElem? (i := 615) (by decide +kernel), by decide +kernel⟩
theorem mi_X2_lowestFree : Cond.instanceMethod yX2_lowestFree ∈ GW := List.mem_filter.mpr ⟨List.mem_of_getElem? (i := 614) (by decide +kernel), by decide +kernel⟩
theorem ms_X2_lowestFree : Cond.selects RX2 yX2_lowestFree yX2_lowestFree ∈ GW := List.mem_filter.mpr ⟨List.mem_of_getElem? (i := 29) (by decide +kernel), by decide +kernel⟩
theorem mc_X2_lend : Cond.code yX2_lend cX2_lend 5 (some .int) ∈ GW := List.mem_filter.mpr ⟨List.mem_of_getElem? (i := 611) (by decide +kernel), by decide +kernel⟩
theorem mi_X2_lend : Cond.instanceMethod yX2_lend ∈ GW := List.mem_filter.mpr ⟨List.mem_of_getElem? (i := 609) (by decide +kernel), by decide +kernel⟩
theorem ms_X2_lend : Cond.selects RX2 yX2_lend yX2_lend ∈ GW := List.mem_filter.mpr ⟨List.mem_of_getElem? (i := 610) (by decide +kernel), by decide +kernel⟩
theorem mc_X2_takeBack : Cond.code yX2_takeBack cX2_takeBack 4 (some .int) ∈ GW := List.mem_filter.mpr ⟨List.mem_of_getElem? (i := 619) (by decide +kernel), by decide +kernel⟩
theorem mi_X2_takeBack : Cond.instanceMethod yX2_takeBack ∈ GW := List.mem_filter.mpr ⟨List.mem_of_getElem? (i := 617) (by decide +kernel), by decide +kernel⟩
theorem ms_X2_takeBack : Cond.selects RX2 yX2_takeBack yX2_takeBack ∈ GW := List.mem_filter.mpr ⟨List.mem_of_getElem? (i := 618) (by decide +kernel), by decide +kernel⟩
theorem mc_X2_pass : Cond.code yX2_pass cX2_pass 5 (some .int) ∈ GW := List.mem_filter.mpr ⟨List.mem_of_getElem? (i := 626) (by decide +kernel), by decide +kernel⟩
theorem mi_X2_pass : Cond.instanceMethod yX2_pass ∈ GW := List.mem_filter.mpr ⟨List.mem_of_getElem? (i := 624) (by decide +kernel), by decide +kernel⟩
theorem ms_X2_pass : Cond.selects RX2 yX2_pass yX2_pass ∈ GW := List.mem_filter.mpr ⟨List.mem_of_getElem? (i := 625) (by decide +kernel), by decide +kernel⟩
theorem mc_X2_day : Cond.code yX2_day cX2_day 1 (some .int) ∈ GW := List.mem_filter.mpr ⟨List.mem_of_getElem? (i := 631) (by decide +kernel), by decide +kernel⟩
theorem mi_X2_day : Cond.instanceMethod yX2_day ∈ GW := List.mem_filter.mpr ⟨List.mem_of_getElem? (i := 629) (by decide +kernel), by decide +kernel⟩
theorem ms_X2_day : Cond.selects RX2 yX2_day yX2_day ∈ GW := List.mem_filter.mpr ⟨List.mem_of_getElem? (i := 630) (by decide +kernel), by decide +kernel⟩
theorem mc_X2_spans : Cond.code yX2_spans cX2_spans 3 (some .int) ∈ GW := List.mem_filter.mpr ⟨List.mem_of_getElem? (i := 635) (by decide +kernel), by decide +kernel⟩
theorem mi_X2_spans : Cond.instanceMethod yX2_spans ∈ GW := List.mem_filter.mpr ⟨List.mem_of_getElem? (i := 633) (by decide +kernel), by decide +kernel⟩
theorem ms_X2_spans : Cond.selects RX2 yX2_spans yX2_spans ∈ GW := List.mem_filter.mpr ⟨List.mem_of_getElem? (i := 634) (by decide +kernel), by decide +kernel⟩
theorem mc_X2_isThere : Cond.code yX2_isThere cX2_isThere 2 (some .boolean) ∈ GW := List.mem_filter.mpr ⟨List.mem_of_getElem? (i := 639) (by decide +kernel), by decide +kernel⟩
theorem mi_X2_isThere : Cond.instanceMethod yX2_isThere ∈ GW := List.mem_filter.mpr ⟨List.mem_of_getElem? (i := 637) (by decide +kernel), by decide +kernel⟩
theorem ms_X2_isThere : Cond.selects RX2 yX2_isThere yX2_isThere ∈ GW := List.mem_filter.mpr ⟨List.mem_of_getElem? (i := 638) (by decide +kernel), by decide +kernel⟩
theorem mc_X2_base : Cond.code yX2_base cX2_base 2 (some .int) ∈ GW := List.mem_filter.mpr ⟨List.mem_of_getElem? (i := 643) (by decide +kernel), by decide +kernel⟩
theorem mi_X2_base : Cond.instanceMethod yX2_base ∈ GW := List.mem_filter.mpr ⟨List.mem_of_getElem? (i := 641) (by decide +kernel), by decide +kernel⟩
theorem ms_X2_base : Cond.selects RX2 yX2_base yX2_base ∈ GW := List.mem_filter.mpr ⟨List.mem_of_getElem? (i := 642) (by decide +kernel), by decide +kernel⟩
theorem mc_X2_size : Cond.code yX2_size cX2_size 2 (some .int) ∈ GW := List.mem_filter.mpr ⟨List.mem_of_getElem? (i := 647) (by decide +kernel), by decide +kernel⟩
theorem mi_X2_size : Cond.instanceMethod yX2_size ∈ GW := List.mem_filter.mpr ⟨List.mem_of_getElem? (i := 645) (by decide +kernel), by decide +kernel⟩
theorem ms_X2_size : Cond.selects RX2 yX2_size yX2_size ∈ GW := List.mem_filter.mpr ⟨List.mem_of_getElem? (i := 646) (by decide +kernel), by decide +kernel⟩
theorem mc_X2_parent : Cond.code yX2_parent cX2_parent 2 (some .int) ∈ GW := List.mem_filter.mpr ⟨List.mem_of_getElem? (i := 651) (by decide +kernel), by decide +kernel⟩
theorem mi_X2_parent : Cond.instanceMethod yX2_parent ∈ GW := List.mem_filter.mpr ⟨List.mem_of_getElem? (i := 649) (by decide +kernel), by decide +kernel⟩
theorem ms_X2_parent : Cond.selects RX2 yX2_parent yX2_parent ∈ GW := List.mem_filter.mpr ⟨List.mem_of_getElem? (i := 650) (by decide +kernel), by decide +kernel⟩
theorem mc_X2_free : Cond.code yX2_free cX2_free 4 (some .int) ∈ GW := List.mem_filter.mpr ⟨List.mem_of_getElem? (i := 655) (by decide +kernel), by decide +kernel⟩
theorem mi_X2_free : Cond.instanceMethod yX2_free ∈ GW := List.mem_filter.mpr ⟨List.mem_of_getElem? (i := 653) (by decide +kernel), by decide +kernel⟩
theorem ms_X2_free : Cond.selects RX2 yX2_free yX2_free ∈ GW := List.mem_filter.mpr ⟨List.mem_of_getElem? (i := 654) (by decide +kernel), by decide +kernel⟩
theorem mc_X2_greatestFree : Cond.code yX2_greatestFree cX2_greatestFree 4 (some .int) ∈ GW := List.mem_filter.mpr ⟨List.mem_of_getElem? (i := 659) (by decide +kernel), by decide +kernel⟩
theorem mi_X2_greatestFree : Cond.instanceMethod yX2_greatestFree ∈ GW := List.mem_filter.mpr ⟨List.mem_of_getElem? (i := 657) (by decide +kernel), by decide +kernel⟩
theorem ms_X2_greatestFree : Cond.selects RX2 yX2_greatestFree yX2_greatestFree ∈ GW := List.mem_filter.mpr ⟨List.mem_of_getElem? (i := 658) (by decide +kernel), by decide +kernel⟩
theorem mc_X2_inTheWay : Cond.code yX2_inTheWay cX2_inTheWay 6 (some .int) ∈ GW := List.mem_filter.mpr ⟨List.mem_of_getElem? (i := 663) (by decide +kernel), by decide +kernel⟩
theorem mi_X2_inTheWay : Cond.instanceMethod yX2_inTheWay ∈ GW := List.mem_filter.mpr ⟨List.mem_of_getElem? (i := 661) (by decide +kernel), by decide +kernel⟩
theorem ms_X2_inTheWay : Cond.selects RX2 yX2_inTheWay yX2_inTheWay ∈ GW := List.mem_filter.mpr ⟨List.mem_of_getElem? (i := 662) (by decide +kernel), by decide +kernel⟩
theorem mc_X2_lent : Cond.code yX2_lent cX2_lent 1 (some .int) ∈ GW := List.mem_filter.mpr ⟨List.mem_of_getElem? (i := 667) (by decide +kernel), by decide +kernel⟩
theorem mi_X2_lent : Cond.instanceMethod yX2_lent ∈ GW := List.mem_filter.mpr ⟨List.mem_of_getElem? (i := 665) (by decide +kernel), by decide +kernel⟩
theorem ms_X2_lent : Cond.selects RX2 yX2_lent yX2_lent ∈ GW := List.mem_filter.mpr ⟨List.mem_of_getElem? (i := 666) (by decide +kernel), by decide +kernel⟩
theorem mc_X2_isLent : Cond.code yX2_isLent cX2_isLent 2 (some .boolean) ∈ GW := List.mem_filter.mpr ⟨List.mem_of_getElem? (i := 671) (by decide +kernel), by decide +kernel⟩
theorem mi_X2_isLent : Cond.instanceMethod yX2_isLent ∈ GW := List.mem_filter.mpr ⟨List.mem_of_getElem? (i := 669) (by decide +kernel), by decide +kernel⟩
theorem ms_X2_isLent : Cond.selects RX2 yX2_isLent yX2_isLent ∈ GW := List.mem_filter.mpr ⟨List.mem_of_getElem? (i := 670) (by decide +kernel), by decide +kernel⟩
theorem mc_X2_nearestOf : Cond.code yX2_nearestOf cX2_nearestOf 5 (some .int) ∈ GW := List.mem_filter.mpr ⟨List.mem_of_getElem? (i := 683) (by decide +kernel), by decide +kernel⟩
theorem mi_X2_nearestOf : Cond.instanceMethod yX2_nearestOf ∈ GW := List.mem_filter.mpr ⟨List.mem_of_getElem? (i := 682) (by decide +kernel), by decide +kernel⟩
theorem ms_X2_nearestOf : Cond.selects RX2 yX2_nearestOf yX2_nearestOf ∈ GW := List.mem_filter.mpr ⟨List.mem_of_getElem? (i := 30) (by decide +kernel), by decide +kernel⟩
theorem mc_X2_nearest : Cond.code yX2_nearest cX2_nearest 2 (some .int) ∈ GW := List.mem_filter.mpr ⟨List.mem_of_getElem? (i := 675) (by decide +kernel), by decide +kernel⟩
theorem mi_X2_nearest : Cond.instanceMethod yX2_nearest ∈ GW := List.mem_filter.mpr ⟨List.mem_of_getElem? (i := 673) (by decide +kernel), by decide +kernel⟩
theorem ms_X2_nearest : Cond.selects RX2 yX2_nearest yX2_nearest ∈ GW := List.mem_filter.mpr ⟨List.mem_of_getElem? (i := 674) (by decide +kernel), by decide +kernel⟩
theorem mc_X2_nearestByRow : Cond.code yX2_nearestByRow cX2_nearestByRow 2 (some .int) ∈ GW := List.mem_filter.mpr ⟨List.mem_of_getElem? (i := 679) (by decide +kernel), by decide +kernel⟩
theorem mi_X2_nearestByRow : Cond.instanceMethod yX2_nearestByRow ∈ GW := List.mem_filter.mpr ⟨List.mem_of_getElem? (i := 677) (by decide +kernel), by decide +kernel⟩
theorem ms_X2_nearestByRow : Cond.selects RX2 yX2_nearestByRow yX2_nearestByRow ∈ GW := List.mem_filter.mpr ⟨List.mem_of_getElem? (i := 678) (by decide +kernel), by decide +kernel⟩
theorem mc_X2_layOwner : Cond.code yX2_layOwner cX2_layOwner 3 none ∈ GW := List.mem_filter.mpr ⟨List.mem_of_getElem? (i := 692) (by decide +kernel), by decide +kernel⟩
theorem mi_X2_layOwner : Cond.instanceMethod yX2_layOwner ∈ GW := List.mem_filter.mpr ⟨List.mem_of_getElem? (i := 691) (by decide +kernel), by decide +kernel⟩
theorem ms_X2_layOwner : Cond.selects RX2 yX2_layOwner yX2_layOwner ∈ GW := List.mem_filter.mpr ⟨List.mem_of_getElem? (i := 31) (by decide +kernel), by decide +kernel⟩
theorem mc_X2_owned : Cond.code yX2_owned cX2_owned 2 (some .int) ∈ GW := List.mem_filter.mpr ⟨List.mem_of_getElem? (i := 688) (by decide +kernel), by decide +kernel⟩
theorem mi_X2_owned : Cond.instanceMethod yX2_owned ∈ GW := List.mem_filter.mpr ⟨List.mem_of_getElem? (i := 686) (by decide +kernel), by decide +kernel⟩
theorem ms_X2_owned : Cond.selects RX2 yX2_owned yX2_owned ∈ GW := List.mem_filter.mpr ⟨List.mem_of_getElem? (i := 687) (by decide +kernel), by decide +kernel⟩
theorem mc_X2_isAll : Cond.code yX2_isAll cX2_isAll 3 (some .boolean) ∈ GW := List.mem_filter.mpr ⟨List.mem_of_getElem? (i := 700) (by decide +kernel), by decide +kernel⟩
theorem mi_X2_isAll : Cond.instanceMethod yX2_isAll ∈ GW := List.mem_filter.mpr ⟨List.mem_of_getElem? (i := 699) (by decide +kernel), by decide +kernel⟩
theorem ms_X2_isAll : Cond.selects RX2 yX2_isAll yX2_isAll ∈ GW := List.mem_filter.mpr ⟨List.mem_of_getElem? (i := 32) (by decide +kernel), by decide +kernel⟩
theorem mc_X2_blocks : Cond.code yX2_blocks cX2_blocks 5 (some .int) ∈ GW := List.mem_filter.mpr ⟨List.mem_of_getElem? (i := 696) (by decide +kernel), by decide +kernel⟩
theorem mi_X2_blocks : Cond.instanceMethod yX2_blocks ∈ GW := List.mem_filter.mpr ⟨List.mem_of_getElem? (i := 694) (by decide +kernel), by decide +kernel⟩
theorem ms_X2_blocks : Cond.selects RX2 yX2_blocks yX2_blocks ∈ GW := List.mem_filter.mpr ⟨List.mem_of_getElem? (i := 695) (by decide +kernel), by decide +kernel⟩
theorem mc_L_carve : Cond.codeWith yL_carve cL_carve 7 (some .int) [(0, 14, 17, 13), (0, 14, 21, 15), (0, 14, 25, 17)] ∈ GW := List.mem_filter.mpr ⟨List.mem_of_getElem? (i := 128) (by decide +kernel), by decide +kernel⟩
theorem mt_L_carve : Cond.static yL_carve ∈ GW := List.mem_filter.mpr ⟨List.mem_of_getElem? (i := 127) (by decide +kernel), by decide +kernel⟩
theorem mc_L_carveAt : Cond.codeWith yL_carveAt cL_carveAt 7 (some .int) [(0, 14, 17, 13), (0, 14, 21, 15), (0, 14, 25, 17)] ∈ GW := List.mem_filter.mpr ⟨List.mem_of_getElem? (i := 310) (by decide +kernel), by decide +kernel⟩
theorem mt_L_carveAt : Cond.static yL_carveAt ∈ GW := List.mem_filter.mpr ⟨List.mem_of_getElem? (i := 309) (by decide +kernel), by decide +kernel⟩
theorem mc_L_remove : Cond.codeWith yL_remove cL_remove 4 (some .int) [(0, 9, 12, 13), (0, 9, 15, 17)] ∈ GW := List.mem_filter.mpr ⟨List.mem_of_getElem? (i := 319) (by decide +kernel), by decide +kernel⟩
theorem mt_L_remove : Cond.static yL_remove ∈ GW := List.mem_filter.mpr ⟨List.mem_of_getElem? (i := 318) (by decide +kernel), by decide +kernel⟩
theorem mc_L_grow : Cond.codeWith yL_grow cL_grow 4 (some .int) [(0, 9, 12, 13), (0, 9, 15, 17)] ∈ GW := List.mem_filter.mpr ⟨List.mem_of_getElem? (i := 327) (by decide +kernel), by decide +kernel⟩
theorem mt_L_grow : Cond.static yL_grow ∈ GW := List.mem_filter.mpr ⟨List.mem_of_getElem? (i := 326) (by decide +kernel), by decide +kernel⟩
theorem mc_L_halve : Cond.codeWith yL_halve cL_halve 4 (some .int) [(0, 9, 12, 13), (0, 9, 15, 17)] ∈ GW := List.mem_filter.mpr ⟨List.mem_of_getElem? (i := 336) (by decide +kernel), by decide +kernel⟩
theorem mt_L_halve : Cond.static yL_halve ∈ GW := List.mem_filter.mpr ⟨List.mem_of_getElem? (i := 335) (by decide +kernel), by decide +kernel⟩
theorem mc_L_setOwner : Cond.codeWith yL_setOwner cL_setOwner 5 (some .int) [(0, 10, 13, 13), (0, 10, 17, 15)] ∈ GW := List.mem_filter.mpr ⟨List.mem_of_getElem? (i := 345) (by decide +kernel), by decide +kernel⟩
theorem mt_L_setOwner : Cond.static yL_setOwner ∈ GW := List.mem_filter.mpr ⟨List.mem_of_getElem? (i := 344) (by decide +kernel), by decide +kernel⟩
theorem mc_L_lend : Cond.codeWith yL_lend cL_lend 5 (some .int) [(0, 10, 13, 13), (0, 10, 17, 15), (0, 10, 21, 17)] ∈ GW := List.mem_filter.mpr ⟨List.mem_of_getElem? (i := 352) (by decide +kernel), by decide +kernel⟩
theorem mt_L_lend : Cond.static yL_lend ∈ GW := List.mem_filter.mpr ⟨List.mem_of_getElem? (i := 351) (by decide +kernel), by decide +kernel⟩
theorem mc_L_takeBack : Cond.codeWith yL_takeBack cL_takeBack 4 (some .int) [(0, 9, 12, 13), (0, 9, 15, 17)] ∈ GW := List.mem_filter.mpr ⟨List.mem_of_getElem? (i := 366) (by decide +kernel), by decide +kernel⟩
theorem mt_L_takeBack : Cond.static yL_takeBack ∈ GW := List.mem_filter.mpr ⟨List.mem_of_getElem? (i := 365) (by decide +kernel), by decide +kernel⟩
theorem mc_L_pass : Cond.codeWith yL_pass cL_pass 4 (some .int) [(0, 9, 12, 15), (0, 9, 15, 17)] ∈ GW := List.mem_filter.mpr ⟨List.mem_of_getElem? (i := 378) (by decide +kernel), by decide +kernel⟩
theorem mt_L_pass : Cond.static yL_pass ∈ GW := List.mem_filter.mpr ⟨List.mem_of_getElem? (i := 377) (by decide +kernel), by decide +kernel⟩
theorem mc_L_base : Cond.codeWith yL_base cL_base 4 (some .int) [(0, 9, 12, 13)] ∈ GW := List.mem_filter.mpr ⟨List.mem_of_getElem? (i := 388) (by decide +kernel), by decide +kernel⟩
theorem mt_L_base : Cond.static yL_base ∈ GW := List.mem_filter.mpr ⟨List.mem_of_getElem? (i := 387) (by decide +kernel), by decide +kernel⟩
theorem mc_L_size : Cond.codeWith yL_size cL_size 4 (some .int) [(0, 9, 12, 13)] ∈ GW := List.mem_filter.mpr ⟨List.mem_of_getElem? (i := 395) (by decide +kernel), by decide +kernel⟩
theorem mt_L_size : Cond.static yL_size ∈ GW := List.mem_filter.mpr ⟨List.mem_of_getElem? (i := 394) (by decide +kernel), by decide +kernel⟩
theorem mc_L_parent : Cond.codeWith yL_parent cL_parent 4 (some .int) [(0, 9, 12, 13)] ∈ GW := List.mem_filter.mpr ⟨List.mem_of_getElem? (i := 402) (by decide +kernel), by decide +kernel⟩
theorem mt_L_parent : Cond.static yL_parent ∈ GW := List.mem_filter.mpr ⟨List.mem_of_getElem? (i := 401) (by decide +kernel), by decide +kernel⟩
theorem mc_L_free : Cond.codeWith yL_free cL_free 4 (some .int) [(0, 9, 12, 13)] ∈ GW := List.mem_filter.mpr ⟨List.mem_of_getElem? (i := 409) (by decide +kernel), by decide +kernel⟩
theorem mt_L_free : Cond.static yL_free ∈ GW := List.mem_filter.mpr ⟨List.mem_of_getElem? (i := 408) (by decide +kernel), by decide +kernel⟩
theorem mc_L_greatestFree : Cond.codeWith yL_greatestFree cL_greatestFree 4 (some .int) [(0, 9, 12, 13)] ∈ GW := List.mem_filter.mpr ⟨List.mem_of_getElem? (i := 420) (by decide +kernel), by decide +kernel⟩
theorem mt_L_greatestFree : Cond.static yL_greatestFree ∈ GW := List.mem_filter.mpr ⟨List.mem_of_getElem? (i := 419) (by decide +kernel), by decide +kernel⟩
theorem mc_L_inTheWay : Cond.codeWith yL_inTheWay cL_inTheWay 5 (some .int) [(0, 10, 13, 13), (0, 10, 17, 15)] ∈ GW := List.mem_filter.mpr ⟨List.mem_of_getElem? (i := 427) (by decide +kernel), by decide +kernel⟩
theorem mt_L_inTheWay : Cond.static yL_inTheWay ∈ GW := List.mem_filter.mpr ⟨List.mem_of_getElem? (i := 426) (by decide +kernel), by decide +kernel⟩
theorem mc_L_isLent : Cond.codeWith yL_isLent cL_isLent 4 (some .int) [(0, 16, 19, 13)] ∈ GW := List.mem_filter.mpr ⟨List.mem_of_getElem? (i := 434) (by decide +kernel), by decide +kernel⟩
theorem mt_L_isLent : Cond.static yL_isLent ∈ GW := List.mem_filter.mpr ⟨List.mem_of_getElem? (i := 433) (by decide +kernel), by decide +kernel⟩
theorem mc_L_nearest : Cond.codeWith yL_nearest cL_nearest 4 (some .int) [(0, 9, 12, 13)] ∈ GW := List.mem_filter.mpr ⟨List.mem_of_getElem? (i := 441) (by decide +kernel), by decide +kernel⟩
theorem mt_L_nearest : Cond.static yL_nearest ∈ GW := List.mem_filter.mpr ⟨List.mem_of_getElem? (i := 440) (by decide +kernel), by decide +kernel⟩
theorem mc_L_nearestByRow : Cond.codeWith yL_nearestByRow cL_nearestByRow 4 (some .int) [(0, 9, 12, 13)] ∈ GW := List.mem_filter.mpr ⟨List.mem_of_getElem? (i := 448) (by decide +kernel), by decide +kernel⟩
theorem mt_L_nearestByRow : Cond.static yL_nearestByRow ∈ GW := List.mem_filter.mpr ⟨List.mem_of_getElem? (i := 447) (by decide +kernel), by decide +kernel⟩
theorem mc_L_owned : Cond.codeWith yL_owned cL_owned 4 (some .int) [(0, 9, 12, 15)] ∈ GW := List.mem_filter.mpr ⟨List.mem_of_getElem? (i := 463) (by decide +kernel), by decide +kernel⟩
theorem mt_L_owned : Cond.static yL_owned ∈ GW := List.mem_filter.mpr ⟨List.mem_of_getElem? (i := 462) (by decide +kernel), by decide +kernel⟩
theorem mc_L_blocks : Cond.codeWith yL_blocks cL_blocks 4 (some .int) [(0, 9, 12, 15)] ∈ GW := List.mem_filter.mpr ⟨List.mem_of_getElem? (i := 470) (by decide +kernel), by decide +kernel⟩
theorem mt_L_blocks : Cond.static yL_blocks ∈ GW := List.mem_filter.mpr ⟨List.mem_of_getElem? (i := 469) (by decide +kernel), by decide +kernel⟩
theorem ob_i : Cond.instanceMethod objectInit ∈ GW := List.mem_filter.mpr ⟨List.mem_of_getElem? (i := 50) (by decide +kernel), by decide +kernel⟩
theorem ob_c : Cond.code objectInit ⟨#[0xb1]⟩ 1 none ∈ GW := List.mem_filter.mpr ⟨List.mem_of_getElem? (i := 51) (by decide +kernel), by decide +kernel⟩
theorem mm_t : Cond.static Lib.Math.min.name ∈ GW := List.mem_filter.mpr ⟨List.mem_of_getElem? (i := 297) (by decide +kernel), by decide +kernel⟩
theorem mm_c : Cond.code Lib.Math.min.name Lib.Math.min.code 2 (some .int) ∈ GW := List.mem_filter.mpr ⟨List.mem_of_getElem? (i := 298) (by decide +kernel), by decide +kernel⟩
