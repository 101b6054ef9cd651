/-! THE TABLES' WORDS that the walks name, by program (wip/whole/tools/words.py) -/
theorem jg_list (ws : List Cond) (ps : List Nat) (hp : ws = ps.filterMap (fun i => lw_tbl[i]?)) (h : ws.all goodWord = true) : ∀ w ∈ ws, w ∈ lw_good := by
  intro w hw
  have h1 := List.all_eq_true.mp h w hw
  rw [hp] at hw
  obtain ⟨i, -, hi⟩ := List.mem_filterMap.mp hw
  exact List.mem_filter.mpr ⟨List.mem_of_getElem? hi, h1⟩
theorem inG0 : ∀ w ∈ u_ws RX0 TX0 2, w ∈ lw_good := jg_list _ [161, 163] (by decide +kernel) (by decide +kernel)
theorem inG1 : ∀ w ∈ u_ws RX1 TX1 4, w ∈ lw_good := jg_list _ [692, 693, 688, 690] (by decide +kernel) (by decide +kernel)
theorem inG2 : ∀ w ∈ u_ws RX2 TX2 6, w ∈ lw_good := jg_list _ [200, 202, 204, 206, 208, 210] (by decide +kernel) (by decide +kernel)
theorem inG3 : ∀ w ∈ u_ws RX3 TX3 4, w ∈ lw_good := jg_list _ [635, 637, 631, 633] (by decide +kernel) (by decide +kernel)
theorem inG5 : ∀ w ∈ u_ws RX5 TX5 3, w ∈ lw_good := jg_list _ [121, 123, 125] (by decide +kernel) (by decide +kernel)
theorem inG6 : ∀ w ∈ u_ws RX6 TX6 1, w ∈ lw_good := jg_list _ [95] (by decide +kernel) (by decide +kernel)
theorem inG7 : ∀ w ∈ u_ws RX7 TX7 1, w ∈ lw_good := jg_list _ [106] (by decide +kernel) (by decide +kernel)
theorem inG8 : ∀ w ∈ u_ws RX8 TX8 3, w ∈ lw_good := jg_list _ [669, 670, 667] (by decide +kernel) (by decide +kernel)
theorem inG9 : ∀ w ∈ u_ws RX9 TX9 4, w ∈ lw_good := jg_list _ [142, 144, 146, 148] (by decide +kernel) (by decide +kernel)
theorem inG10 : ∀ w ∈ u_ws RX10 TX10 3, w ∈ lw_good := jg_list _ [179, 181, 183] (by decide +kernel) (by decide +kernel)
theorem inG11 : ∀ w ∈ u_ws RX11 TX11 15, w ∈ lw_good := jg_list _ [233, 235, 237, 239, 241, 243, 245, 247, 249, 251, 253, 255, 257, 259, 261] (by decide +kernel) (by decide +kernel)
theorem inG12 : ∀ w ∈ u_ws RX12 TX12 17, w ∈ lw_good := jg_list _ [1069, 1071, 1073, 1075, 1077, 1079, 1081, 1083, 1085, 1087, 1089, 1091, 1093, 1095, 1097, 1099, 1101] (by decide +kernel) (by decide +kernel)
theorem wini_L : Cond.initialized RL ∈ lw_good := jg_1 (List.mem_of_getElem? (i := 0) (rfl : tables_1_1[0]? = some (Cond.initialized RL))) rfl
theorem wini_X11 : Cond.initialized RX11 ∈ lw_good := jg_1 (List.mem_of_getElem? (i := 1) (rfl : tables_1_1[1]? = some (Cond.initialized RX11))) rfl
theorem wini_X6 : Cond.initialized RX6 ∈ lw_good := jg_1 (List.mem_of_getElem? (i := 2) (rfl : tables_1_1[2]? = some (Cond.initialized RX6))) rfl
theorem wini_X7 : Cond.initialized RX7 ∈ lw_good := jg_1 (List.mem_of_getElem? (i := 3) (rfl : tables_1_1[3]? = some (Cond.initialized RX7))) rfl
theorem wini_X5 : Cond.initialized RX5 ∈ lw_good := jg_1 (List.mem_of_getElem? (i := 4) (rfl : tables_1_1[4]? = some (Cond.initialized RX5))) rfl
theorem wini_X9 : Cond.initialized RX9 ∈ lw_good := jg_1 (List.mem_of_getElem? (i := 5) (rfl : tables_1_1[5]? = some (Cond.initialized RX9))) rfl
theorem wini_X0 : Cond.initialized RX0 ∈ lw_good := jg_1 (List.mem_of_getElem? (i := 6) (rfl : tables_1_1[6]? = some (Cond.initialized RX0))) rfl
theorem wini_X10 : Cond.initialized RX10 ∈ lw_good := jg_1 (List.mem_of_getElem? (i := 7) (rfl : tables_1_1[7]? = some (Cond.initialized RX10))) rfl
theorem wini_X2 : Cond.initialized RX2 ∈ lw_good := jg_1 (List.mem_of_getElem? (i := 8) (rfl : tables_1_1[8]? = some (Cond.initialized RX2))) rfl
theorem wini_X12 : Cond.initialized RX12 ∈ lw_good := jg_1 (List.mem_of_getElem? (i := 9) (rfl : tables_1_1[9]? = some (Cond.initialized RX12))) rfl
theorem wini_java_lang_Throwable : Cond.initialized "java/lang/Throwable" ∈ lw_good := jg_1 (List.mem_of_getElem? (i := 10) (rfl : tables_1_1[10]? = some (Cond.initialized "java/lang/Throwable"))) rfl
theorem wini_java_lang_Exception : Cond.initialized "java/lang/Exception" ∈ lw_good := jg_1 (List.mem_of_getElem? (i := 11) (rfl : tables_1_1[11]? = some (Cond.initialized "java/lang/Exception"))) rfl
theorem wini_java_lang_RuntimeException : Cond.initialized "java/lang/RuntimeException" ∈ lw_good := jg_1 (List.mem_of_getElem? (i := 12) (rfl : tables_1_1[12]? = some (Cond.initialized "java/lang/RuntimeException"))) rfl
theorem wini_java_lang_IllegalStateException : Cond.initialized "java/lang/IllegalStateException" ∈ lw_good := jg_1 (List.mem_of_getElem? (i := 13) (rfl : tables_1_1[13]? = some (Cond.initialized "java/lang/IllegalStateException"))) rfl
theorem wini_java_lang_IndexOutOfBoundsException : Cond.initialized "java/lang/IndexOutOfBoundsException" ∈ lw_good := jg_1 (List.mem_of_getElem? (i := 14) (rfl : tables_1_1[14]? = some (Cond.initialized "java/lang/IndexOutOfBoundsException"))) rfl
theorem wini_java_lang_IllegalArgumentException : Cond.initialized "java/lang/IllegalArgumentException" ∈ lw_good := jg_1 (List.mem_of_getElem? (i := 15) (rfl : tables_1_1[15]? = some (Cond.initialized "java/lang/IllegalArgumentException"))) rfl
theorem wini_X4 : Cond.initialized RX4 ∈ lw_good := jg_1 (List.mem_of_getElem? (i := 16) (rfl : tables_1_1[16]? = some (Cond.initialized RX4))) rfl
theorem wini_X3 : Cond.initialized RX3 ∈ lw_good := jg_1 (List.mem_of_getElem? (i := 17) (rfl : tables_1_1[17]? = some (Cond.initialized RX3))) rfl
theorem wini_X8 : Cond.initialized RX8 ∈ lw_good := jg_1 (List.mem_of_getElem? (i := 18) (rfl : tables_1_1[18]? = some (Cond.initialized RX8))) rfl
theorem wini_X1 : Cond.initialized RX1 ∈ lw_good := jg_1 (List.mem_of_getElem? (i := 19) (rfl : tables_1_1[19]? = some (Cond.initialized RX1))) rfl
theorem wini_J6 : Cond.initialized RJ6 ∈ lw_good := jg_1 (List.mem_of_getElem? (i := 20) (rfl : tables_1_1[20]? = some (Cond.initialized RJ6))) rfl
theorem wini_J13 : Cond.initialized RJ13 ∈ lw_good := jg_1 (List.mem_of_getElem? (i := 21) (rfl : tables_1_1[21]? = some (Cond.initialized RJ13))) rfl
theorem wini_java_util_NoSuchElementException : Cond.initialized "java/util/NoSuchElementException" ∈ lw_good := jg_1 (List.mem_of_getElem? (i := 22) (rfl : tables_1_1[22]? = some (Cond.initialized "java/util/NoSuchElementException"))) rfl
theorem wini_java_lang_UnsupportedOperationException : Cond.initialized "java/lang/UnsupportedOperationException" ∈ lw_good := jg_1 (List.mem_of_getElem? (i := 23) (rfl : tables_1_1[23]? = some (Cond.initialized "java/lang/UnsupportedOperationException"))) rfl
theorem wcl_L_8 : Cond.classLink RL 8 RX11 ∈ lw_good := jg_1 (List.mem_of_getElem? (i := 24) (rfl : tables_1_1[24]? = some (Cond.classLink RL 8 RX11))) rfl
theorem wmk_X11 : Cond.instantiable RX11 15 ∈ lw_good := jg_1 (List.mem_of_getElem? (i := 25) (rfl : tables_1_1[25]? = some (Cond.instantiable RX11 15))) rfl
theorem wcl_X11_7 : Cond.classLink RX11 7 RX6 ∈ lw_good := jg_1 (List.mem_of_getElem? (i := 32) (rfl : tables_1_1[32]? = some (Cond.classLink RX11 7 RX6))) rfl
theorem wmk_X6 : Cond.instantiable RX6 1 ∈ lw_good := jg_1 (List.mem_of_getElem? (i := 33) (rfl : tables_1_1[33]? = some (Cond.instantiable RX6 1))) rfl
theorem wfl_X6_7 : Cond.fieldLink RX6 7 "Countfall$IntRow" "cells" "[I" ∈ lw_good := jg_1 (List.mem_of_getElem? (i := 38) (rfl : tables_1_1[38]? = some (Cond.fieldLink RX6 7 "Countfall$IntRow" "cells" "[I"))) rfl
theorem wcl_X11_21 : Cond.classLink RX11 21 RX7 ∈ lw_good := jg_1 (List.mem_of_getElem? (i := 43) (rfl : tables_1_1[43]? = some (Cond.classLink RX11 21 RX7))) rfl
theorem wmk_X7 : Cond.instantiable RX7 1 ∈ lw_good := jg_1 (List.mem_of_getElem? (i := 44) (rfl : tables_1_1[44]? = some (Cond.instantiable RX7 1))) rfl
theorem wfl_X7_7 : Cond.fieldLink RX7 7 "Countfall$LongRow" "cells" "[J" ∈ lw_good := jg_1 (List.mem_of_getElem? (i := 49) (rfl : tables_1_1[49]? = some (Cond.fieldLink RX7 7 "Countfall$LongRow" "cells" "[J"))) rfl
theorem wcl_X11_31 : Cond.classLink RX11 31 RX5 ∈ lw_good := jg_1 (List.mem_of_getElem? (i := 54) (rfl : tables_1_1[54]? = some (Cond.classLink RX11 31 RX5))) rfl
theorem wmk_X5 : Cond.instantiable RX5 3 ∈ lw_good := jg_1 (List.mem_of_getElem? (i := 55) (rfl : tables_1_1[55]? = some (Cond.instantiable RX5 3))) rfl
theorem wcl_X5_9 : Cond.classLink RX5 9 RX4 ∈ lw_good := jg_1 (List.mem_of_getElem? (i := 60) (rfl : tables_1_1[60]? = some (Cond.classLink RX5 9 RX4))) rfl
theorem wfl_X5_11 : Cond.fieldLink RX5 11 "Countfall$Constraints" "told" "[LCountfall$Constraint;" ∈ lw_good := jg_1 (List.mem_of_getElem? (i := 62) (rfl : tables_1_1[62]? = some (Cond.fieldLink RX5 11 "Countfall$Constraints" "told" "[LCountfall$Constraint;"))) rfl
theorem wfl_X5_17 : Cond.fieldLink RX5 17 "Countfall$Constraints" "count" "I" ∈ lw_good := jg_1 (List.mem_of_getElem? (i := 63) (rfl : tables_1_1[63]? = some (Cond.fieldLink RX5 17 "Countfall$Constraints" "count" "I"))) rfl
theorem wfl_X5_21 : Cond.fieldLink RX5 21 "Countfall$Constraints" "live" "I" ∈ lw_good := jg_1 (List.mem_of_getElem? (i := 64) (rfl : tables_1_1[64]? = some (Cond.fieldLink RX5 21 "Countfall$Constraints" "live" "I"))) rfl
theorem wcl_X11_38 : Cond.classLink RX11 38 RX9 ∈ lw_good := jg_1 (List.mem_of_getElem? (i := 72) (rfl : tables_1_1[72]? = some (Cond.classLink RX11 38 RX9))) rfl
theorem wmk_X9 : Cond.instantiable RX9 4 ∈ lw_good := jg_1 (List.mem_of_getElem? (i := 73) (rfl : tables_1_1[73]? = some (Cond.instantiable RX9 4))) rfl
theorem wcl_X9_9 : Cond.classLink RX9 9 RX6 ∈ lw_good := jg_1 (List.mem_of_getElem? (i := 78) (rfl : tables_1_1[78]? = some (Cond.classLink RX9 9 RX6))) rfl
theorem wcl_X9_26 : Cond.classLink RX9 26 RX7 ∈ lw_good := jg_1 (List.mem_of_getElem? (i := 80) (rfl : tables_1_1[80]? = some (Cond.classLink RX9 26 RX7))) rfl
theorem wfl_X9_14 : Cond.fieldLink RX9 14 "Countfall$PartMemory" "sets" "LCountfall$IntRow;" ∈ lw_good := jg_1 (List.mem_of_getElem? (i := 82) (rfl : tables_1_1[82]? = some (Cond.fieldLink RX9 14 "Countfall$PartMemory" "sets" "LCountfall$IntRow;"))) rfl
theorem wfl_X9_20 : Cond.fieldLink RX9 20 "Countfall$PartMemory" "constraintSets" "LCountfall$IntRow;" ∈ lw_good := jg_1 (List.mem_of_getElem? (i := 83) (rfl : tables_1_1[83]? = some (Cond.fieldLink RX9 20 "Countfall$PartMemory" "constraintSets" "LCountfall$IntRow;"))) rfl
theorem wfl_X9_23 : Cond.fieldLink RX9 23 "Countfall$PartMemory" "evidences" "LCountfall$IntRow;" ∈ lw_good := jg_1 (List.mem_of_getElem? (i := 84) (rfl : tables_1_1[84]? = some (Cond.fieldLink RX9 23 "Countfall$PartMemory" "evidences" "LCountfall$IntRow;"))) rfl
theorem wfl_X9_29 : Cond.fieldLink RX9 29 "Countfall$PartMemory" "counts" "LCountfall$LongRow;" ∈ lw_good := jg_1 (List.mem_of_getElem? (i := 85) (rfl : tables_1_1[85]? = some (Cond.fieldLink RX9 29 "Countfall$PartMemory" "counts" "LCountfall$LongRow;"))) rfl
theorem wcl_X11_45 : Cond.classLink RX11 45 RX0 ∈ lw_good := jg_1 (List.mem_of_getElem? (i := 95) (rfl : tables_1_1[95]? = some (Cond.classLink RX11 45 RX0))) rfl
theorem wmk_X0 : Cond.instantiable RX0 2 ∈ lw_good := jg_1 (List.mem_of_getElem? (i := 96) (rfl : tables_1_1[96]? = some (Cond.instantiable RX0 2))) rfl
theorem wcl_X0_9 : Cond.classLink RX0 9 RX7 ∈ lw_good := jg_1 (List.mem_of_getElem? (i := 101) (rfl : tables_1_1[101]? = some (Cond.classLink RX0 9 RX7))) rfl
theorem wfl_X0_16 : Cond.fieldLink RX0 16 "Countfall$Assignments" "words" "LCountfall$LongRow;" ∈ lw_good := jg_1 (List.mem_of_getElem? (i := 103) (rfl : tables_1_1[103]? = some (Cond.fieldLink RX0 16 "Countfall$Assignments" "words" "LCountfall$LongRow;"))) rfl
theorem wfl_X0_20 : Cond.fieldLink RX0 20 "Countfall$Assignments" "variables" "I" ∈ lw_good := jg_1 (List.mem_of_getElem? (i := 104) (rfl : tables_1_1[104]? = some (Cond.fieldLink RX0 20 "Countfall$Assignments" "variables" "I"))) rfl
theorem wcl_X11_55 : Cond.classLink RX11 55 RX10 ∈ lw_good := jg_1 (List.mem_of_getElem? (i := 110) (rfl : tables_1_1[110]? = some (Cond.classLink RX11 55 RX10))) rfl
theorem wmk_X10 : Cond.instantiable RX10 3 ∈ lw_good := jg_1 (List.mem_of_getElem? (i := 111) (rfl : tables_1_1[111]? = some (Cond.instantiable RX10 3))) rfl
theorem wcl_X10_9 : Cond.classLink RX10 9 RX6 ∈ lw_good := jg_1 (List.mem_of_getElem? (i := 116) (rfl : tables_1_1[116]? = some (Cond.classLink RX10 9 RX6))) rfl
theorem wcl_X10_20 : Cond.classLink RX10 20 RX7 ∈ lw_good := jg_1 (List.mem_of_getElem? (i := 118) (rfl : tables_1_1[118]? = some (Cond.classLink RX10 20 RX7))) rfl
theorem wfl_X10_16 : Cond.fieldLink RX10 16 "Countfall$Ranking" "assignments" "LCountfall$IntRow;" ∈ lw_good := jg_1 (List.mem_of_getElem? (i := 120) (rfl : tables_1_1[120]? = some (Cond.fieldLink RX10 16 "Countfall$Ranking" "assignments" "LCountfall$IntRow;"))) rfl
theorem wfl_X10_23 : Cond.fieldLink RX10 23 "Countfall$Ranking" "weights" "LCountfall$LongRow;" ∈ lw_good := jg_1 (List.mem_of_getElem? (i := 121) (rfl : tables_1_1[121]? = some (Cond.fieldLink RX10 23 "Countfall$Ranking" "weights" "LCountfall$LongRow;"))) rfl
theorem wfl_X10_27 : Cond.fieldLink RX10 27 "Countfall$Ranking" "count" "I" ∈ lw_good := jg_1 (List.mem_of_getElem? (i := 122) (rfl : tables_1_1[122]? = some (Cond.fieldLink RX10 27 "Countfall$Ranking" "count" "I"))) rfl
theorem wcl_X11_62 : Cond.classLink RX11 62 RX2 ∈ lw_good := jg_1 (List.mem_of_getElem? (i := 130) (rfl : tables_1_1[130]? = some (Cond.classLink RX11 62 RX2))) rfl
theorem wmk_X2 : Cond.instantiable RX2 6 ∈ lw_good := jg_1 (List.mem_of_getElem? (i := 131) (rfl : tables_1_1[131]? = some (Cond.instantiable RX2 6))) rfl
theorem wcl_X2_9 : Cond.classLink RX2 9 RX6 ∈ lw_good := jg_1 (List.mem_of_getElem? (i := 136) (rfl : tables_1_1[136]? = some (Cond.classLink RX2 9 RX6))) rfl
theorem wfl_X2_14 : Cond.fieldLink RX2 14 "Countfall$Circuit" "tops" "LCountfall$IntRow;" ∈ lw_good := jg_1 (List.mem_of_getElem? (i := 138) (rfl : tables_1_1[138]? = some (Cond.fieldLink RX2 14 "Countfall$Circuit" "tops" "LCountfall$IntRow;"))) rfl
theorem wfl_X2_20 : Cond.fieldLink RX2 20 "Countfall$Circuit" "falseWays" "LCountfall$IntRow;" ∈ lw_good := jg_1 (List.mem_of_getElem? (i := 139) (rfl : tables_1_1[139]? = some (Cond.fieldLink RX2 20 "Countfall$Circuit" "falseWays" "LCountfall$IntRow;"))) rfl
theorem wfl_X2_23 : Cond.fieldLink RX2 23 "Countfall$Circuit" "trueWays" "LCountfall$IntRow;" ∈ lw_good := jg_1 (List.mem_of_getElem? (i := 140) (rfl : tables_1_1[140]? = some (Cond.fieldLink RX2 23 "Countfall$Circuit" "trueWays" "LCountfall$IntRow;"))) rfl
theorem wfl_X2_26 : Cond.fieldLink RX2 26 "Countfall$Circuit" "yesWays" "LCountfall$IntRow;" ∈ lw_good := jg_1 (List.mem_of_getElem? (i := 141) (rfl : tables_1_1[141]? = some (Cond.fieldLink RX2 26 "Countfall$Circuit" "yesWays" "LCountfall$IntRow;"))) rfl
theorem wfl_X2_29 : Cond.fieldLink RX2 29 "Countfall$Circuit" "placeCounts" "LCountfall$IntRow;" ∈ lw_good := jg_1 (List.mem_of_getElem? (i := 142) (rfl : tables_1_1[142]? = some (Cond.fieldLink RX2 29 "Countfall$Circuit" "placeCounts" "LCountfall$IntRow;"))) rfl
theorem wfl_X2_54 : Cond.fieldLink RX2 54 "Countfall$Circuit" "size" "I" ∈ lw_good := jg_1 (List.mem_of_getElem? (i := 143) (rfl : tables_1_1[143]? = some (Cond.fieldLink RX2 54 "Countfall$Circuit" "size" "I"))) rfl
theorem wfl_X11_77 : Cond.fieldLink RX11 77 "Countfall" "variables" "I" ∈ lw_good := jg_1 (List.mem_of_getElem? (i := 162) (rfl : tables_1_1[162]? = some (Cond.fieldLink RX11 77 "Countfall" "variables" "I"))) rfl
theorem wfl_X11_14 : Cond.fieldLink RX11 14 "Countfall" "falseWeights" "LCountfall$IntRow;" ∈ lw_good := jg_1 (List.mem_of_getElem? (i := 163) (rfl : tables_1_1[163]? = some (Cond.fieldLink RX11 14 "Countfall" "falseWeights" "LCountfall$IntRow;"))) rfl
theorem wfl_X11_18 : Cond.fieldLink RX11 18 "Countfall" "trueWeights" "LCountfall$IntRow;" ∈ lw_good := jg_1 (List.mem_of_getElem? (i := 164) (rfl : tables_1_1[164]? = some (Cond.fieldLink RX11 18 "Countfall" "trueWeights" "LCountfall$IntRow;"))) rfl
theorem wfl_X11_24 : Cond.fieldLink RX11 24 "Countfall" "products" "LCountfall$LongRow;" ∈ lw_good := jg_1 (List.mem_of_getElem? (i := 165) (rfl : tables_1_1[165]? = some (Cond.fieldLink RX11 24 "Countfall" "products" "LCountfall$LongRow;"))) rfl
theorem wfl_X11_176 : Cond.fieldLink RX11 176 "Countfall" "settled" "I" ∈ lw_good := jg_1 (List.mem_of_getElem? (i := 166) (rfl : tables_1_1[166]? = some (Cond.fieldLink RX11 176 "Countfall" "settled" "I"))) rfl
theorem wfl_X11_173 : Cond.fieldLink RX11 173 "Countfall" "settledTrue" "I" ∈ lw_good := jg_1 (List.mem_of_getElem? (i := 167) (rfl : tables_1_1[167]? = some (Cond.fieldLink RX11 173 "Countfall" "settledTrue" "I"))) rfl
theorem wfl_X11_28 : Cond.fieldLink RX11 28 "Countfall" "order" "LCountfall$IntRow;" ∈ lw_good := jg_1 (List.mem_of_getElem? (i := 168) (rfl : tables_1_1[168]? = some (Cond.fieldLink RX11 28 "Countfall" "order" "LCountfall$IntRow;"))) rfl
theorem wfl_X11_34 : Cond.fieldLink RX11 34 "Countfall" "constraints" "LCountfall$Constraints;" ∈ lw_good := jg_1 (List.mem_of_getElem? (i := 169) (rfl : tables_1_1[169]? = some (Cond.fieldLink RX11 34 "Countfall" "constraints" "LCountfall$Constraints;"))) rfl
theorem wfl_X11_41 : Cond.fieldLink RX11 41 "Countfall" "partMemory" "LCountfall$PartMemory;" ∈ lw_good := jg_1 (List.mem_of_getElem? (i := 170) (rfl : tables_1_1[170]? = some (Cond.fieldLink RX11 41 "Countfall" "partMemory" "LCountfall$PartMemory;"))) rfl
theorem wfl_X11_48 : Cond.fieldLink RX11 48 "Countfall" "modelSet" "LCountfall$Assignments;" ∈ lw_good := jg_1 (List.mem_of_getElem? (i := 171) (rfl : tables_1_1[171]? = some (Cond.fieldLink RX11 48 "Countfall" "modelSet" "LCountfall$Assignments;"))) rfl
theorem wfl_X11_94 : Cond.fieldLink RX11 94 "Countfall" "modelSetIsFresh" "Z" ∈ lw_good := jg_1 (List.mem_of_getElem? (i := 172) (rfl : tables_1_1[172]? = some (Cond.fieldLink RX11 94 "Countfall" "modelSetIsFresh" "Z"))) rfl
theorem wfl_X11_52 : Cond.fieldLink RX11 52 "Countfall" "projections" "LCountfall$Assignments;" ∈ lw_good := jg_1 (List.mem_of_getElem? (i := 173) (rfl : tables_1_1[173]? = some (Cond.fieldLink RX11 52 "Countfall" "projections" "LCountfall$Assignments;"))) rfl
theorem wfl_X11_58 : Cond.fieldLink RX11 58 "Countfall" "ranking" "LCountfall$Ranking;" ∈ lw_good := jg_1 (List.mem_of_getElem? (i := 174) (rfl : tables_1_1[174]? = some (Cond.fieldLink RX11 58 "Countfall" "ranking" "LCountfall$Ranking;"))) rfl
theorem wfl_X11_65 : Cond.fieldLink RX11 65 "Countfall" "circuit" "LCountfall$Circuit;" ∈ lw_good := jg_1 (List.mem_of_getElem? (i := 175) (rfl : tables_1_1[175]? = some (Cond.fieldLink RX11 65 "Countfall" "circuit" "LCountfall$Circuit;"))) rfl
theorem wfl_X11_69 : Cond.fieldLink RX11 69 "Countfall" "slots" "[LCountfall$Assignments;" ∈ lw_good := jg_1 (List.mem_of_getElem? (i := 176) (rfl : tables_1_1[176]? = some (Cond.fieldLink RX11 69 "Countfall" "slots" "[LCountfall$Assignments;"))) rfl
theorem wk_J6_265 : Cond.constant RJ6 265 1431655765 ∈ lw_good := jg_2 (List.mem_of_getElem? (i := 9) (rfl : tables_1_2[9]? = some (Cond.constant RJ6 265 1431655765))) rfl
theorem wk_J6_266 : Cond.constant RJ6 266 858993459 ∈ lw_good := jg_2 (List.mem_of_getElem? (i := 10) (rfl : tables_1_2[10]? = some (Cond.constant RJ6 266 858993459))) rfl
theorem wk_J6_267 : Cond.constant RJ6 267 252645135 ∈ lw_good := jg_2 (List.mem_of_getElem? (i := 11) (rfl : tables_1_2[11]? = some (Cond.constant RJ6 267 252645135))) rfl
theorem wk_J13_314 : Cond.constantLong RJ13 314 6148914691236517205 ∈ lw_good := jg_2 (List.mem_of_getElem? (i := 94) (rfl : tables_1_2[94]? = some (Cond.constantLong RJ13 314 6148914691236517205))) rfl
theorem wk_J13_316 : Cond.constantLong RJ13 316 3689348814741910323 ∈ lw_good := jg_2 (List.mem_of_getElem? (i := 95) (rfl : tables_1_2[95]? = some (Cond.constantLong RJ13 316 3689348814741910323))) rfl
theorem wk_J13_318 : Cond.constantLong RJ13 318 1085102592571150095 ∈ lw_good := jg_2 (List.mem_of_getElem? (i := 96) (rfl : tables_1_2[96]? = some (Cond.constantLong RJ13 318 1085102592571150095))) rfl
theorem wcl_L_13 : Cond.classLink RL 13 "java/lang/IllegalStateException" ∈ lw_good := jg_2 (List.mem_of_getElem? (i := 164) (rfl : tables_1_2[164]? = some (Cond.classLink RL 13 "java/lang/IllegalStateException"))) rfl
theorem wcl_X11_81 : Cond.classLink RX11 81 "java/lang/IllegalStateException" ∈ lw_good := jg_2 (List.mem_of_getElem? (i := 169) (rfl : tables_1_2[169]? = some (Cond.classLink RX11 81 "java/lang/IllegalStateException"))) rfl
theorem wcl_L_19 : Cond.classLink RL 19 "java/lang/IndexOutOfBoundsException" ∈ lw_good := jg_3 (List.mem_of_getElem? (i := 8) (rfl : tables_1_3[8]? = some (Cond.classLink RL 19 "java/lang/IndexOutOfBoundsException"))) rfl
theorem wcl_L_21 : Cond.classLink RL 21 "java/lang/IllegalArgumentException" ∈ lw_good := jg_3 (List.mem_of_getElem? (i := 9) (rfl : tables_1_3[9]? = some (Cond.classLink RL 21 "java/lang/IllegalArgumentException"))) rfl
theorem wcl_X11_311 : Cond.classLink RX11 311 "java/lang/IndexOutOfBoundsException" ∈ lw_good := jg_3 (List.mem_of_getElem? (i := 18) (rfl : tables_1_3[18]? = some (Cond.classLink RX11 311 "java/lang/IndexOutOfBoundsException"))) rfl
theorem wcl_X11_101 : Cond.classLink RX11 101 "java/lang/IllegalArgumentException" ∈ lw_good := jg_3 (List.mem_of_getElem? (i := 34) (rfl : tables_1_3[34]? = some (Cond.classLink RX11 101 "java/lang/IllegalArgumentException"))) rfl
theorem wcl_X11_119 : Cond.classLink RX11 119 RX3 ∈ lw_good := jg_3 (List.mem_of_getElem? (i := 76) (rfl : tables_1_3[76]? = some (Cond.classLink RX11 119 RX3))) rfl
theorem wmk_X3 : Cond.instantiable RX3 4 ∈ lw_good := jg_3 (List.mem_of_getElem? (i := 77) (rfl : tables_1_3[77]? = some (Cond.instantiable RX3 4))) rfl
theorem wfl_X3_7 : Cond.fieldLink RX3 7 "Countfall$Clause" "yes" "I" ∈ lw_good := jg_3 (List.mem_of_getElem? (i := 85) (rfl : tables_1_3[85]? = some (Cond.fieldLink RX3 7 "Countfall$Clause" "yes" "I"))) rfl
theorem wfl_X3_13 : Cond.fieldLink RX3 13 "Countfall$Clause" "no" "I" ∈ lw_good := jg_3 (List.mem_of_getElem? (i := 86) (rfl : tables_1_3[86]? = some (Cond.fieldLink RX3 13 "Countfall$Clause" "no" "I"))) rfl
theorem wfl_X4_7 : Cond.fieldLink RX4 7 "Countfall$Constraint" "sign" "C" ∈ lw_good := jg_3 (List.mem_of_getElem? (i := 87) (rfl : tables_1_3[87]? = some (Cond.fieldLink RX4 7 "Countfall$Constraint" "sign" "C"))) rfl
theorem wfl_X11_162 : Cond.fieldLink RX11 162 "Countfall$Constraint" "sign" "C" ∈ lw_good := jg_3 (List.mem_of_getElem? (i := 88) (rfl : tables_1_3[88]? = some (Cond.fieldLink RX11 162 "Countfall$Constraint" "sign" "C"))) rfl
theorem wfl_X4_13 : Cond.fieldLink RX4 13 "Countfall$Constraint" "members" "I" ∈ lw_good := jg_3 (List.mem_of_getElem? (i := 89) (rfl : tables_1_3[89]? = some (Cond.fieldLink RX4 13 "Countfall$Constraint" "members" "I"))) rfl
theorem wfl_X1_16 : Cond.fieldLink RX1 16 "Countfall$Bound" "members" "I" ∈ lw_good := jg_3 (List.mem_of_getElem? (i := 90) (rfl : tables_1_3[90]? = some (Cond.fieldLink RX1 16 "Countfall$Bound" "members" "I"))) rfl
theorem wfl_X8_13 : Cond.fieldLink RX8 13 "Countfall$Parity" "members" "I" ∈ lw_good := jg_3 (List.mem_of_getElem? (i := 92) (rfl : tables_1_3[92]? = some (Cond.fieldLink RX8 13 "Countfall$Parity" "members" "I"))) rfl
theorem wfl_X5_32 : Cond.fieldLink RX5 32 "Countfall$Constraint" "members" "I" ∈ lw_good := jg_3 (List.mem_of_getElem? (i := 94) (rfl : tables_1_3[94]? = some (Cond.fieldLink RX5 32 "Countfall$Constraint" "members" "I"))) rfl
theorem wcl_X11_130 : Cond.classLink RX11 130 RX8 ∈ lw_good := jg_3 (List.mem_of_getElem? (i := 124) (rfl : tables_1_3[124]? = some (Cond.classLink RX11 130 RX8))) rfl
theorem wmk_X8 : Cond.instantiable RX8 3 ∈ lw_good := jg_3 (List.mem_of_getElem? (i := 125) (rfl : tables_1_3[125]? = some (Cond.instantiable RX8 3))) rfl
theorem wfl_X8_7 : Cond.fieldLink RX8 7 "Countfall$Parity" "rest" "I" ∈ lw_good := jg_3 (List.mem_of_getElem? (i := 130) (rfl : tables_1_3[130]? = some (Cond.fieldLink RX8 7 "Countfall$Parity" "rest" "I"))) rfl
theorem wcl_X11_135 : Cond.classLink RX11 135 RX1 ∈ lw_good := jg_3 (List.mem_of_getElem? (i := 144) (rfl : tables_1_3[144]? = some (Cond.classLink RX11 135 RX1))) rfl
theorem wmk_X1 : Cond.instantiable RX1 4 ∈ lw_good := jg_3 (List.mem_of_getElem? (i := 145) (rfl : tables_1_3[145]? = some (Cond.instantiable RX1 4))) rfl
theorem wfl_X1_7 : Cond.fieldLink RX1 7 "Countfall$Bound" "least" "I" ∈ lw_good := jg_3 (List.mem_of_getElem? (i := 150) (rfl : tables_1_3[150]? = some (Cond.fieldLink RX1 7 "Countfall$Bound" "least" "I"))) rfl
theorem wfl_X1_13 : Cond.fieldLink RX1 13 "Countfall$Bound" "greatest" "I" ∈ lw_good := jg_3 (List.mem_of_getElem? (i := 151) (rfl : tables_1_3[151]? = some (Cond.fieldLink RX1 13 "Countfall$Bound" "greatest" "I"))) rfl
theorem wcl_L_56 : Cond.classLink RL 56 "java/util/NoSuchElementException" ∈ lw_good := jg_3 (List.mem_of_getElem? (i := 218) (rfl : tables_1_3[218]? = some (Cond.classLink RL 56 "java/util/NoSuchElementException"))) rfl
theorem wcl_X11_238 : Cond.classLink RX11 238 "java/util/NoSuchElementException" ∈ lw_good := jg_3 (List.mem_of_getElem? (i := 227) (rfl : tables_1_3[227]? = some (Cond.classLink RX11 238 "java/util/NoSuchElementException"))) rfl
theorem wcl_L_102 : Cond.classLink RL 102 "java/lang/UnsupportedOperationException" ∈ lw_good := jg_4 (List.mem_of_getElem? (i := 147) (rfl : tables_1_4[147]? = some (Cond.classLink RL 102 "java/lang/UnsupportedOperationException"))) rfl
theorem wcl_X11_342 : Cond.classLink RX11 342 "java/lang/UnsupportedOperationException" ∈ lw_good := jg_4 (List.mem_of_getElem? (i := 167) (rfl : tables_1_4[167]? = some (Cond.classLink RX11 342 "java/lang/UnsupportedOperationException"))) rfl
theorem wk_X0_42 : Cond.constantLong RX0 42 (-1) ∈ lw_good := jg_4 (List.mem_of_getElem? (i := 208) (rfl : tables_1_4[208]? = some (Cond.constantLong RX0 42 (-1)))) rfl
theorem wcl_L_127 : Cond.classLink RL 127 RX12 ∈ lw_good := jg_5 (List.mem_of_getElem? (i := 28) (rfl : tables_1_5[28]? = some (Cond.classLink RL 127 RX12))) rfl
theorem wmk_X12 : Cond.instantiable RX12 17 ∈ lw_good := jg_5 (List.mem_of_getElem? (i := 29) (rfl : tables_1_5[29]? = some (Cond.instantiable RX12 17))) rfl
theorem wcl_X12_50 : Cond.classLink RX12 50 "[[Z" ∈ lw_good := jg_5 (List.mem_of_getElem? (i := 34) (rfl : tables_1_5[34]? = some (Cond.classLink RX12 50 "[[Z"))) rfl
theorem wfl_X12_1 : Cond.fieldLink RX12 1 "CountfallModel" "thrown" "I" ∈ lw_good := jg_5 (List.mem_of_getElem? (i := 36) (rfl : tables_1_5[36]? = some (Cond.fieldLink RX12 1 "CountfallModel" "thrown" "I"))) rfl
theorem wfl_X12_17 : Cond.fieldLink RX12 17 "CountfallModel" "noWeights" "[I" ∈ lw_good := jg_5 (List.mem_of_getElem? (i := 37) (rfl : tables_1_5[37]? = some (Cond.fieldLink RX12 17 "CountfallModel" "noWeights" "[I"))) rfl
theorem wfl_X12_21 : Cond.fieldLink RX12 21 "CountfallModel" "yesWeights" "[I" ∈ lw_good := jg_5 (List.mem_of_getElem? (i := 38) (rfl : tables_1_5[38]? = some (Cond.fieldLink RX12 21 "CountfallModel" "yesWeights" "[I"))) rfl
theorem wfl_X12_24 : Cond.fieldLink RX12 24 "CountfallModel" "evidence" "[I" ∈ lw_good := jg_5 (List.mem_of_getElem? (i := 39) (rfl : tables_1_5[39]? = some (Cond.fieldLink RX12 24 "CountfallModel" "evidence" "[I"))) rfl
theorem wfl_X12_27 : Cond.fieldLink RX12 27 "CountfallModel" "order" "[I" ∈ lw_good := jg_5 (List.mem_of_getElem? (i := 40) (rfl : tables_1_5[40]? = some (Cond.fieldLink RX12 27 "CountfallModel" "order" "[I"))) rfl
theorem wfl_X12_30 : Cond.fieldLink RX12 30 "CountfallModel" "kinds" "[C" ∈ lw_good := jg_5 (List.mem_of_getElem? (i := 41) (rfl : tables_1_5[41]? = some (Cond.fieldLink RX12 30 "CountfallModel" "kinds" "[C"))) rfl
theorem wfl_X12_34 : Cond.fieldLink RX12 34 "CountfallModel" "sets" "[I" ∈ lw_good := jg_5 (List.mem_of_getElem? (i := 42) (rfl : tables_1_5[42]? = some (Cond.fieldLink RX12 34 "CountfallModel" "sets" "[I"))) rfl
theorem wfl_X12_37 : Cond.fieldLink RX12 37 "CountfallModel" "others" "[I" ∈ lw_good := jg_5 (List.mem_of_getElem? (i := 43) (rfl : tables_1_5[43]? = some (Cond.fieldLink RX12 37 "CountfallModel" "others" "[I"))) rfl
theorem wfl_X12_40 : Cond.fieldLink RX12 40 "CountfallModel" "least" "[I" ∈ lw_good := jg_5 (List.mem_of_getElem? (i := 44) (rfl : tables_1_5[44]? = some (Cond.fieldLink RX12 40 "CountfallModel" "least" "[I"))) rfl
theorem wfl_X12_43 : Cond.fieldLink RX12 43 "CountfallModel" "greatest" "[I" ∈ lw_good := jg_5 (List.mem_of_getElem? (i := 45) (rfl : tables_1_5[45]? = some (Cond.fieldLink RX12 43 "CountfallModel" "greatest" "[I"))) rfl
theorem wfl_X12_46 : Cond.fieldLink RX12 46 "CountfallModel" "isDropped" "[Z" ∈ lw_good := jg_5 (List.mem_of_getElem? (i := 46) (rfl : tables_1_5[46]? = some (Cond.fieldLink RX12 46 "CountfallModel" "isDropped" "[Z"))) rfl
theorem wfl_X12_64 : Cond.fieldLink RX12 64 "CountfallModel" "variables" "I" ∈ lw_good := jg_5 (List.mem_of_getElem? (i := 47) (rfl : tables_1_5[47]? = some (Cond.fieldLink RX12 64 "CountfallModel" "variables" "I"))) rfl
theorem wfl_X12_79 : Cond.fieldLink RX12 79 "CountfallModel" "many" "I" ∈ lw_good := jg_5 (List.mem_of_getElem? (i := 48) (rfl : tables_1_5[48]? = some (Cond.fieldLink RX12 79 "CountfallModel" "many" "I"))) rfl
theorem wfl_X12_52 : Cond.fieldLink RX12 52 "CountfallModel" "kept" "[[Z" ∈ lw_good := jg_5 (List.mem_of_getElem? (i := 49) (rfl : tables_1_5[49]? = some (Cond.fieldLink RX12 52 "CountfallModel" "kept" "[[Z"))) rfl
theorem wfl_X12_55 : Cond.fieldLink RX12 55 "CountfallModel" "keptVariables" "[I" ∈ lw_good := jg_5 (List.mem_of_getElem? (i := 50) (rfl : tables_1_5[50]? = some (Cond.fieldLink RX12 55 "CountfallModel" "keptVariables" "[I"))) rfl
theorem wfl_X12_58 : Cond.fieldLink RX12 58 "CountfallModel" "row" "[Z" ∈ lw_good := jg_5 (List.mem_of_getElem? (i := 51) (rfl : tables_1_5[51]? = some (Cond.fieldLink RX12 58 "CountfallModel" "row" "[Z"))) rfl
theorem wfl_X12_61 : Cond.fieldLink RX12 61 "CountfallModel" "turned" "[Z" ∈ lw_good := jg_5 (List.mem_of_getElem? (i := 52) (rfl : tables_1_5[52]? = some (Cond.fieldLink RX12 61 "CountfallModel" "turned" "[Z"))) rfl
theorem wk_L_210 : Cond.constantLong RL 210 4294967295 ∈ lw_good := jg_6 (List.mem_of_getElem? (i := 121) (rfl : tables_1_6[121]? = some (Cond.constantLong RL 210 4294967295))) rfl
theorem wml_L_126 : Cond.methodLink RL 126 yX11_init ∈ lw_good := jg_1 (List.mem_of_getElem? (i := 26) (rfl : tables_1_1[26]? = some (Cond.methodLink RL 126 yX11_init))) rfl
theorem winst_X11_init : Cond.instanceMethod yX11_init ∈ lw_good := jg_1 (List.mem_of_getElem? (i := 27) (rfl : tables_1_1[27]? = some (Cond.instanceMethod yX11_init))) rfl
theorem wcode_X11_init : Cond.code yX11_init cX11_init 2 none ∈ lw_good := jg_1 (List.mem_of_getElem? (i := 28) (rfl : tables_1_1[28]? = some (Cond.code yX11_init cX11_init 2 none))) rfl
theorem wm_L_126 : Cond.methodLink RL 126 yX11_init ∈ lw_good ∧ Cond.instanceMethod yX11_init ∈ lw_good ∧ Cond.initialized yX11_init.cls ∈ lw_good ∧ (∀ w ∈ jws yX11_init cX11_init 2 none, w ∈ lw_good) := ⟨wml_L_126, winst_X11_init, wini_X11, jg4 wcode_X11_init⟩
theorem wml_X11_11 : Cond.methodLink RX11 11 yX6_init ∈ lw_good := jg_1 (List.mem_of_getElem? (i := 34) (rfl : tables_1_1[34]? = some (Cond.methodLink RX11 11 yX6_init))) rfl
theorem winst_X6_init : Cond.instanceMethod yX6_init ∈ lw_good := jg_1 (List.mem_of_getElem? (i := 35) (rfl : tables_1_1[35]? = some (Cond.instanceMethod yX6_init))) rfl
theorem wcode_X6_init : Cond.code yX6_init cX6_init 2 none ∈ lw_good := jg_1 (List.mem_of_getElem? (i := 36) (rfl : tables_1_1[36]? = some (Cond.code yX6_init cX6_init 2 none))) rfl
theorem wm_X11_11 : Cond.methodLink RX11 11 yX6_init ∈ lw_good ∧ Cond.instanceMethod yX6_init ∈ lw_good ∧ Cond.initialized yX6_init.cls ∈ lw_good ∧ (∀ w ∈ jws yX6_init cX6_init 2 none, w ∈ lw_good) := ⟨wml_X11_11, winst_X6_init, wini_X6, jg4 wcode_X6_init⟩
theorem wml_X11_23 : Cond.methodLink RX11 23 yX7_init ∈ lw_good := jg_1 (List.mem_of_getElem? (i := 45) (rfl : tables_1_1[45]? = some (Cond.methodLink RX11 23 yX7_init))) rfl
theorem winst_X7_init : Cond.instanceMethod yX7_init ∈ lw_good := jg_1 (List.mem_of_getElem? (i := 46) (rfl : tables_1_1[46]? = some (Cond.instanceMethod yX7_init))) rfl
theorem wcode_X7_init : Cond.code yX7_init cX7_init 2 none ∈ lw_good := jg_1 (List.mem_of_getElem? (i := 47) (rfl : tables_1_1[47]? = some (Cond.code yX7_init cX7_init 2 none))) rfl
theorem wm_X11_23 : Cond.methodLink RX11 23 yX7_init ∈ lw_good ∧ Cond.instanceMethod yX7_init ∈ lw_good ∧ Cond.initialized yX7_init.cls ∈ lw_good ∧ (∀ w ∈ jws yX7_init cX7_init 2 none, w ∈ lw_good) := ⟨wml_X11_23, winst_X7_init, wini_X7, jg4 wcode_X7_init⟩
theorem wml_X9_11 : Cond.methodLink RX9 11 yX6_init ∈ lw_good := jg_1 (List.mem_of_getElem? (i := 79) (rfl : tables_1_1[79]? = some (Cond.methodLink RX9 11 yX6_init))) rfl
theorem wm_X9_11 : Cond.methodLink RX9 11 yX6_init ∈ lw_good ∧ Cond.instanceMethod yX6_init ∈ lw_good ∧ Cond.initialized yX6_init.cls ∈ lw_good ∧ (∀ w ∈ jws yX6_init cX6_init 2 none, w ∈ lw_good) := ⟨wml_X9_11, winst_X6_init, wini_X6, jg4 wcode_X6_init⟩
theorem wml_X9_28 : Cond.methodLink RX9 28 yX7_init ∈ lw_good := jg_1 (List.mem_of_getElem? (i := 81) (rfl : tables_1_1[81]? = some (Cond.methodLink RX9 28 yX7_init))) rfl
theorem wm_X9_28 : Cond.methodLink RX9 28 yX7_init ∈ lw_good ∧ Cond.instanceMethod yX7_init ∈ lw_good ∧ Cond.initialized yX7_init.cls ∈ lw_good ∧ (∀ w ∈ jws yX7_init cX7_init 2 none, w ∈ lw_good) := ⟨wml_X9_28, winst_X7_init, wini_X7, jg4 wcode_X7_init⟩
theorem wml_X0_13 : Cond.methodLink RX0 13 yX7_init ∈ lw_good := jg_1 (List.mem_of_getElem? (i := 102) (rfl : tables_1_1[102]? = some (Cond.methodLink RX0 13 yX7_init))) rfl
theorem wm_X0_13 : Cond.methodLink RX0 13 yX7_init ∈ lw_good ∧ Cond.instanceMethod yX7_init ∈ lw_good ∧ Cond.initialized yX7_init.cls ∈ lw_good ∧ (∀ w ∈ jws yX7_init cX7_init 2 none, w ∈ lw_good) := ⟨wml_X0_13, winst_X7_init, wini_X7, jg4 wcode_X7_init⟩
theorem wml_X10_13 : Cond.methodLink RX10 13 yX6_init ∈ lw_good := jg_1 (List.mem_of_getElem? (i := 117) (rfl : tables_1_1[117]? = some (Cond.methodLink RX10 13 yX6_init))) rfl
theorem wm_X10_13 : Cond.methodLink RX10 13 yX6_init ∈ lw_good ∧ Cond.instanceMethod yX6_init ∈ lw_good ∧ Cond.initialized yX6_init.cls ∈ lw_good ∧ (∀ w ∈ jws yX6_init cX6_init 2 none, w ∈ lw_good) := ⟨wml_X10_13, winst_X6_init, wini_X6, jg4 wcode_X6_init⟩
theorem wml_X10_22 : Cond.methodLink RX10 22 yX7_init ∈ lw_good := jg_1 (List.mem_of_getElem? (i := 119) (rfl : tables_1_1[119]? = some (Cond.methodLink RX10 22 yX7_init))) rfl
theorem wm_X10_22 : Cond.methodLink RX10 22 yX7_init ∈ lw_good ∧ Cond.instanceMethod yX7_init ∈ lw_good ∧ Cond.initialized yX7_init.cls ∈ lw_good ∧ (∀ w ∈ jws yX7_init cX7_init 2 none, w ∈ lw_good) := ⟨wml_X10_22, winst_X7_init, wini_X7, jg4 wcode_X7_init⟩
theorem wml_X2_11 : Cond.methodLink RX2 11 yX6_init ∈ lw_good := jg_1 (List.mem_of_getElem? (i := 137) (rfl : tables_1_1[137]? = some (Cond.methodLink RX2 11 yX6_init))) rfl
theorem wm_X2_11 : Cond.methodLink RX2 11 yX6_init ∈ lw_good ∧ Cond.instanceMethod yX6_init ∈ lw_good ∧ Cond.initialized yX6_init.cls ∈ lw_good ∧ (∀ w ∈ jws yX6_init cX6_init 2 none, w ∈ lw_good) := ⟨wml_X2_11, winst_X6_init, wini_X6, jg4 wcode_X6_init⟩
theorem wml_X11_73 : Cond.methodLink RX11 73 yX7_put ∈ lw_good := jg_1 (List.mem_of_getElem? (i := 158) (rfl : tables_1_1[158]? = some (Cond.methodLink RX11 73 yX7_put))) rfl
theorem winst_X7_put : Cond.instanceMethod yX7_put ∈ lw_good := jg_1 (List.mem_of_getElem? (i := 159) (rfl : tables_1_1[159]? = some (Cond.instanceMethod yX7_put))) rfl
theorem wsel_X7_put : Cond.selects RX7 yX7_put yX7_put ∈ lw_good := jg_1 (List.mem_of_getElem? (i := 160) (rfl : tables_1_1[160]? = some (Cond.selects RX7 yX7_put yX7_put))) rfl
theorem wcode_X7_put : Cond.code yX7_put cX7_put 4 none ∈ lw_good := jg_1 (List.mem_of_getElem? (i := 161) (rfl : tables_1_1[161]? = some (Cond.code yX7_put cX7_put 4 none))) rfl
theorem wm_X11_73 : ∀ w ∈ wsV RX11 73 RX7 yX7_put (jws yX7_put cX7_put 4 none), w ∈ lw_good := jgV wml_X11_73 winst_X7_put wsel_X7_put wini_X7 (jg4 wcode_X7_put)
theorem wml_L_166 : Cond.methodLink RL 166 yX11_models ∈ lw_good := jg_1 (List.mem_of_getElem? (i := 208) (rfl : tables_1_1[208]? = some (Cond.methodLink RL 166 yX11_models))) rfl
theorem winst_X11_models : Cond.instanceMethod yX11_models ∈ lw_good := jg_1 (List.mem_of_getElem? (i := 209) (rfl : tables_1_1[209]? = some (Cond.instanceMethod yX11_models))) rfl
theorem wsel_X11_models : Cond.selects RX11 yX11_models yX11_models ∈ lw_good := jg_1 (List.mem_of_getElem? (i := 210) (rfl : tables_1_1[210]? = some (Cond.selects RX11 yX11_models yX11_models))) rfl
theorem wcode_X11_models : Cond.code yX11_models cX11_models 8 (some .long) ∈ lw_good := jg_1 (List.mem_of_getElem? (i := 211) (rfl : tables_1_1[211]? = some (Cond.code yX11_models cX11_models 8 (some .long)))) rfl
theorem wm_L_166 : ∀ w ∈ wsV RL 166 RX11 yX11_models (jws yX11_models cX11_models 8 (some .long)), w ∈ lw_good := jgV wml_L_166 winst_X11_models wsel_X11_models wini_X11 (jg4 wcode_X11_models)
theorem wml_X11_182 : Cond.methodLink RX11 182 yX11_openVariables ∈ lw_good := jg_1 (List.mem_of_getElem? (i := 212) (rfl : tables_1_1[212]? = some (Cond.methodLink RX11 182 yX11_openVariables))) rfl
theorem winst_X11_openVariables : Cond.instanceMethod yX11_openVariables ∈ lw_good := jg_1 (List.mem_of_getElem? (i := 214) (rfl : tables_1_1[214]? = some (Cond.instanceMethod yX11_openVariables))) rfl
theorem wsel_X11_openVariables : Cond.selects RX11 yX11_openVariables yX11_openVariables ∈ lw_good := jg_s (List.mem_of_getElem? (i := 0) (rfl : (k2_sels lw_privs)[0]? = some (Cond.selects RX11 yX11_openVariables yX11_openVariables))) rfl
theorem wcode_X11_openVariables : Cond.code yX11_openVariables cX11_openVariables 1 (some .int) ∈ lw_good := jg_1 (List.mem_of_getElem? (i := 215) (rfl : tables_1_1[215]? = some (Cond.code yX11_openVariables cX11_openVariables 1 (some .int)))) rfl
theorem wm_X11_182 : ∀ w ∈ wsV RX11 182 RX11 yX11_openVariables (jws yX11_openVariables cX11_openVariables 1 (some .int)), w ∈ lw_good := jgV wml_X11_182 winst_X11_openVariables wsel_X11_openVariables wini_X11 (jg4 wcode_X11_openVariables)
theorem wml_X11_318 : Cond.methodLink RX11 318 yX11_everyVariable ∈ lw_good := jg_1 (List.mem_of_getElem? (i := 216) (rfl : tables_1_1[216]? = some (Cond.methodLink RX11 318 yX11_everyVariable))) rfl
theorem winst_X11_everyVariable : Cond.instanceMethod yX11_everyVariable ∈ lw_good := jg_1 (List.mem_of_getElem? (i := 218) (rfl : tables_1_1[218]? = some (Cond.instanceMethod yX11_everyVariable))) rfl
theorem wsel_X11_everyVariable : Cond.selects RX11 yX11_everyVariable yX11_everyVariable ∈ lw_good := jg_s (List.mem_of_getElem? (i := 1) (rfl : (k2_sels lw_privs)[1]? = some (Cond.selects RX11 yX11_everyVariable yX11_everyVariable))) rfl
theorem wcode_X11_everyVariable : Cond.code yX11_everyVariable cX11_everyVariable 1 (some .int) ∈ lw_good := jg_1 (List.mem_of_getElem? (i := 219) (rfl : tables_1_1[219]? = some (Cond.code yX11_everyVariable cX11_everyVariable 1 (some .int)))) rfl
theorem wm_X11_318 : ∀ w ∈ wsV RX11 318 RX11 yX11_everyVariable (jws yX11_everyVariable cX11_everyVariable 1 (some .int)), w ∈ lw_good := jgV wml_X11_318 winst_X11_everyVariable wsel_X11_everyVariable wini_X11 (jg4 wcode_X11_everyVariable)
theorem wml_X11_221 : Cond.methodLink RX11 221 yX11_countAssignments ∈ lw_good := jg_1 (List.mem_of_getElem? (i := 220) (rfl : tables_1_1[220]? = some (Cond.methodLink RX11 221 yX11_countAssignments))) rfl
theorem winst_X11_countAssignments : Cond.instanceMethod yX11_countAssignments ∈ lw_good := jg_1 (List.mem_of_getElem? (i := 222) (rfl : tables_1_1[222]? = some (Cond.instanceMethod yX11_countAssignments))) rfl
theorem wsel_X11_countAssignments : Cond.selects RX11 yX11_countAssignments yX11_countAssignments ∈ lw_good := jg_s (List.mem_of_getElem? (i := 2) (rfl : (k2_sels lw_privs)[2]? = some (Cond.selects RX11 yX11_countAssignments yX11_countAssignments))) rfl
theorem wcode_X11_countAssignments : Cond.code yX11_countAssignments cX11_countAssignments 1 (some .int) ∈ lw_good := jg_1 (List.mem_of_getElem? (i := 223) (rfl : tables_1_1[223]? = some (Cond.code yX11_countAssignments cX11_countAssignments 1 (some .int)))) rfl
theorem wm_X11_221 : ∀ w ∈ wsV RX11 221 RX11 yX11_countAssignments (jws yX11_countAssignments cX11_countAssignments 1 (some .int)), w ∈ lw_good := jgV wml_X11_221 winst_X11_countAssignments wsel_X11_countAssignments wini_X11 (jg4 wcode_X11_countAssignments)
theorem wml_X11_153 : Cond.methodLink RX11 153 yX5_live ∈ lw_good := jg_1 (List.mem_of_getElem? (i := 224) (rfl : tables_1_1[224]? = some (Cond.methodLink RX11 153 yX5_live))) rfl
theorem winst_X5_live : Cond.instanceMethod yX5_live ∈ lw_good := jg_1 (List.mem_of_getElem? (i := 225) (rfl : tables_1_1[225]? = some (Cond.instanceMethod yX5_live))) rfl
theorem wsel_X5_live : Cond.selects RX5 yX5_live yX5_live ∈ lw_good := jg_1 (List.mem_of_getElem? (i := 226) (rfl : tables_1_1[226]? = some (Cond.selects RX5 yX5_live yX5_live))) rfl
theorem wcode_X5_live : Cond.code yX5_live cX5_live 1 (some .int) ∈ lw_good := jg_1 (List.mem_of_getElem? (i := 227) (rfl : tables_1_1[227]? = some (Cond.code yX5_live cX5_live 1 (some .int)))) rfl
theorem wm_X11_153 : ∀ w ∈ wsV RX11 153 RX5 yX5_live (jws yX5_live cX5_live 1 (some .int)), w ∈ lw_good := jgV wml_X11_153 winst_X5_live wsel_X5_live wini_X5 (jg4 wcode_X5_live)
theorem wml_X11_185 : Cond.methodLink RX11 185 yX5_touching ∈ lw_good := jg_1 (List.mem_of_getElem? (i := 228) (rfl : tables_1_1[228]? = some (Cond.methodLink RX11 185 yX5_touching))) rfl
theorem winst_X5_touching : Cond.instanceMethod yX5_touching ∈ lw_good := jg_1 (List.mem_of_getElem? (i := 229) (rfl : tables_1_1[229]? = some (Cond.instanceMethod yX5_touching))) rfl
theorem wsel_X5_touching : Cond.selects RX5 yX5_touching yX5_touching ∈ lw_good := jg_1 (List.mem_of_getElem? (i := 230) (rfl : tables_1_1[230]? = some (Cond.selects RX5 yX5_touching yX5_touching))) rfl
theorem wcode_X5_touching : Cond.code yX5_touching cX5_touching 5 (some .int) ∈ lw_good := jg_1 (List.mem_of_getElem? (i := 231) (rfl : tables_1_1[231]? = some (Cond.code yX5_touching cX5_touching 5 (some .int)))) rfl
theorem wm_X11_185 : ∀ w ∈ wsV RX11 185 RX5 yX5_touching (jws yX5_touching cX5_touching 5 (some .int)), w ∈ lw_good := jgV wml_X11_185 winst_X5_touching wsel_X5_touching wini_X5 (jg4 wcode_X5_touching)
theorem wml_X5_24 : Cond.methodLink RX5 24 yX5_at ∈ lw_good := jg_1 (List.mem_of_getElem? (i := 232) (rfl : tables_1_1[232]? = some (Cond.methodLink RX5 24 yX5_at))) rfl
theorem winst_X5_at : Cond.instanceMethod yX5_at ∈ lw_good := jg_1 (List.mem_of_getElem? (i := 233) (rfl : tables_1_1[233]? = some (Cond.instanceMethod yX5_at))) rfl
theorem wsel_X5_at : Cond.selects RX5 yX5_at yX5_at ∈ lw_good := jg_1 (List.mem_of_getElem? (i := 234) (rfl : tables_1_1[234]? = some (Cond.selects RX5 yX5_at yX5_at))) rfl
theorem wcode_X5_at : Cond.code yX5_at cX5_at 2 (some (.object "Countfall$Constraint")) ∈ lw_good := jg_1 (List.mem_of_getElem? (i := 235) (rfl : tables_1_1[235]? = some (Cond.code yX5_at cX5_at 2 (some (.object "Countfall$Constraint"))))) rfl
theorem wm_X5_24 : ∀ w ∈ wsV RX5 24 RX5 yX5_at (jws yX5_at cX5_at 2 (some (.object "Countfall$Constraint"))), w ∈ lw_good := jgV wml_X5_24 winst_X5_at wsel_X5_at wini_X5 (jg4 wcode_X5_at)
theorem wml_X11_188 : Cond.methodLink RX11 188 yX5_areMet ∈ lw_good := jg_1 (List.mem_of_getElem? (i := 236) (rfl : tables_1_1[236]? = some (Cond.methodLink RX11 188 yX5_areMet))) rfl
theorem winst_X5_areMet : Cond.instanceMethod yX5_areMet ∈ lw_good := jg_1 (List.mem_of_getElem? (i := 237) (rfl : tables_1_1[237]? = some (Cond.instanceMethod yX5_areMet))) rfl
theorem wsel_X5_areMet : Cond.selects RX5 yX5_areMet yX5_areMet ∈ lw_good := jg_1 (List.mem_of_getElem? (i := 238) (rfl : tables_1_1[238]? = some (Cond.selects RX5 yX5_areMet yX5_areMet))) rfl
theorem wcode_X5_areMet : Cond.code yX5_areMet cX5_areMet 5 (some .boolean) ∈ lw_good := jg_1 (List.mem_of_getElem? (i := 239) (rfl : tables_1_1[239]? = some (Cond.code yX5_areMet cX5_areMet 5 (some .boolean)))) rfl
theorem wm_X11_188 : ∀ w ∈ wsV RX11 188 RX5 yX5_areMet (jws yX5_areMet cX5_areMet 5 (some .boolean)), w ∈ lw_good := jgV wml_X11_188 winst_X5_areMet wsel_X5_areMet wini_X5 (jg4 wcode_X5_areMet)
theorem wml_X1_19 : Cond.methodLink RX1 19 yJ6_bitCount_0f7a4 ∈ lw_good := jg_2 (List.mem_of_getElem? (i := 6) (rfl : tables_1_2[6]? = some (Cond.methodLink RX1 19 yJ6_bitCount_0f7a4))) rfl
theorem wst_J6_bitCount_0f7a4 : Cond.static yJ6_bitCount_0f7a4 ∈ lw_good := jg_2 (List.mem_of_getElem? (i := 7) (rfl : tables_1_2[7]? = some (Cond.static yJ6_bitCount_0f7a4))) rfl
theorem wcode_J6_bitCount_0f7a4 : Cond.code yJ6_bitCount_0f7a4 cJ6_bitCount_0f7a4 1 (some .int) ∈ lw_good := jg_2 (List.mem_of_getElem? (i := 8) (rfl : tables_1_2[8]? = some (Cond.code yJ6_bitCount_0f7a4 cJ6_bitCount_0f7a4 1 (some .int)))) rfl
theorem wm_X1_19 : ∀ w ∈ va_wsS RX1 19 yJ6_bitCount_0f7a4 (jws yJ6_bitCount_0f7a4 cJ6_bitCount_0f7a4 1 (some .int)), w ∈ lw_good := jgSJ wml_X1_19 wst_J6_bitCount_0f7a4 wini_J6 (jg4 wcode_J6_bitCount_0f7a4)
theorem wml_X8_16 : Cond.methodLink RX8 16 yJ6_bitCount_0f7a4 ∈ lw_good := jg_2 (List.mem_of_getElem? (i := 18) (rfl : tables_1_2[18]? = some (Cond.methodLink RX8 16 yJ6_bitCount_0f7a4))) rfl
theorem wm_X8_16 : ∀ w ∈ va_wsS RX8 16 yJ6_bitCount_0f7a4 (jws yJ6_bitCount_0f7a4 cJ6_bitCount_0f7a4 1 (some .int)), w ∈ lw_good := jgSJ wml_X8_16 wst_J6_bitCount_0f7a4 wini_J6 (jg4 wcode_J6_bitCount_0f7a4)
theorem wml_X11_192 : Cond.methodLink RX11 192 yX11_partWith ∈ lw_good := jg_2 (List.mem_of_getElem? (i := 19) (rfl : tables_1_2[19]? = some (Cond.methodLink RX11 192 yX11_partWith))) rfl
theorem winst_X11_partWith : Cond.instanceMethod yX11_partWith ∈ lw_good := jg_2 (List.mem_of_getElem? (i := 21) (rfl : tables_1_2[21]? = some (Cond.instanceMethod yX11_partWith))) rfl
theorem wsel_X11_partWith : Cond.selects RX11 yX11_partWith yX11_partWith ∈ lw_good := jg_s (List.mem_of_getElem? (i := 3) (rfl : (k2_sels lw_privs)[3]? = some (Cond.selects RX11 yX11_partWith yX11_partWith))) rfl
theorem wcode_X11_partWith : Cond.code yX11_partWith cX11_partWith 6 (some .int) ∈ lw_good := jg_2 (List.mem_of_getElem? (i := 22) (rfl : tables_1_2[22]? = some (Cond.code yX11_partWith cX11_partWith 6 (some .int)))) rfl
theorem wm_X11_192 : ∀ w ∈ wsV RX11 192 RX11 yX11_partWith (jws yX11_partWith cX11_partWith 6 (some .int)), w ∈ lw_good := jgV wml_X11_192 winst_X11_partWith wsel_X11_partWith wini_X11 (jg4 wcode_X11_partWith)
theorem wml_X11_362 : Cond.methodLink RX11 362 yX5_membersOf ∈ lw_good := jg_2 (List.mem_of_getElem? (i := 23) (rfl : tables_1_2[23]? = some (Cond.methodLink RX11 362 yX5_membersOf))) rfl
theorem winst_X5_membersOf : Cond.instanceMethod yX5_membersOf ∈ lw_good := jg_2 (List.mem_of_getElem? (i := 24) (rfl : tables_1_2[24]? = some (Cond.instanceMethod yX5_membersOf))) rfl
theorem wsel_X5_membersOf : Cond.selects RX5 yX5_membersOf yX5_membersOf ∈ lw_good := jg_2 (List.mem_of_getElem? (i := 25) (rfl : tables_1_2[25]? = some (Cond.selects RX5 yX5_membersOf yX5_membersOf))) rfl
theorem wcode_X5_membersOf : Cond.code yX5_membersOf cX5_membersOf 5 (some .int) ∈ lw_good := jg_2 (List.mem_of_getElem? (i := 26) (rfl : tables_1_2[26]? = some (Cond.code yX5_membersOf cX5_membersOf 5 (some .int)))) rfl
theorem wm_X11_362 : ∀ w ∈ wsV RX11 362 RX5 yX5_membersOf (jws yX5_membersOf cX5_membersOf 5 (some .int)), w ∈ lw_good := jgV wml_X11_362 winst_X5_membersOf wsel_X5_membersOf wini_X5 (jg4 wcode_X5_membersOf)
theorem wml_X11_195 : Cond.methodLink RX11 195 yX11_countPart ∈ lw_good := jg_2 (List.mem_of_getElem? (i := 27) (rfl : tables_1_2[27]? = some (Cond.methodLink RX11 195 yX11_countPart))) rfl
theorem winst_X11_countPart : Cond.instanceMethod yX11_countPart ∈ lw_good := jg_2 (List.mem_of_getElem? (i := 29) (rfl : tables_1_2[29]? = some (Cond.instanceMethod yX11_countPart))) rfl
theorem wsel_X11_countPart : Cond.selects RX11 yX11_countPart yX11_countPart ∈ lw_good := jg_s (List.mem_of_getElem? (i := 4) (rfl : (k2_sels lw_privs)[4]? = some (Cond.selects RX11 yX11_countPart yX11_countPart))) rfl
theorem wcode_X11_countPart : Cond.code yX11_countPart cX11_countPart 5 (some .long) ∈ lw_good := jg_2 (List.mem_of_getElem? (i := 30) (rfl : tables_1_2[30]? = some (Cond.code yX11_countPart cX11_countPart 5 (some .long)))) rfl
theorem wm_X11_195 : ∀ w ∈ wsV RX11 195 RX11 yX11_countPart (jws yX11_countPart cX11_countPart 5 (some .long)), w ∈ lw_good := jgV wml_X11_195 winst_X11_countPart wsel_X11_countPart wini_X11 (jg4 wcode_X11_countPart)
theorem wml_X11_233 : Cond.methodLink RX11 233 yX11_lowestOf ∈ lw_good := jg_2 (List.mem_of_getElem? (i := 31) (rfl : tables_1_2[31]? = some (Cond.methodLink RX11 233 yX11_lowestOf))) rfl
theorem winst_X11_lowestOf : Cond.instanceMethod yX11_lowestOf ∈ lw_good := jg_2 (List.mem_of_getElem? (i := 33) (rfl : tables_1_2[33]? = some (Cond.instanceMethod yX11_lowestOf))) rfl
theorem wsel_X11_lowestOf : Cond.selects RX11 yX11_lowestOf yX11_lowestOf ∈ lw_good := jg_s (List.mem_of_getElem? (i := 5) (rfl : (k2_sels lw_privs)[5]? = some (Cond.selects RX11 yX11_lowestOf yX11_lowestOf))) rfl
theorem wcode_X11_lowestOf : Cond.code yX11_lowestOf cX11_lowestOf 3 (some .int) ∈ lw_good := jg_2 (List.mem_of_getElem? (i := 34) (rfl : tables_1_2[34]? = some (Cond.code yX11_lowestOf cX11_lowestOf 3 (some .int)))) rfl
theorem wm_X11_233 : ∀ w ∈ wsV RX11 233 RX11 yX11_lowestOf (jws yX11_lowestOf cX11_lowestOf 3 (some .int)), w ∈ lw_good := jgV wml_X11_233 winst_X11_lowestOf wsel_X11_lowestOf wini_X11 (jg4 wcode_X11_lowestOf)
theorem wml_X11_365 : Cond.methodLink RX11 365 yX9_hasKept ∈ lw_good := jg_2 (List.mem_of_getElem? (i := 35) (rfl : tables_1_2[35]? = some (Cond.methodLink RX11 365 yX9_hasKept))) rfl
theorem winst_X9_hasKept : Cond.instanceMethod yX9_hasKept ∈ lw_good := jg_2 (List.mem_of_getElem? (i := 36) (rfl : tables_1_2[36]? = some (Cond.instanceMethod yX9_hasKept))) rfl
theorem wsel_X9_hasKept : Cond.selects RX9 yX9_hasKept yX9_hasKept ∈ lw_good := jg_2 (List.mem_of_getElem? (i := 37) (rfl : tables_1_2[37]? = some (Cond.selects RX9 yX9_hasKept yX9_hasKept))) rfl
theorem wcode_X9_hasKept : Cond.code yX9_hasKept cX9_hasKept 5 (some .boolean) ∈ lw_good := jg_2 (List.mem_of_getElem? (i := 38) (rfl : tables_1_2[38]? = some (Cond.code yX9_hasKept cX9_hasKept 5 (some .boolean)))) rfl
theorem wm_X11_365 : ∀ w ∈ wsV RX11 365 RX9 yX9_hasKept (jws yX9_hasKept cX9_hasKept 5 (some .boolean)), w ∈ lw_good := jgV wml_X11_365 winst_X9_hasKept wsel_X9_hasKept wini_X9 (jg4 wcode_X9_hasKept)
theorem wml_X9_33 : Cond.methodLink RX9 33 yX6_at ∈ lw_good := jg_2 (List.mem_of_getElem? (i := 39) (rfl : tables_1_2[39]? = some (Cond.methodLink RX9 33 yX6_at))) rfl
theorem winst_X6_at : Cond.instanceMethod yX6_at ∈ lw_good := jg_2 (List.mem_of_getElem? (i := 40) (rfl : tables_1_2[40]? = some (Cond.instanceMethod yX6_at))) rfl
theorem wsel_X6_at : Cond.selects RX6 yX6_at yX6_at ∈ lw_good := jg_2 (List.mem_of_getElem? (i := 41) (rfl : tables_1_2[41]? = some (Cond.selects RX6 yX6_at yX6_at))) rfl
theorem wcode_X6_at : Cond.code yX6_at cX6_at 2 (some .int) ∈ lw_good := jg_2 (List.mem_of_getElem? (i := 42) (rfl : tables_1_2[42]? = some (Cond.code yX6_at cX6_at 2 (some .int)))) rfl
theorem wm_X9_33 : ∀ w ∈ wsV RX9 33 RX6 yX6_at (jws yX6_at cX6_at 2 (some .int)), w ∈ lw_good := jgV wml_X9_33 winst_X6_at wsel_X6_at wini_X6 (jg4 wcode_X6_at)
theorem wml_X11_369 : Cond.methodLink RX11 369 yX11_countChoices ∈ lw_good := jg_2 (List.mem_of_getElem? (i := 43) (rfl : tables_1_2[43]? = some (Cond.methodLink RX11 369 yX11_countChoices))) rfl
theorem winst_X11_countChoices : Cond.instanceMethod yX11_countChoices ∈ lw_good := jg_2 (List.mem_of_getElem? (i := 45) (rfl : tables_1_2[45]? = some (Cond.instanceMethod yX11_countChoices))) rfl
theorem wsel_X11_countChoices : Cond.selects RX11 yX11_countChoices yX11_countChoices ∈ lw_good := jg_s (List.mem_of_getElem? (i := 6) (rfl : (k2_sels lw_privs)[6]? = some (Cond.selects RX11 yX11_countChoices yX11_countChoices))) rfl
theorem wcode_X11_countChoices : Cond.code yX11_countChoices cX11_countChoices 9 (some .long) ∈ lw_good := jg_2 (List.mem_of_getElem? (i := 46) (rfl : tables_1_2[46]? = some (Cond.code yX11_countChoices cX11_countChoices 9 (some .long)))) rfl
theorem wm_X11_369 : ∀ w ∈ wsV RX11 369 RX11 yX11_countChoices (jws yX11_countChoices cX11_countChoices 9 (some .long)), w ∈ lw_good := jgV wml_X11_369 winst_X11_countChoices wsel_X11_countChoices wini_X11 (jg4 wcode_X11_countChoices)
theorem wml_X11_157 : Cond.methodLink RX11 157 yJ6_bitCount_0f7a4 ∈ lw_good := jg_2 (List.mem_of_getElem? (i := 47) (rfl : tables_1_2[47]? = some (Cond.methodLink RX11 157 yJ6_bitCount_0f7a4))) rfl
theorem wm_X11_157 : ∀ w ∈ va_wsS RX11 157 yJ6_bitCount_0f7a4 (jws yJ6_bitCount_0f7a4 cJ6_bitCount_0f7a4 1 (some .int)), w ∈ lw_good := jgSJ wml_X11_157 wst_J6_bitCount_0f7a4 wini_J6 (jg4 wcode_J6_bitCount_0f7a4)
theorem wml_X11_373 : Cond.methodLink RX11 373 yX9_note ∈ lw_good := jg_2 (List.mem_of_getElem? (i := 48) (rfl : tables_1_2[48]? = some (Cond.methodLink RX11 373 yX9_note))) rfl
theorem winst_X9_note : Cond.instanceMethod yX9_note ∈ lw_good := jg_2 (List.mem_of_getElem? (i := 49) (rfl : tables_1_2[49]? = some (Cond.instanceMethod yX9_note))) rfl
theorem wsel_X9_note : Cond.selects RX9 yX9_note yX9_note ∈ lw_good := jg_2 (List.mem_of_getElem? (i := 50) (rfl : tables_1_2[50]? = some (Cond.selects RX9 yX9_note yX9_note))) rfl
theorem wcode_X9_note : Cond.code yX9_note cX9_note 7 none ∈ lw_good := jg_2 (List.mem_of_getElem? (i := 51) (rfl : tables_1_2[51]? = some (Cond.code yX9_note cX9_note 7 none))) rfl
theorem wm_X11_373 : ∀ w ∈ wsV RX11 373 RX9 yX9_note (jws yX9_note cX9_note 7 none), w ∈ lw_good := jgV wml_X11_373 winst_X9_note wsel_X9_note wini_X9 (jg4 wcode_X9_note)
theorem wml_X9_37 : Cond.methodLink RX9 37 yX6_put ∈ lw_good := jg_2 (List.mem_of_getElem? (i := 52) (rfl : tables_1_2[52]? = some (Cond.methodLink RX9 37 yX6_put))) rfl
theorem winst_X6_put : Cond.instanceMethod yX6_put ∈ lw_good := jg_2 (List.mem_of_getElem? (i := 53) (rfl : tables_1_2[53]? = some (Cond.instanceMethod yX6_put))) rfl
theorem wsel_X6_put : Cond.selects RX6 yX6_put yX6_put ∈ lw_good := jg_2 (List.mem_of_getElem? (i := 54) (rfl : tables_1_2[54]? = some (Cond.selects RX6 yX6_put yX6_put))) rfl
theorem wcode_X6_put : Cond.code yX6_put cX6_put 3 none ∈ lw_good := jg_2 (List.mem_of_getElem? (i := 55) (rfl : tables_1_2[55]? = some (Cond.code yX6_put cX6_put 3 none))) rfl
theorem wm_X9_37 : ∀ w ∈ wsV RX9 37 RX6 yX6_put (jws yX6_put cX6_put 3 none), w ∈ lw_good := jgV wml_X9_37 winst_X6_put wsel_X6_put wini_X6 (jg4 wcode_X6_put)
theorem wml_X9_41 : Cond.methodLink RX9 41 yX7_put ∈ lw_good := jg_2 (List.mem_of_getElem? (i := 56) (rfl : tables_1_2[56]? = some (Cond.methodLink RX9 41 yX7_put))) rfl
theorem wm_X9_41 : ∀ w ∈ wsV RX9 41 RX7 yX7_put (jws yX7_put cX7_put 4 none), w ∈ lw_good := jgV wml_X9_41 winst_X7_put wsel_X7_put wini_X7 (jg4 wcode_X7_put)
theorem wml_X11_377 : Cond.methodLink RX11 377 yX9_recall ∈ lw_good := jg_2 (List.mem_of_getElem? (i := 57) (rfl : tables_1_2[57]? = some (Cond.methodLink RX11 377 yX9_recall))) rfl
theorem winst_X9_recall : Cond.instanceMethod yX9_recall ∈ lw_good := jg_2 (List.mem_of_getElem? (i := 58) (rfl : tables_1_2[58]? = some (Cond.instanceMethod yX9_recall))) rfl
theorem wsel_X9_recall : Cond.selects RX9 yX9_recall yX9_recall ∈ lw_good := jg_2 (List.mem_of_getElem? (i := 59) (rfl : tables_1_2[59]? = some (Cond.selects RX9 yX9_recall yX9_recall))) rfl
theorem wcode_X9_recall : Cond.code yX9_recall cX9_recall 2 (some .long) ∈ lw_good := jg_2 (List.mem_of_getElem? (i := 60) (rfl : tables_1_2[60]? = some (Cond.code yX9_recall cX9_recall 2 (some .long)))) rfl
theorem wm_X11_377 : ∀ w ∈ wsV RX11 377 RX9 yX9_recall (jws yX9_recall cX9_recall 2 (some .long)), w ∈ lw_good := jgV wml_X11_377 winst_X9_recall wsel_X9_recall wini_X9 (jg4 wcode_X9_recall)
theorem wml_X9_44 : Cond.methodLink RX9 44 yX7_at ∈ lw_good := jg_2 (List.mem_of_getElem? (i := 61) (rfl : tables_1_2[61]? = some (Cond.methodLink RX9 44 yX7_at))) rfl
theorem winst_X7_at : Cond.instanceMethod yX7_at ∈ lw_good := jg_2 (List.mem_of_getElem? (i := 62) (rfl : tables_1_2[62]? = some (Cond.instanceMethod yX7_at))) rfl
theorem wsel_X7_at : Cond.selects RX7 yX7_at yX7_at ∈ lw_good := jg_2 (List.mem_of_getElem? (i := 63) (rfl : tables_1_2[63]? = some (Cond.selects RX7 yX7_at yX7_at))) rfl
theorem wcode_X7_at : Cond.code yX7_at cX7_at 2 (some .long) ∈ lw_good := jg_2 (List.mem_of_getElem? (i := 64) (rfl : tables_1_2[64]? = some (Cond.code yX7_at cX7_at 2 (some .long)))) rfl
theorem wm_X9_44 : ∀ w ∈ wsV RX9 44 RX7 yX7_at (jws yX7_at cX7_at 2 (some .long)), w ∈ lw_good := jgV wml_X9_44 winst_X7_at wsel_X7_at wini_X7 (jg4 wcode_X7_at)
theorem wml_L_171 : Cond.methodLink RL 171 yX11_modelsByAll ∈ lw_good := jg_2 (List.mem_of_getElem? (i := 65) (rfl : tables_1_2[65]? = some (Cond.methodLink RL 171 yX11_modelsByAll))) rfl
theorem winst_X11_modelsByAll : Cond.instanceMethod yX11_modelsByAll ∈ lw_good := jg_2 (List.mem_of_getElem? (i := 66) (rfl : tables_1_2[66]? = some (Cond.instanceMethod yX11_modelsByAll))) rfl
theorem wsel_X11_modelsByAll : Cond.selects RX11 yX11_modelsByAll yX11_modelsByAll ∈ lw_good := jg_2 (List.mem_of_getElem? (i := 67) (rfl : tables_1_2[67]? = some (Cond.selects RX11 yX11_modelsByAll yX11_modelsByAll))) rfl
theorem wcode_X11_modelsByAll : Cond.code yX11_modelsByAll cX11_modelsByAll 1 (some .long) ∈ lw_good := jg_2 (List.mem_of_getElem? (i := 68) (rfl : tables_1_2[68]? = some (Cond.code yX11_modelsByAll cX11_modelsByAll 1 (some .long)))) rfl
theorem wm_L_171 : ∀ w ∈ wsV RL 171 RX11 yX11_modelsByAll (jws yX11_modelsByAll cX11_modelsByAll 1 (some .long)), w ∈ lw_good := jgV wml_L_171 winst_X11_modelsByAll wsel_X11_modelsByAll wini_X11 (jg4 wcode_X11_modelsByAll)
theorem wml_X11_199 : Cond.methodLink RX11 199 yX11_freshModels ∈ lw_good := jg_2 (List.mem_of_getElem? (i := 69) (rfl : tables_1_2[69]? = some (Cond.methodLink RX11 199 yX11_freshModels))) rfl
theorem winst_X11_freshModels : Cond.instanceMethod yX11_freshModels ∈ lw_good := jg_2 (List.mem_of_getElem? (i := 71) (rfl : tables_1_2[71]? = some (Cond.instanceMethod yX11_freshModels))) rfl
theorem wsel_X11_freshModels : Cond.selects RX11 yX11_freshModels yX11_freshModels ∈ lw_good := jg_s (List.mem_of_getElem? (i := 7) (rfl : (k2_sels lw_privs)[7]? = some (Cond.selects RX11 yX11_freshModels yX11_freshModels))) rfl
theorem wcode_X11_freshModels : Cond.code yX11_freshModels cX11_freshModels 3 (some (.object "Countfall$Assignments")) ∈ lw_good := jg_2 (List.mem_of_getElem? (i := 72) (rfl : tables_1_2[72]? = some (Cond.code yX11_freshModels cX11_freshModels 3 (some (.object "Countfall$Assignments"))))) rfl
theorem wm_X11_199 : ∀ w ∈ wsV RX11 199 RX11 yX11_freshModels (jws yX11_freshModels cX11_freshModels 3 (some (.object "Countfall$Assignments"))), w ∈ lw_good := jgV wml_X11_199 winst_X11_freshModels wsel_X11_freshModels wini_X11 (jg4 wcode_X11_freshModels)
theorem wml_X11_218 : Cond.methodLink RX11 218 yX0_restart ∈ lw_good := jg_2 (List.mem_of_getElem? (i := 73) (rfl : tables_1_2[73]? = some (Cond.methodLink RX11 218 yX0_restart))) rfl
theorem winst_X0_restart : Cond.instanceMethod yX0_restart ∈ lw_good := jg_2 (List.mem_of_getElem? (i := 74) (rfl : tables_1_2[74]? = some (Cond.instanceMethod yX0_restart))) rfl
theorem wsel_X0_restart : Cond.selects RX0 yX0_restart yX0_restart ∈ lw_good := jg_2 (List.mem_of_getElem? (i := 75) (rfl : tables_1_2[75]? = some (Cond.selects RX0 yX0_restart yX0_restart))) rfl
theorem wcode_X0_restart : Cond.code yX0_restart cX0_restart 3 none ∈ lw_good := jg_2 (List.mem_of_getElem? (i := 76) (rfl : tables_1_2[76]? = some (Cond.code yX0_restart cX0_restart 3 none))) rfl
theorem wm_X11_218 : ∀ w ∈ wsV RX11 218 RX0 yX0_restart (jws yX0_restart cX0_restart 3 none), w ∈ lw_good := jgV wml_X11_218 winst_X0_restart wsel_X0_restart wini_X0 (jg4 wcode_X0_restart)
theorem wml_X0_24 : Cond.methodLink RX0 24 yX7_length ∈ lw_good := jg_2 (List.mem_of_getElem? (i := 77) (rfl : tables_1_2[77]? = some (Cond.methodLink RX0 24 yX7_length))) rfl
theorem winst_X7_length : Cond.instanceMethod yX7_length ∈ lw_good := jg_2 (List.mem_of_getElem? (i := 78) (rfl : tables_1_2[78]? = some (Cond.instanceMethod yX7_length))) rfl
theorem wsel_X7_length : Cond.selects RX7 yX7_length yX7_length ∈ lw_good := jg_2 (List.mem_of_getElem? (i := 79) (rfl : tables_1_2[79]? = some (Cond.selects RX7 yX7_length yX7_length))) rfl
theorem wcode_X7_length : Cond.code yX7_length cX7_length 1 (some .int) ∈ lw_good := jg_2 (List.mem_of_getElem? (i := 80) (rfl : tables_1_2[80]? = some (Cond.code yX7_length cX7_length 1 (some .int)))) rfl
theorem wm_X0_24 : ∀ w ∈ wsV RX0 24 RX7 yX7_length (jws yX7_length cX7_length 1 (some .int)), w ∈ lw_good := jgV wml_X0_24 winst_X7_length wsel_X7_length wini_X7 (jg4 wcode_X7_length)
theorem wml_X0_28 : Cond.methodLink RX0 28 yX7_put ∈ lw_good := jg_2 (List.mem_of_getElem? (i := 81) (rfl : tables_1_2[81]? = some (Cond.methodLink RX0 28 yX7_put))) rfl
theorem wm_X0_28 : ∀ w ∈ wsV RX0 28 RX7 yX7_put (jws yX7_put cX7_put 4 none), w ∈ lw_good := jgV wml_X0_28 winst_X7_put wsel_X7_put wini_X7 (jg4 wcode_X7_put)
theorem wml_X11_227 : Cond.methodLink RX11 227 yX0_add ∈ lw_good := jg_2 (List.mem_of_getElem? (i := 82) (rfl : tables_1_2[82]? = some (Cond.methodLink RX11 227 yX0_add))) rfl
theorem winst_X0_add : Cond.instanceMethod yX0_add ∈ lw_good := jg_2 (List.mem_of_getElem? (i := 83) (rfl : tables_1_2[83]? = some (Cond.instanceMethod yX0_add))) rfl
theorem wsel_X0_add : Cond.selects RX0 yX0_add yX0_add ∈ lw_good := jg_2 (List.mem_of_getElem? (i := 84) (rfl : tables_1_2[84]? = some (Cond.selects RX0 yX0_add yX0_add))) rfl
theorem wcode_X0_add : Cond.code yX0_add cX0_add 3 none ∈ lw_good := jg_2 (List.mem_of_getElem? (i := 85) (rfl : tables_1_2[85]? = some (Cond.code yX0_add cX0_add 3 none))) rfl
theorem wm_X11_227 : ∀ w ∈ wsV RX11 227 RX0 yX0_add (jws yX0_add cX0_add 3 none), w ∈ lw_good := jgV wml_X11_227 winst_X0_add wsel_X0_add wini_X0 (jg4 wcode_X0_add)
theorem wml_X0_32 : Cond.methodLink RX0 32 yX7_at ∈ lw_good := jg_2 (List.mem_of_getElem? (i := 86) (rfl : tables_1_2[86]? = some (Cond.methodLink RX0 32 yX7_at))) rfl
theorem wm_X0_32 : ∀ w ∈ wsV RX0 32 RX7 yX7_at (jws yX7_at cX7_at 2 (some .long)), w ∈ lw_good := jgV wml_X0_32 winst_X7_at wsel_X7_at wini_X7 (jg4 wcode_X7_at)
theorem wml_X11_203 : Cond.methodLink RX11 203 yX0_size ∈ lw_good := jg_2 (List.mem_of_getElem? (i := 87) (rfl : tables_1_2[87]? = some (Cond.methodLink RX11 203 yX0_size))) rfl
theorem winst_X0_size : Cond.instanceMethod yX0_size ∈ lw_good := jg_2 (List.mem_of_getElem? (i := 88) (rfl : tables_1_2[88]? = some (Cond.instanceMethod yX0_size))) rfl
theorem wsel_X0_size : Cond.selects RX0 yX0_size yX0_size ∈ lw_good := jg_2 (List.mem_of_getElem? (i := 89) (rfl : tables_1_2[89]? = some (Cond.selects RX0 yX0_size yX0_size))) rfl
theorem wcode_X0_size : Cond.code yX0_size cX0_size 3 (some .int) ∈ lw_good := jg_2 (List.mem_of_getElem? (i := 90) (rfl : tables_1_2[90]? = some (Cond.code yX0_size cX0_size 3 (some .int)))) rfl
theorem wm_X11_203 : ∀ w ∈ wsV RX11 203 RX0 yX0_size (jws yX0_size cX0_size 3 (some .int)), w ∈ lw_good := jgV wml_X11_203 winst_X0_size wsel_X0_size wini_X0 (jg4 wcode_X0_size)
theorem wml_X0_36 : Cond.methodLink RX0 36 yJ13_bitCount_95d88 ∈ lw_good := jg_2 (List.mem_of_getElem? (i := 91) (rfl : tables_1_2[91]? = some (Cond.methodLink RX0 36 yJ13_bitCount_95d88))) rfl
theorem wst_J13_bitCount_95d88 : Cond.static yJ13_bitCount_95d88 ∈ lw_good := jg_2 (List.mem_of_getElem? (i := 92) (rfl : tables_1_2[92]? = some (Cond.static yJ13_bitCount_95d88))) rfl
theorem wcode_J13_bitCount_95d88 : Cond.code yJ13_bitCount_95d88 cJ13_bitCount_95d88 2 (some .int) ∈ lw_good := jg_2 (List.mem_of_getElem? (i := 93) (rfl : tables_1_2[93]? = some (Cond.code yJ13_bitCount_95d88 cJ13_bitCount_95d88 2 (some .int)))) rfl
theorem wm_X0_36 : ∀ w ∈ va_wsS RX0 36 yJ13_bitCount_95d88 (jws yJ13_bitCount_95d88 cJ13_bitCount_95d88 2 (some .int)), w ∈ lw_good := jgSJ wml_X0_36 wst_J13_bitCount_95d88 wini_J13 (jg4 wcode_J13_bitCount_95d88)
theorem wml_L_175 : Cond.methodLink RL 175 yX11_weight ∈ lw_good := jg_2 (List.mem_of_getElem? (i := 97) (rfl : tables_1_2[97]? = some (Cond.methodLink RL 175 yX11_weight))) rfl
theorem winst_X11_weight : Cond.instanceMethod yX11_weight ∈ lw_good := jg_2 (List.mem_of_getElem? (i := 98) (rfl : tables_1_2[98]? = some (Cond.instanceMethod yX11_weight))) rfl
theorem wsel_X11_weight : Cond.selects RX11 yX11_weight yX11_weight ∈ lw_good := jg_2 (List.mem_of_getElem? (i := 99) (rfl : tables_1_2[99]? = some (Cond.selects RX11 yX11_weight yX11_weight))) rfl
theorem wcode_X11_weight : Cond.code yX11_weight cX11_weight 1 (some .long) ∈ lw_good := jg_2 (List.mem_of_getElem? (i := 100) (rfl : tables_1_2[100]? = some (Cond.code yX11_weight cX11_weight 1 (some .long)))) rfl
theorem wm_L_175 : ∀ w ∈ wsV RL 175 RX11 yX11_weight (jws yX11_weight cX11_weight 1 (some .long)), w ∈ lw_good := jgV wml_L_175 winst_X11_weight wsel_X11_weight wini_X11 (jg4 wcode_X11_weight)
theorem wml_X11_206 : Cond.methodLink RX11 206 yX11_weightWhere ∈ lw_good := jg_2 (List.mem_of_getElem? (i := 101) (rfl : tables_1_2[101]? = some (Cond.methodLink RX11 206 yX11_weightWhere))) rfl
theorem winst_X11_weightWhere : Cond.instanceMethod yX11_weightWhere ∈ lw_good := jg_2 (List.mem_of_getElem? (i := 103) (rfl : tables_1_2[103]? = some (Cond.instanceMethod yX11_weightWhere))) rfl
theorem wsel_X11_weightWhere : Cond.selects RX11 yX11_weightWhere yX11_weightWhere ∈ lw_good := jg_s (List.mem_of_getElem? (i := 8) (rfl : (k2_sels lw_privs)[8]? = some (Cond.selects RX11 yX11_weightWhere yX11_weightWhere))) rfl
theorem wcode_X11_weightWhere : Cond.code yX11_weightWhere cX11_weightWhere 7 (some .long) ∈ lw_good := jg_2 (List.mem_of_getElem? (i := 104) (rfl : tables_1_2[104]? = some (Cond.code yX11_weightWhere cX11_weightWhere 7 (some .long)))) rfl
theorem wm_X11_206 : ∀ w ∈ wsV RX11 206 RX11 yX11_weightWhere (jws yX11_weightWhere cX11_weightWhere 7 (some .long)), w ∈ lw_good := jgV wml_X11_206 winst_X11_weightWhere wsel_X11_weightWhere wini_X11 (jg4 wcode_X11_weightWhere)
theorem wml_X11_224 : Cond.methodLink RX11 224 yX0_has ∈ lw_good := jg_2 (List.mem_of_getElem? (i := 105) (rfl : tables_1_2[105]? = some (Cond.methodLink RX11 224 yX0_has))) rfl
theorem winst_X0_has : Cond.instanceMethod yX0_has ∈ lw_good := jg_2 (List.mem_of_getElem? (i := 106) (rfl : tables_1_2[106]? = some (Cond.instanceMethod yX0_has))) rfl
theorem wsel_X0_has : Cond.selects RX0 yX0_has yX0_has ∈ lw_good := jg_2 (List.mem_of_getElem? (i := 107) (rfl : tables_1_2[107]? = some (Cond.selects RX0 yX0_has yX0_has))) rfl
theorem wcode_X0_has : Cond.code yX0_has cX0_has 2 (some .boolean) ∈ lw_good := jg_2 (List.mem_of_getElem? (i := 108) (rfl : tables_1_2[108]? = some (Cond.code yX0_has cX0_has 2 (some .boolean)))) rfl
theorem wm_X11_224 : ∀ w ∈ wsV RX11 224 RX0 yX0_has (jws yX0_has cX0_has 2 (some .boolean)), w ∈ lw_good := jgV wml_X11_224 winst_X0_has wsel_X0_has wini_X0 (jg4 wcode_X0_has)
theorem wml_X11_245 : Cond.methodLink RX11 245 yX7_at ∈ lw_good := jg_2 (List.mem_of_getElem? (i := 109) (rfl : tables_1_2[109]? = some (Cond.methodLink RX11 245 yX7_at))) rfl
theorem wm_X11_245 : ∀ w ∈ wsV RX11 245 RX7 yX7_at (jws yX7_at cX7_at 2 (some .long)), w ∈ lw_good := jgV wml_X11_245 winst_X7_at wsel_X7_at wini_X7 (jg4 wcode_X7_at)
theorem wml_L_194 : Cond.methodLink RL 194 yX11_parts ∈ lw_good := jg_2 (List.mem_of_getElem? (i := 110) (rfl : tables_1_2[110]? = some (Cond.methodLink RL 194 yX11_parts))) rfl
theorem winst_X11_parts : Cond.instanceMethod yX11_parts ∈ lw_good := jg_2 (List.mem_of_getElem? (i := 111) (rfl : tables_1_2[111]? = some (Cond.instanceMethod yX11_parts))) rfl
theorem wsel_X11_parts : Cond.selects RX11 yX11_parts yX11_parts ∈ lw_good := jg_2 (List.mem_of_getElem? (i := 112) (rfl : tables_1_2[112]? = some (Cond.selects RX11 yX11_parts yX11_parts))) rfl
theorem wcode_X11_parts : Cond.code yX11_parts cX11_parts 5 (some .int) ∈ lw_good := jg_2 (List.mem_of_getElem? (i := 113) (rfl : tables_1_2[113]? = some (Cond.code yX11_parts cX11_parts 5 (some .int)))) rfl
theorem wm_L_194 : ∀ w ∈ wsV RL 194 RX11 yX11_parts (jws yX11_parts cX11_parts 5 (some .int)), w ∈ lw_good := jgV wml_L_194 winst_X11_parts wsel_X11_parts wini_X11 (jg4 wcode_X11_parts)
theorem wml_L_219 : Cond.methodLink RL 219 yX11_nodes ∈ lw_good := jg_2 (List.mem_of_getElem? (i := 114) (rfl : tables_1_2[114]? = some (Cond.methodLink RL 219 yX11_nodes))) rfl
theorem winst_X11_nodes : Cond.instanceMethod yX11_nodes ∈ lw_good := jg_2 (List.mem_of_getElem? (i := 115) (rfl : tables_1_2[115]? = some (Cond.instanceMethod yX11_nodes))) rfl
theorem wsel_X11_nodes : Cond.selects RX11 yX11_nodes yX11_nodes ∈ lw_good := jg_2 (List.mem_of_getElem? (i := 116) (rfl : tables_1_2[116]? = some (Cond.selects RX11 yX11_nodes yX11_nodes))) rfl
theorem wcode_X11_nodes : Cond.code yX11_nodes cX11_nodes 1 (some .int) ∈ lw_good := jg_2 (List.mem_of_getElem? (i := 117) (rfl : tables_1_2[117]? = some (Cond.code yX11_nodes cX11_nodes 1 (some .int)))) rfl
theorem wm_L_219 : ∀ w ∈ wsV RL 219 RX11 yX11_nodes (jws yX11_nodes cX11_nodes 1 (some .int)), w ∈ lw_good := jgV wml_L_219 winst_X11_nodes wsel_X11_nodes wini_X11 (jg4 wcode_X11_nodes)
theorem wml_X11_260 : Cond.methodLink RX11 260 yX11_countNodes ∈ lw_good := jg_2 (List.mem_of_getElem? (i := 118) (rfl : tables_1_2[118]? = some (Cond.methodLink RX11 260 yX11_countNodes))) rfl
theorem winst_X11_countNodes : Cond.instanceMethod yX11_countNodes ∈ lw_good := jg_2 (List.mem_of_getElem? (i := 120) (rfl : tables_1_2[120]? = some (Cond.instanceMethod yX11_countNodes))) rfl
theorem wsel_X11_countNodes : Cond.selects RX11 yX11_countNodes yX11_countNodes ∈ lw_good := jg_s (List.mem_of_getElem? (i := 9) (rfl : (k2_sels lw_privs)[9]? = some (Cond.selects RX11 yX11_countNodes yX11_countNodes))) rfl
theorem wcode_X11_countNodes : Cond.code yX11_countNodes cX11_countNodes 2 (some .int) ∈ lw_good := jg_2 (List.mem_of_getElem? (i := 121) (rfl : tables_1_2[121]? = some (Cond.code yX11_countNodes cX11_countNodes 2 (some .int)))) rfl
theorem wm_X11_260 : ∀ w ∈ wsV RX11 260 RX11 yX11_countNodes (jws yX11_countNodes cX11_countNodes 2 (some .int)), w ∈ lw_good := jgV wml_X11_260 winst_X11_countNodes wsel_X11_countNodes wini_X11 (jg4 wcode_X11_countNodes)
theorem wml_X11_264 : Cond.methodLink RX11 264 yX2_make ∈ lw_good := jg_2 (List.mem_of_getElem? (i := 122) (rfl : tables_1_2[122]? = some (Cond.methodLink RX11 264 yX2_make))) rfl
theorem winst_X2_make : Cond.instanceMethod yX2_make ∈ lw_good := jg_2 (List.mem_of_getElem? (i := 123) (rfl : tables_1_2[123]? = some (Cond.instanceMethod yX2_make))) rfl
theorem wsel_X2_make : Cond.selects RX2 yX2_make yX2_make ∈ lw_good := jg_2 (List.mem_of_getElem? (i := 124) (rfl : tables_1_2[124]? = some (Cond.selects RX2 yX2_make yX2_make))) rfl
theorem wcode_X2_make : Cond.code yX2_make cX2_make 5 none ∈ lw_good := jg_2 (List.mem_of_getElem? (i := 125) (rfl : tables_1_2[125]? = some (Cond.code yX2_make cX2_make 5 none))) rfl
theorem wm_X11_264 : ∀ w ∈ wsV RX11 264 RX2 yX2_make (jws yX2_make cX2_make 5 none), w ∈ lw_good := jgV wml_X11_264 winst_X2_make wsel_X2_make wini_X2 (jg4 wcode_X2_make)
theorem wml_X2_32 : Cond.methodLink RX2 32 yX0_variables ∈ lw_good := jg_2 (List.mem_of_getElem? (i := 126) (rfl : tables_1_2[126]? = some (Cond.methodLink RX2 32 yX0_variables))) rfl
theorem winst_X0_variables : Cond.instanceMethod yX0_variables ∈ lw_good := jg_2 (List.mem_of_getElem? (i := 127) (rfl : tables_1_2[127]? = some (Cond.instanceMethod yX0_variables))) rfl
theorem wsel_X0_variables : Cond.selects RX0 yX0_variables yX0_variables ∈ lw_good := jg_2 (List.mem_of_getElem? (i := 128) (rfl : tables_1_2[128]? = some (Cond.selects RX0 yX0_variables yX0_variables))) rfl
theorem wcode_X0_variables : Cond.code yX0_variables cX0_variables 1 (some .int) ∈ lw_good := jg_2 (List.mem_of_getElem? (i := 129) (rfl : tables_1_2[129]? = some (Cond.code yX0_variables cX0_variables 1 (some .int)))) rfl
theorem wm_X2_32 : ∀ w ∈ wsV RX2 32 RX0 yX0_variables (jws yX0_variables cX0_variables 1 (some .int)), w ∈ lw_good := jgV wml_X2_32 winst_X0_variables wsel_X0_variables wini_X0 (jg4 wcode_X0_variables)
theorem wml_X2_38 : Cond.methodLink RX2 38 yX2_layOut ∈ lw_good := jg_2 (List.mem_of_getElem? (i := 130) (rfl : tables_1_2[130]? = some (Cond.methodLink RX2 38 yX2_layOut))) rfl
theorem winst_X2_layOut : Cond.instanceMethod yX2_layOut ∈ lw_good := jg_2 (List.mem_of_getElem? (i := 132) (rfl : tables_1_2[132]? = some (Cond.instanceMethod yX2_layOut))) rfl
theorem wsel_X2_layOut : Cond.selects RX2 yX2_layOut yX2_layOut ∈ lw_good := jg_s (List.mem_of_getElem? (i := 10) (rfl : (k2_sels lw_privs)[10]? = some (Cond.selects RX2 yX2_layOut yX2_layOut))) rfl
theorem wcode_X2_layOut : Cond.code yX2_layOut cX2_layOut 7 none ∈ lw_good := jg_2 (List.mem_of_getElem? (i := 133) (rfl : tables_1_2[133]? = some (Cond.code yX2_layOut cX2_layOut 7 none))) rfl
theorem wm_X2_38 : ∀ w ∈ wsV RX2 38 RX2 yX2_layOut (jws yX2_layOut cX2_layOut 7 none), w ∈ lw_good := jgV wml_X2_38 winst_X2_layOut wsel_X2_layOut wini_X2 (jg4 wcode_X2_layOut)
theorem wml_X2_50 : Cond.methodLink RX2 50 yX6_put ∈ lw_good := jg_2 (List.mem_of_getElem? (i := 134) (rfl : tables_1_2[134]? = some (Cond.methodLink RX2 50 yX6_put))) rfl
theorem wm_X2_50 : ∀ w ∈ wsV RX2 50 RX6 yX6_put (jws yX6_put cX6_put 3 none), w ∈ lw_good := jgV wml_X2_50 winst_X6_put wsel_X6_put wini_X6 (jg4 wcode_X6_put)
theorem wml_X2_42 : Cond.methodLink RX2 42 yX6_at ∈ lw_good := jg_2 (List.mem_of_getElem? (i := 135) (rfl : tables_1_2[135]? = some (Cond.methodLink RX2 42 yX6_at))) rfl
theorem wm_X2_42 : ∀ w ∈ wsV RX2 42 RX6 yX6_at (jws yX6_at cX6_at 2 (some .int)), w ∈ lw_good := jgV wml_X2_42 winst_X6_at wsel_X6_at wini_X6 (jg4 wcode_X6_at)
theorem wml_X2_46 : Cond.methodLink RX2 46 yX0_has ∈ lw_good := jg_2 (List.mem_of_getElem? (i := 136) (rfl : tables_1_2[136]? = some (Cond.methodLink RX2 46 yX0_has))) rfl
theorem wm_X2_46 : ∀ w ∈ wsV RX2 46 RX0 yX0_has (jws yX0_has cX0_has 2 (some .boolean)), w ∈ lw_good := jgV wml_X2_46 winst_X0_has wsel_X0_has wini_X0 (jg4 wcode_X0_has)
theorem wml_X2_58 : Cond.methodLink RX2 58 yX2_mergePlace ∈ lw_good := jg_2 (List.mem_of_getElem? (i := 137) (rfl : tables_1_2[137]? = some (Cond.methodLink RX2 58 yX2_mergePlace))) rfl
theorem winst_X2_mergePlace : Cond.instanceMethod yX2_mergePlace ∈ lw_good := jg_2 (List.mem_of_getElem? (i := 139) (rfl : tables_1_2[139]? = some (Cond.instanceMethod yX2_mergePlace))) rfl
theorem wsel_X2_mergePlace : Cond.selects RX2 yX2_mergePlace yX2_mergePlace ∈ lw_good := jg_s (List.mem_of_getElem? (i := 11) (rfl : (k2_sels lw_privs)[11]? = some (Cond.selects RX2 yX2_mergePlace yX2_mergePlace))) rfl
theorem wcode_X2_mergePlace : Cond.code yX2_mergePlace cX2_mergePlace 6 none ∈ lw_good := jg_2 (List.mem_of_getElem? (i := 140) (rfl : tables_1_2[140]? = some (Cond.code yX2_mergePlace cX2_mergePlace 6 none))) rfl
theorem wm_X2_58 : ∀ w ∈ wsV RX2 58 RX2 yX2_mergePlace (jws yX2_mergePlace cX2_mergePlace 6 none), w ∈ lw_good := jgV wml_X2_58 winst_X2_mergePlace wsel_X2_mergePlace wini_X2 (jg4 wcode_X2_mergePlace)
theorem wml_X2_61 : Cond.methodLink RX2 61 yX2_nodeWith ∈ lw_good := jg_2 (List.mem_of_getElem? (i := 141) (rfl : tables_1_2[141]? = some (Cond.methodLink RX2 61 yX2_nodeWith))) rfl
theorem winst_X2_nodeWith : Cond.instanceMethod yX2_nodeWith ∈ lw_good := jg_2 (List.mem_of_getElem? (i := 143) (rfl : tables_1_2[143]? = some (Cond.instanceMethod yX2_nodeWith))) rfl
theorem wsel_X2_nodeWith : Cond.selects RX2 yX2_nodeWith yX2_nodeWith ∈ lw_good := jg_s (List.mem_of_getElem? (i := 12) (rfl : (k2_sels lw_privs)[12]? = some (Cond.selects RX2 yX2_nodeWith yX2_nodeWith))) rfl
theorem wcode_X2_nodeWith : Cond.code yX2_nodeWith cX2_nodeWith 5 (some .int) ∈ lw_good := jg_2 (List.mem_of_getElem? (i := 144) (rfl : tables_1_2[144]? = some (Cond.code yX2_nodeWith cX2_nodeWith 5 (some .int)))) rfl
theorem wm_X2_61 : ∀ w ∈ wsV RX2 61 RX2 yX2_nodeWith (jws yX2_nodeWith cX2_nodeWith 5 (some .int)), w ∈ lw_good := jgV wml_X2_61 winst_X2_nodeWith wsel_X2_nodeWith wini_X2 (jg4 wcode_X2_nodeWith)
theorem wml_X11_359 : Cond.methodLink RX11 359 yX2_nodesInAll ∈ lw_good := jg_2 (List.mem_of_getElem? (i := 145) (rfl : tables_1_2[145]? = some (Cond.methodLink RX11 359 yX2_nodesInAll))) rfl
theorem winst_X2_nodesInAll : Cond.instanceMethod yX2_nodesInAll ∈ lw_good := jg_2 (List.mem_of_getElem? (i := 146) (rfl : tables_1_2[146]? = some (Cond.instanceMethod yX2_nodesInAll))) rfl
theorem wsel_X2_nodesInAll : Cond.selects RX2 yX2_nodesInAll yX2_nodesInAll ∈ lw_good := jg_2 (List.mem_of_getElem? (i := 147) (rfl : tables_1_2[147]? = some (Cond.selects RX2 yX2_nodesInAll yX2_nodesInAll))) rfl
theorem wcode_X2_nodesInAll : Cond.code yX2_nodesInAll cX2_nodesInAll 1 (some .int) ∈ lw_good := jg_2 (List.mem_of_getElem? (i := 148) (rfl : tables_1_2[148]? = some (Cond.code yX2_nodesInAll cX2_nodesInAll 1 (some .int)))) rfl
theorem wm_X11_359 : ∀ w ∈ wsV RX11 359 RX2 yX2_nodesInAll (jws yX2_nodesInAll cX2_nodesInAll 1 (some .int)), w ∈ lw_good := jgV wml_X11_359 winst_X2_nodesInAll wsel_X2_nodesInAll wini_X2 (jg4 wcode_X2_nodesInAll)
theorem wml_L_226 : Cond.methodLink RL 226 yX11_ways ∈ lw_good := jg_2 (List.mem_of_getElem? (i := 149) (rfl : tables_1_2[149]? = some (Cond.methodLink RL 226 yX11_ways))) rfl
theorem winst_X11_ways : Cond.instanceMethod yX11_ways ∈ lw_good := jg_2 (List.mem_of_getElem? (i := 150) (rfl : tables_1_2[150]? = some (Cond.instanceMethod yX11_ways))) rfl
theorem wsel_X11_ways : Cond.selects RX11 yX11_ways yX11_ways ∈ lw_good := jg_2 (List.mem_of_getElem? (i := 151) (rfl : tables_1_2[151]? = some (Cond.selects RX11 yX11_ways yX11_ways))) rfl
theorem wcode_X11_ways : Cond.code yX11_ways cX11_ways 1 (some .long) ∈ lw_good := jg_2 (List.mem_of_getElem? (i := 152) (rfl : tables_1_2[152]? = some (Cond.code yX11_ways cX11_ways 1 (some .long)))) rfl
theorem wm_L_226 : ∀ w ∈ wsV RL 226 RX11 yX11_ways (jws yX11_ways cX11_ways 1 (some .long)), w ∈ lw_good := jgV wml_L_226 winst_X11_ways wsel_X11_ways wini_X11 (jg4 wcode_X11_ways)
theorem wml_X11_271 : Cond.methodLink RX11 271 yX2_waysToYes ∈ lw_good := jg_2 (List.mem_of_getElem? (i := 153) (rfl : tables_1_2[153]? = some (Cond.methodLink RX11 271 yX2_waysToYes))) rfl
theorem winst_X2_waysToYes : Cond.instanceMethod yX2_waysToYes ∈ lw_good := jg_2 (List.mem_of_getElem? (i := 154) (rfl : tables_1_2[154]? = some (Cond.instanceMethod yX2_waysToYes))) rfl
theorem wsel_X2_waysToYes : Cond.selects RX2 yX2_waysToYes yX2_waysToYes ∈ lw_good := jg_2 (List.mem_of_getElem? (i := 155) (rfl : tables_1_2[155]? = some (Cond.selects RX2 yX2_waysToYes yX2_waysToYes))) rfl
theorem wcode_X2_waysToYes : Cond.code yX2_waysToYes cX2_waysToYes 1 (some .int) ∈ lw_good := jg_2 (List.mem_of_getElem? (i := 156) (rfl : tables_1_2[156]? = some (Cond.code yX2_waysToYes cX2_waysToYes 1 (some .int)))) rfl
theorem wm_X11_271 : ∀ w ∈ wsV RX11 271 RX2 yX2_waysToYes (jws yX2_waysToYes cX2_waysToYes 1 (some .int)), w ∈ lw_good := jgV wml_X11_271 winst_X2_waysToYes wsel_X2_waysToYes wini_X2 (jg4 wcode_X2_waysToYes)
theorem wml_L_261 : Cond.methodLink RL 261 yX11_density ∈ lw_good := jg_2 (List.mem_of_getElem? (i := 157) (rfl : tables_1_2[157]? = some (Cond.methodLink RL 261 yX11_density))) rfl
theorem winst_X11_density : Cond.instanceMethod yX11_density ∈ lw_good := jg_2 (List.mem_of_getElem? (i := 158) (rfl : tables_1_2[158]? = some (Cond.instanceMethod yX11_density))) rfl
theorem wsel_X11_density : Cond.selects RX11 yX11_density yX11_density ∈ lw_good := jg_2 (List.mem_of_getElem? (i := 159) (rfl : tables_1_2[159]? = some (Cond.selects RX11 yX11_density yX11_density))) rfl
theorem wcode_X11_density : Cond.code yX11_density cX11_density 1 (some .float) ∈ lw_good := jg_2 (List.mem_of_getElem? (i := 160) (rfl : tables_1_2[160]? = some (Cond.code yX11_density cX11_density 1 (some .float)))) rfl
theorem wm_L_261 : ∀ w ∈ wsV RL 261 RX11 yX11_density (jws yX11_density cX11_density 1 (some .float)), w ∈ lw_good := jgV wml_L_261 winst_X11_density wsel_X11_density wini_X11 (jg4 wcode_X11_density)
theorem wml_L_130 : Cond.methodLink RL 130 yL_addVariable ∈ lw_good := jg_2 (List.mem_of_getElem? (i := 161) (rfl : tables_1_2[161]? = some (Cond.methodLink RL 130 yL_addVariable))) rfl
theorem wst_L_addVariable : Cond.static yL_addVariable ∈ lw_good := jg_2 (List.mem_of_getElem? (i := 162) (rfl : tables_1_2[162]? = some (Cond.static yL_addVariable))) rfl
theorem wcode_L_addVariable : Cond.codeWith yL_addVariable cL_addVariable 3 (some .int) [(0, 8, 11, 13)] ∈ lw_good := jg_2 (List.mem_of_getElem? (i := 163) (rfl : tables_1_2[163]? = some (Cond.codeWith yL_addVariable cL_addVariable 3 (some .int) [(0, 8, 11, 13)]))) rfl
theorem wm_L_130 : ∀ w ∈ va_wsS RL 130 yL_addVariable (jwsW yL_addVariable cL_addVariable 3 (some .int) [(0, 8, 11, 13)]), w ∈ lw_good := jgSJ wml_L_130 wst_L_addVariable wini_L (jg4W wcode_L_addVariable)
theorem wml_L_7 : Cond.methodLink RL 7 yX11_addVariable ∈ lw_good := jg_2 (List.mem_of_getElem? (i := 165) (rfl : tables_1_2[165]? = some (Cond.methodLink RL 7 yX11_addVariable))) rfl
theorem winst_X11_addVariable : Cond.instanceMethod yX11_addVariable ∈ lw_good := jg_2 (List.mem_of_getElem? (i := 166) (rfl : tables_1_2[166]? = some (Cond.instanceMethod yX11_addVariable))) rfl
theorem wsel_X11_addVariable : Cond.selects RX11 yX11_addVariable yX11_addVariable ∈ lw_good := jg_2 (List.mem_of_getElem? (i := 167) (rfl : tables_1_2[167]? = some (Cond.selects RX11 yX11_addVariable yX11_addVariable))) rfl
theorem wcode_X11_addVariable : Cond.code yX11_addVariable cX11_addVariable 2 (some .int) ∈ lw_good := jg_2 (List.mem_of_getElem? (i := 168) (rfl : tables_1_2[168]? = some (Cond.code yX11_addVariable cX11_addVariable 2 (some .int)))) rfl
theorem wm_L_7 : ∀ w ∈ wsV RL 7 RX11 yX11_addVariable (jws yX11_addVariable cX11_addVariable 2 (some .int)), w ∈ lw_good := jgV wml_L_7 winst_X11_addVariable wsel_X11_addVariable wini_X11 (jg4 wcode_X11_addVariable)
theorem wml_X11_88 : Cond.methodLink RX11 88 yX6_put ∈ lw_good := jg_2 (List.mem_of_getElem? (i := 239) (rfl : tables_1_2[239]? = some (Cond.methodLink RX11 88 yX6_put))) rfl
theorem wm_X11_88 : ∀ w ∈ wsV RX11 88 RX6 yX6_put (jws yX6_put cX6_put 3 none), w ∈ lw_good := jgV wml_X11_88 winst_X6_put wsel_X6_put wini_X6 (jg4 wcode_X6_put)
theorem wml_X11_91 : Cond.methodLink RX11 91 yX11_multiplyWeights ∈ lw_good := jg_3 (List.mem_of_getElem? (i := 0) (rfl : tables_1_3[0]? = some (Cond.methodLink RX11 91 yX11_multiplyWeights))) rfl
theorem winst_X11_multiplyWeights : Cond.instanceMethod yX11_multiplyWeights ∈ lw_good := jg_3 (List.mem_of_getElem? (i := 2) (rfl : tables_1_3[2]? = some (Cond.instanceMethod yX11_multiplyWeights))) rfl
theorem wsel_X11_multiplyWeights : Cond.selects RX11 yX11_multiplyWeights yX11_multiplyWeights ∈ lw_good := jg_s (List.mem_of_getElem? (i := 14) (rfl : (k2_sels lw_privs)[14]? = some (Cond.selects RX11 yX11_multiplyWeights yX11_multiplyWeights))) rfl
theorem wcode_X11_multiplyWeights : Cond.code yX11_multiplyWeights cX11_multiplyWeights 10 none ∈ lw_good := jg_3 (List.mem_of_getElem? (i := 3) (rfl : tables_1_3[3]? = some (Cond.code yX11_multiplyWeights cX11_multiplyWeights 10 none))) rfl
theorem wm_X11_91 : ∀ w ∈ wsV RX11 91 RX11 yX11_multiplyWeights (jws yX11_multiplyWeights cX11_multiplyWeights 10 none), w ∈ lw_good := jgV wml_X11_91 winst_X11_multiplyWeights wsel_X11_multiplyWeights wini_X11 (jg4 wcode_X11_multiplyWeights)
theorem wml_X11_106 : Cond.methodLink RX11 106 yX6_at ∈ lw_good := jg_3 (List.mem_of_getElem? (i := 4) (rfl : tables_1_3[4]? = some (Cond.methodLink RX11 106 yX6_at))) rfl
theorem wm_X11_106 : ∀ w ∈ wsV RX11 106 RX6 yX6_at (jws yX6_at cX6_at 2 (some .int)), w ∈ lw_good := jgV wml_X11_106 winst_X6_at wsel_X6_at wini_X6 (jg4 wcode_X6_at)
theorem wml_L_139 : Cond.methodLink RL 139 yL_setWeights ∈ lw_good := jg_3 (List.mem_of_getElem? (i := 5) (rfl : tables_1_3[5]? = some (Cond.methodLink RL 139 yL_setWeights))) rfl
theorem wst_L_setWeights : Cond.static yL_setWeights ∈ lw_good := jg_3 (List.mem_of_getElem? (i := 6) (rfl : tables_1_3[6]? = some (Cond.static yL_setWeights))) rfl
theorem wcode_L_setWeights : Cond.codeWith yL_setWeights cL_setWeights 6 (some .int) [(0, 12, 15, 19), (0, 12, 19, 21)] ∈ lw_good := jg_3 (List.mem_of_getElem? (i := 7) (rfl : tables_1_3[7]? = some (Cond.codeWith yL_setWeights cL_setWeights 6 (some .int) [(0, 12, 15, 19), (0, 12, 19, 21)]))) rfl
theorem wm_L_139 : ∀ w ∈ va_wsS RL 139 yL_setWeights (jwsW yL_setWeights cL_setWeights 6 (some .int) [(0, 12, 15, 19), (0, 12, 19, 21)]), w ∈ lw_good := jgSJ wml_L_139 wst_L_setWeights wini_L (jg4W wcode_L_setWeights)
theorem wml_L_15 : Cond.methodLink RL 15 yX11_setWeights ∈ lw_good := jg_3 (List.mem_of_getElem? (i := 10) (rfl : tables_1_3[10]? = some (Cond.methodLink RL 15 yX11_setWeights))) rfl
theorem winst_X11_setWeights : Cond.instanceMethod yX11_setWeights ∈ lw_good := jg_3 (List.mem_of_getElem? (i := 11) (rfl : tables_1_3[11]? = some (Cond.instanceMethod yX11_setWeights))) rfl
theorem wsel_X11_setWeights : Cond.selects RX11 yX11_setWeights yX11_setWeights ∈ lw_good := jg_3 (List.mem_of_getElem? (i := 12) (rfl : tables_1_3[12]? = some (Cond.selects RX11 yX11_setWeights yX11_setWeights))) rfl
theorem wcode_X11_setWeights : Cond.code yX11_setWeights cX11_setWeights 5 (some .int) ∈ lw_good := jg_3 (List.mem_of_getElem? (i := 13) (rfl : tables_1_3[13]? = some (Cond.code yX11_setWeights cX11_setWeights 5 (some .int)))) rfl
theorem wm_L_15 : ∀ w ∈ wsV RL 15 RX11 yX11_setWeights (jws yX11_setWeights cX11_setWeights 5 (some .int)), w ∈ lw_good := jgV wml_L_15 winst_X11_setWeights wsel_X11_setWeights wini_X11 (jg4 wcode_X11_setWeights)
theorem wml_X11_98 : Cond.methodLink RX11 98 yX11_checkVariable ∈ lw_good := jg_3 (List.mem_of_getElem? (i := 14) (rfl : tables_1_3[14]? = some (Cond.methodLink RX11 98 yX11_checkVariable))) rfl
theorem winst_X11_checkVariable : Cond.instanceMethod yX11_checkVariable ∈ lw_good := jg_3 (List.mem_of_getElem? (i := 16) (rfl : tables_1_3[16]? = some (Cond.instanceMethod yX11_checkVariable))) rfl
theorem wsel_X11_checkVariable : Cond.selects RX11 yX11_checkVariable yX11_checkVariable ∈ lw_good := jg_s (List.mem_of_getElem? (i := 15) (rfl : (k2_sels lw_privs)[15]? = some (Cond.selects RX11 yX11_checkVariable yX11_checkVariable))) rfl
theorem wcode_X11_checkVariable : Cond.code yX11_checkVariable cX11_checkVariable 2 none ∈ lw_good := jg_3 (List.mem_of_getElem? (i := 17) (rfl : tables_1_3[17]? = some (Cond.code yX11_checkVariable cX11_checkVariable 2 none))) rfl
theorem wm_X11_98 : ∀ w ∈ wsV RX11 98 RX11 yX11_checkVariable (jws yX11_checkVariable cX11_checkVariable 2 none), w ∈ lw_good := jgV wml_X11_98 winst_X11_checkVariable wsel_X11_checkVariable wini_X11 (jg4 wcode_X11_checkVariable)
theorem wml_L_143 : Cond.methodLink RL 143 yL_addClause ∈ lw_good := jg_3 (List.mem_of_getElem? (i := 50) (rfl : tables_1_3[50]? = some (Cond.methodLink RL 143 yL_addClause))) rfl
theorem wst_L_addClause : Cond.static yL_addClause ∈ lw_good := jg_3 (List.mem_of_getElem? (i := 51) (rfl : tables_1_3[51]? = some (Cond.static yL_addClause))) rfl
theorem wcode_L_addClause : Cond.codeWith yL_addClause cL_addClause 5 (some .int) [(0, 10, 13, 21), (0, 10, 17, 13)] ∈ lw_good := jg_3 (List.mem_of_getElem? (i := 52) (rfl : tables_1_3[52]? = some (Cond.codeWith yL_addClause cL_addClause 5 (some .int) [(0, 10, 13, 21), (0, 10, 17, 13)]))) rfl
theorem wm_L_143 : ∀ w ∈ va_wsS RL 143 yL_addClause (jwsW yL_addClause cL_addClause 5 (some .int) [(0, 10, 13, 21), (0, 10, 17, 13)]), w ∈ lw_good := jgSJ wml_L_143 wst_L_addClause wini_L (jg4W wcode_L_addClause)
theorem wml_L_23 : Cond.methodLink RL 23 yX11_addClause ∈ lw_good := jg_3 (List.mem_of_getElem? (i := 53) (rfl : tables_1_3[53]? = some (Cond.methodLink RL 23 yX11_addClause))) rfl
theorem winst_X11_addClause : Cond.instanceMethod yX11_addClause ∈ lw_good := jg_3 (List.mem_of_getElem? (i := 54) (rfl : tables_1_3[54]? = some (Cond.instanceMethod yX11_addClause))) rfl
theorem wsel_X11_addClause : Cond.selects RX11 yX11_addClause yX11_addClause ∈ lw_good := jg_3 (List.mem_of_getElem? (i := 55) (rfl : tables_1_3[55]? = some (Cond.selects RX11 yX11_addClause yX11_addClause))) rfl
theorem wcode_X11_addClause : Cond.code yX11_addClause cX11_addClause 3 (some .int) ∈ lw_good := jg_3 (List.mem_of_getElem? (i := 56) (rfl : tables_1_3[56]? = some (Cond.code yX11_addClause cX11_addClause 3 (some .int)))) rfl
theorem wm_L_23 : ∀ w ∈ wsV RL 23 RX11 yX11_addClause (jws yX11_addClause cX11_addClause 3 (some .int)), w ∈ lw_good := jgV wml_L_23 winst_X11_addClause wsel_X11_addClause wini_X11 (jg4 wcode_X11_addClause)
theorem wml_X11_110 : Cond.methodLink RX11 110 yX11_checkSet ∈ lw_good := jg_3 (List.mem_of_getElem? (i := 57) (rfl : tables_1_3[57]? = some (Cond.methodLink RX11 110 yX11_checkSet))) rfl
theorem winst_X11_checkSet : Cond.instanceMethod yX11_checkSet ∈ lw_good := jg_3 (List.mem_of_getElem? (i := 59) (rfl : tables_1_3[59]? = some (Cond.instanceMethod yX11_checkSet))) rfl
theorem wsel_X11_checkSet : Cond.selects RX11 yX11_checkSet yX11_checkSet ∈ lw_good := jg_s (List.mem_of_getElem? (i := 16) (rfl : (k2_sels lw_privs)[16]? = some (Cond.selects RX11 yX11_checkSet yX11_checkSet))) rfl
theorem wcode_X11_checkSet : Cond.code yX11_checkSet cX11_checkSet 2 none ∈ lw_good := jg_3 (List.mem_of_getElem? (i := 60) (rfl : tables_1_3[60]? = some (Cond.code yX11_checkSet cX11_checkSet 2 none))) rfl
theorem wm_X11_110 : ∀ w ∈ wsV RX11 110 RX11 yX11_checkSet (jws yX11_checkSet cX11_checkSet 2 none), w ∈ lw_good := jgV wml_X11_110 winst_X11_checkSet wsel_X11_checkSet wini_X11 (jg4 wcode_X11_checkSet)
theorem wml_X11_113 : Cond.methodLink RX11 113 yX11_checkNotEmpty ∈ lw_good := jg_3 (List.mem_of_getElem? (i := 62) (rfl : tables_1_3[62]? = some (Cond.methodLink RX11 113 yX11_checkNotEmpty))) rfl
theorem winst_X11_checkNotEmpty : Cond.instanceMethod yX11_checkNotEmpty ∈ lw_good := jg_3 (List.mem_of_getElem? (i := 64) (rfl : tables_1_3[64]? = some (Cond.instanceMethod yX11_checkNotEmpty))) rfl
theorem wsel_X11_checkNotEmpty : Cond.selects RX11 yX11_checkNotEmpty yX11_checkNotEmpty ∈ lw_good := jg_s (List.mem_of_getElem? (i := 17) (rfl : (k2_sels lw_privs)[17]? = some (Cond.selects RX11 yX11_checkNotEmpty yX11_checkNotEmpty))) rfl
theorem wcode_X11_checkNotEmpty : Cond.code yX11_checkNotEmpty cX11_checkNotEmpty 2 none ∈ lw_good := jg_3 (List.mem_of_getElem? (i := 65) (rfl : tables_1_3[65]? = some (Cond.code yX11_checkNotEmpty cX11_checkNotEmpty 2 none))) rfl
theorem wm_X11_113 : ∀ w ∈ wsV RX11 113 RX11 yX11_checkNotEmpty (jws yX11_checkNotEmpty cX11_checkNotEmpty 2 none), w ∈ lw_good := jgV wml_X11_113 winst_X11_checkNotEmpty wsel_X11_checkNotEmpty wini_X11 (jg4 wcode_X11_checkNotEmpty)
theorem wml_X11_116 : Cond.methodLink RX11 116 yX11_checkRoom ∈ lw_good := jg_3 (List.mem_of_getElem? (i := 67) (rfl : tables_1_3[67]? = some (Cond.methodLink RX11 116 yX11_checkRoom))) rfl
theorem winst_X11_checkRoom : Cond.instanceMethod yX11_checkRoom ∈ lw_good := jg_3 (List.mem_of_getElem? (i := 69) (rfl : tables_1_3[69]? = some (Cond.instanceMethod yX11_checkRoom))) rfl
theorem wsel_X11_checkRoom : Cond.selects RX11 yX11_checkRoom yX11_checkRoom ∈ lw_good := jg_s (List.mem_of_getElem? (i := 18) (rfl : (k2_sels lw_privs)[18]? = some (Cond.selects RX11 yX11_checkRoom yX11_checkRoom))) rfl
theorem wcode_X11_checkRoom : Cond.code yX11_checkRoom cX11_checkRoom 1 none ∈ lw_good := jg_3 (List.mem_of_getElem? (i := 70) (rfl : tables_1_3[70]? = some (Cond.code yX11_checkRoom cX11_checkRoom 1 none))) rfl
theorem wm_X11_116 : ∀ w ∈ wsV RX11 116 RX11 yX11_checkRoom (jws yX11_checkRoom cX11_checkRoom 1 none), w ∈ lw_good := jgV wml_X11_116 winst_X11_checkRoom wsel_X11_checkRoom wini_X11 (jg4 wcode_X11_checkRoom)
theorem wml_X11_327 : Cond.methodLink RX11 327 yX5_count ∈ lw_good := jg_3 (List.mem_of_getElem? (i := 71) (rfl : tables_1_3[71]? = some (Cond.methodLink RX11 327 yX5_count))) rfl
theorem winst_X5_count : Cond.instanceMethod yX5_count ∈ lw_good := jg_3 (List.mem_of_getElem? (i := 72) (rfl : tables_1_3[72]? = some (Cond.instanceMethod yX5_count))) rfl
theorem wsel_X5_count : Cond.selects RX5 yX5_count yX5_count ∈ lw_good := jg_3 (List.mem_of_getElem? (i := 73) (rfl : tables_1_3[73]? = some (Cond.selects RX5 yX5_count yX5_count))) rfl
theorem wcode_X5_count : Cond.code yX5_count cX5_count 1 (some .int) ∈ lw_good := jg_3 (List.mem_of_getElem? (i := 74) (rfl : tables_1_3[74]? = some (Cond.code yX5_count cX5_count 1 (some .int)))) rfl
theorem wm_X11_327 : ∀ w ∈ wsV RX11 327 RX5 yX5_count (jws yX5_count cX5_count 1 (some .int)), w ∈ lw_good := jgV wml_X11_327 winst_X5_count wsel_X5_count wini_X5 (jg4 wcode_X5_count)
theorem wml_X11_121 : Cond.methodLink RX11 121 yX3_init ∈ lw_good := jg_3 (List.mem_of_getElem? (i := 78) (rfl : tables_1_3[78]? = some (Cond.methodLink RX11 121 yX3_init))) rfl
theorem winst_X3_init : Cond.instanceMethod yX3_init ∈ lw_good := jg_3 (List.mem_of_getElem? (i := 79) (rfl : tables_1_3[79]? = some (Cond.instanceMethod yX3_init))) rfl
theorem wcode_X3_init : Cond.code yX3_init cX3_init 3 none ∈ lw_good := jg_3 (List.mem_of_getElem? (i := 80) (rfl : tables_1_3[80]? = some (Cond.code yX3_init cX3_init 3 none))) rfl
theorem wm_X11_121 : Cond.methodLink RX11 121 yX3_init ∈ lw_good ∧ Cond.instanceMethod yX3_init ∈ lw_good ∧ Cond.initialized yX3_init.cls ∈ lw_good ∧ (∀ w ∈ jws yX3_init cX3_init 3 none, w ∈ lw_good) := ⟨wml_X11_121, winst_X3_init, wini_X3, jg4 wcode_X3_init⟩
theorem wml_X3_1 : Cond.methodLink RX3 1 yX4_init ∈ lw_good := jg_3 (List.mem_of_getElem? (i := 81) (rfl : tables_1_3[81]? = some (Cond.methodLink RX3 1 yX4_init))) rfl
theorem winst_X4_init : Cond.instanceMethod yX4_init ∈ lw_good := jg_3 (List.mem_of_getElem? (i := 82) (rfl : tables_1_3[82]? = some (Cond.instanceMethod yX4_init))) rfl
theorem wcode_X4_init : Cond.code yX4_init cX4_init 3 none ∈ lw_good := jg_3 (List.mem_of_getElem? (i := 83) (rfl : tables_1_3[83]? = some (Cond.code yX4_init cX4_init 3 none))) rfl
theorem wm_X3_1 : Cond.methodLink RX3 1 yX4_init ∈ lw_good ∧ Cond.instanceMethod yX4_init ∈ lw_good ∧ Cond.initialized yX4_init.cls ∈ lw_good ∧ (∀ w ∈ jws yX4_init cX4_init 3 none, w ∈ lw_good) := ⟨wml_X3_1, winst_X4_init, wini_X4, jg4 wcode_X4_init⟩
theorem wml_X11_123 : Cond.methodLink RX11 123 yX11_tell ∈ lw_good := jg_3 (List.mem_of_getElem? (i := 104) (rfl : tables_1_3[104]? = some (Cond.methodLink RX11 123 yX11_tell))) rfl
theorem winst_X11_tell : Cond.instanceMethod yX11_tell ∈ lw_good := jg_3 (List.mem_of_getElem? (i := 106) (rfl : tables_1_3[106]? = some (Cond.instanceMethod yX11_tell))) rfl
theorem wsel_X11_tell : Cond.selects RX11 yX11_tell yX11_tell ∈ lw_good := jg_s (List.mem_of_getElem? (i := 19) (rfl : (k2_sels lw_privs)[19]? = some (Cond.selects RX11 yX11_tell yX11_tell))) rfl
theorem wcode_X11_tell : Cond.code yX11_tell cX11_tell 2 (some .int) ∈ lw_good := jg_3 (List.mem_of_getElem? (i := 107) (rfl : tables_1_3[107]? = some (Cond.code yX11_tell cX11_tell 2 (some .int)))) rfl
theorem wm_X11_123 : ∀ w ∈ wsV RX11 123 RX11 yX11_tell (jws yX11_tell cX11_tell 2 (some .int)), w ∈ lw_good := jgV wml_X11_123 winst_X11_tell wsel_X11_tell wini_X11 (jg4 wcode_X11_tell)
theorem wml_X11_357 : Cond.methodLink RX11 357 yX5_add ∈ lw_good := jg_3 (List.mem_of_getElem? (i := 108) (rfl : tables_1_3[108]? = some (Cond.methodLink RX11 357 yX5_add))) rfl
theorem winst_X5_add : Cond.instanceMethod yX5_add ∈ lw_good := jg_3 (List.mem_of_getElem? (i := 109) (rfl : tables_1_3[109]? = some (Cond.instanceMethod yX5_add))) rfl
theorem wsel_X5_add : Cond.selects RX5 yX5_add yX5_add ∈ lw_good := jg_3 (List.mem_of_getElem? (i := 110) (rfl : tables_1_3[110]? = some (Cond.selects RX5 yX5_add yX5_add))) rfl
theorem wcode_X5_add : Cond.code yX5_add cX5_add 3 (some .int) ∈ lw_good := jg_3 (List.mem_of_getElem? (i := 111) (rfl : tables_1_3[111]? = some (Cond.code yX5_add cX5_add 3 (some .int)))) rfl
theorem wm_X11_357 : ∀ w ∈ wsV RX11 357 RX5 yX5_add (jws yX5_add cX5_add 3 (some .int)), w ∈ lw_good := jgV wml_X11_357 winst_X5_add wsel_X5_add wini_X5 (jg4 wcode_X5_add)
theorem wml_L_147 : Cond.methodLink RL 147 yL_addParity ∈ lw_good := jg_3 (List.mem_of_getElem? (i := 112) (rfl : tables_1_3[112]? = some (Cond.methodLink RL 147 yL_addParity))) rfl
theorem wst_L_addParity : Cond.static yL_addParity ∈ lw_good := jg_3 (List.mem_of_getElem? (i := 113) (rfl : tables_1_3[113]? = some (Cond.static yL_addParity))) rfl
theorem wcode_L_addParity : Cond.codeWith yL_addParity cL_addParity 5 (some .int) [(0, 10, 13, 21), (0, 10, 17, 13)] ∈ lw_good := jg_3 (List.mem_of_getElem? (i := 114) (rfl : tables_1_3[114]? = some (Cond.codeWith yL_addParity cL_addParity 5 (some .int) [(0, 10, 13, 21), (0, 10, 17, 13)]))) rfl
theorem wm_L_147 : ∀ w ∈ va_wsS RL 147 yL_addParity (jwsW yL_addParity cL_addParity 5 (some .int) [(0, 10, 13, 21), (0, 10, 17, 13)]), w ∈ lw_good := jgSJ wml_L_147 wst_L_addParity wini_L (jg4W wcode_L_addParity)
theorem wml_L_27 : Cond.methodLink RL 27 yX11_addParity ∈ lw_good := jg_3 (List.mem_of_getElem? (i := 115) (rfl : tables_1_3[115]? = some (Cond.methodLink RL 27 yX11_addParity))) rfl
theorem winst_X11_addParity : Cond.instanceMethod yX11_addParity ∈ lw_good := jg_3 (List.mem_of_getElem? (i := 116) (rfl : tables_1_3[116]? = some (Cond.instanceMethod yX11_addParity))) rfl
theorem wsel_X11_addParity : Cond.selects RX11 yX11_addParity yX11_addParity ∈ lw_good := jg_3 (List.mem_of_getElem? (i := 117) (rfl : tables_1_3[117]? = some (Cond.selects RX11 yX11_addParity yX11_addParity))) rfl
theorem wcode_X11_addParity : Cond.code yX11_addParity cX11_addParity 3 (some .int) ∈ lw_good := jg_3 (List.mem_of_getElem? (i := 118) (rfl : tables_1_3[118]? = some (Cond.code yX11_addParity cX11_addParity 3 (some .int)))) rfl
theorem wm_L_27 : ∀ w ∈ wsV RL 27 RX11 yX11_addParity (jws yX11_addParity cX11_addParity 3 (some .int)), w ∈ lw_good := jgV wml_L_27 winst_X11_addParity wsel_X11_addParity wini_X11 (jg4 wcode_X11_addParity)
theorem wml_X11_127 : Cond.methodLink RX11 127 yX11_checkValue ∈ lw_good := jg_3 (List.mem_of_getElem? (i := 119) (rfl : tables_1_3[119]? = some (Cond.methodLink RX11 127 yX11_checkValue))) rfl
theorem winst_X11_checkValue : Cond.instanceMethod yX11_checkValue ∈ lw_good := jg_3 (List.mem_of_getElem? (i := 121) (rfl : tables_1_3[121]? = some (Cond.instanceMethod yX11_checkValue))) rfl
theorem wsel_X11_checkValue : Cond.selects RX11 yX11_checkValue yX11_checkValue ∈ lw_good := jg_s (List.mem_of_getElem? (i := 20) (rfl : (k2_sels lw_privs)[20]? = some (Cond.selects RX11 yX11_checkValue yX11_checkValue))) rfl
theorem wcode_X11_checkValue : Cond.code yX11_checkValue cX11_checkValue 2 none ∈ lw_good := jg_3 (List.mem_of_getElem? (i := 122) (rfl : tables_1_3[122]? = some (Cond.code yX11_checkValue cX11_checkValue 2 none))) rfl
theorem wm_X11_127 : ∀ w ∈ wsV RX11 127 RX11 yX11_checkValue (jws yX11_checkValue cX11_checkValue 2 none), w ∈ lw_good := jgV wml_X11_127 winst_X11_checkValue wsel_X11_checkValue wini_X11 (jg4 wcode_X11_checkValue)
theorem wml_X11_132 : Cond.methodLink RX11 132 yX8_init ∈ lw_good := jg_3 (List.mem_of_getElem? (i := 126) (rfl : tables_1_3[126]? = some (Cond.methodLink RX11 132 yX8_init))) rfl
theorem winst_X8_init : Cond.instanceMethod yX8_init ∈ lw_good := jg_3 (List.mem_of_getElem? (i := 127) (rfl : tables_1_3[127]? = some (Cond.instanceMethod yX8_init))) rfl
theorem wcode_X8_init : Cond.code yX8_init cX8_init 3 none ∈ lw_good := jg_3 (List.mem_of_getElem? (i := 128) (rfl : tables_1_3[128]? = some (Cond.code yX8_init cX8_init 3 none))) rfl
theorem wm_X11_132 : Cond.methodLink RX11 132 yX8_init ∈ lw_good ∧ Cond.instanceMethod yX8_init ∈ lw_good ∧ Cond.initialized yX8_init.cls ∈ lw_good ∧ (∀ w ∈ jws yX8_init cX8_init 3 none, w ∈ lw_good) := ⟨wml_X11_132, winst_X8_init, wini_X8, jg4 wcode_X8_init⟩
theorem wml_X8_1 : Cond.methodLink RX8 1 yX4_init ∈ lw_good := jg_3 (List.mem_of_getElem? (i := 129) (rfl : tables_1_3[129]? = some (Cond.methodLink RX8 1 yX4_init))) rfl
theorem wm_X8_1 : Cond.methodLink RX8 1 yX4_init ∈ lw_good ∧ Cond.instanceMethod yX4_init ∈ lw_good ∧ Cond.initialized yX4_init.cls ∈ lw_good ∧ (∀ w ∈ jws yX4_init cX4_init 3 none, w ∈ lw_good) := ⟨wml_X8_1, winst_X4_init, wini_X4, jg4 wcode_X4_init⟩
theorem wml_L_150 : Cond.methodLink RL 150 yL_addBound ∈ lw_good := jg_3 (List.mem_of_getElem? (i := 136) (rfl : tables_1_3[136]? = some (Cond.methodLink RL 150 yL_addBound))) rfl
theorem wst_L_addBound : Cond.static yL_addBound ∈ lw_good := jg_3 (List.mem_of_getElem? (i := 137) (rfl : tables_1_3[137]? = some (Cond.static yL_addBound))) rfl
theorem wcode_L_addBound : Cond.codeWith yL_addBound cL_addBound 6 (some .int) [(0, 12, 15, 21), (0, 12, 19, 13)] ∈ lw_good := jg_3 (List.mem_of_getElem? (i := 138) (rfl : tables_1_3[138]? = some (Cond.codeWith yL_addBound cL_addBound 6 (some .int) [(0, 12, 15, 21), (0, 12, 19, 13)]))) rfl
theorem wm_L_150 : ∀ w ∈ va_wsS RL 150 yL_addBound (jwsW yL_addBound cL_addBound 6 (some .int) [(0, 12, 15, 21), (0, 12, 19, 13)]), w ∈ lw_good := jgSJ wml_L_150 wst_L_addBound wini_L (jg4W wcode_L_addBound)
theorem wml_L_30 : Cond.methodLink RL 30 yX11_addBound ∈ lw_good := jg_3 (List.mem_of_getElem? (i := 139) (rfl : tables_1_3[139]? = some (Cond.methodLink RL 30 yX11_addBound))) rfl
theorem winst_X11_addBound : Cond.instanceMethod yX11_addBound ∈ lw_good := jg_3 (List.mem_of_getElem? (i := 140) (rfl : tables_1_3[140]? = some (Cond.instanceMethod yX11_addBound))) rfl
theorem wsel_X11_addBound : Cond.selects RX11 yX11_addBound yX11_addBound ∈ lw_good := jg_3 (List.mem_of_getElem? (i := 141) (rfl : tables_1_3[141]? = some (Cond.selects RX11 yX11_addBound yX11_addBound))) rfl
theorem wcode_X11_addBound : Cond.code yX11_addBound cX11_addBound 4 (some .int) ∈ lw_good := jg_3 (List.mem_of_getElem? (i := 142) (rfl : tables_1_3[142]? = some (Cond.code yX11_addBound cX11_addBound 4 (some .int)))) rfl
theorem wm_L_30 : ∀ w ∈ wsV RL 30 RX11 yX11_addBound (jws yX11_addBound cX11_addBound 4 (some .int)), w ∈ lw_good := jgV wml_L_30 winst_X11_addBound wsel_X11_addBound wini_X11 (jg4 wcode_X11_addBound)
theorem wml_X11_137 : Cond.methodLink RX11 137 yX1_init ∈ lw_good := jg_3 (List.mem_of_getElem? (i := 146) (rfl : tables_1_3[146]? = some (Cond.methodLink RX11 137 yX1_init))) rfl
theorem winst_X1_init : Cond.instanceMethod yX1_init ∈ lw_good := jg_3 (List.mem_of_getElem? (i := 147) (rfl : tables_1_3[147]? = some (Cond.instanceMethod yX1_init))) rfl
theorem wcode_X1_init : Cond.code yX1_init cX1_init 4 none ∈ lw_good := jg_3 (List.mem_of_getElem? (i := 148) (rfl : tables_1_3[148]? = some (Cond.code yX1_init cX1_init 4 none))) rfl
theorem wm_X11_137 : Cond.methodLink RX11 137 yX1_init ∈ lw_good ∧ Cond.instanceMethod yX1_init ∈ lw_good ∧ Cond.initialized yX1_init.cls ∈ lw_good ∧ (∀ w ∈ jws yX1_init cX1_init 4 none, w ∈ lw_good) := ⟨wml_X11_137, winst_X1_init, wini_X1, jg4 wcode_X1_init⟩
theorem wml_X1_1 : Cond.methodLink RX1 1 yX4_init ∈ lw_good := jg_3 (List.mem_of_getElem? (i := 149) (rfl : tables_1_3[149]? = some (Cond.methodLink RX1 1 yX4_init))) rfl
theorem wm_X1_1 : Cond.methodLink RX1 1 yX4_init ∈ lw_good ∧ Cond.instanceMethod yX4_init ∈ lw_good ∧ Cond.initialized yX4_init.cls ∈ lw_good ∧ (∀ w ∈ jws yX4_init cX4_init 3 none, w ∈ lw_good) := ⟨wml_X1_1, winst_X4_init, wini_X4, jg4 wcode_X4_init⟩
theorem wml_L_153 : Cond.methodLink RL 153 yL_drop ∈ lw_good := jg_3 (List.mem_of_getElem? (i := 159) (rfl : tables_1_3[159]? = some (Cond.methodLink RL 153 yL_drop))) rfl
theorem wst_L_drop : Cond.static yL_drop ∈ lw_good := jg_3 (List.mem_of_getElem? (i := 160) (rfl : tables_1_3[160]? = some (Cond.static yL_drop))) rfl
theorem wcode_L_drop : Cond.codeWith yL_drop cL_drop 4 (some .int) [(0, 9, 12, 19), (0, 9, 15, 13)] ∈ lw_good := jg_3 (List.mem_of_getElem? (i := 161) (rfl : tables_1_3[161]? = some (Cond.codeWith yL_drop cL_drop 4 (some .int) [(0, 9, 12, 19), (0, 9, 15, 13)]))) rfl
theorem wm_L_153 : ∀ w ∈ va_wsS RL 153 yL_drop (jwsW yL_drop cL_drop 4 (some .int) [(0, 9, 12, 19), (0, 9, 15, 13)]), w ∈ lw_good := jgSJ wml_L_153 wst_L_drop wini_L (jg4W wcode_L_drop)
theorem wml_L_33 : Cond.methodLink RL 33 yX11_drop ∈ lw_good := jg_3 (List.mem_of_getElem? (i := 162) (rfl : tables_1_3[162]? = some (Cond.methodLink RL 33 yX11_drop))) rfl
theorem winst_X11_drop : Cond.instanceMethod yX11_drop ∈ lw_good := jg_3 (List.mem_of_getElem? (i := 163) (rfl : tables_1_3[163]? = some (Cond.instanceMethod yX11_drop))) rfl
theorem wsel_X11_drop : Cond.selects RX11 yX11_drop yX11_drop ∈ lw_good := jg_3 (List.mem_of_getElem? (i := 164) (rfl : tables_1_3[164]? = some (Cond.selects RX11 yX11_drop yX11_drop))) rfl
theorem wcode_X11_drop : Cond.code yX11_drop cX11_drop 2 (some .int) ∈ lw_good := jg_3 (List.mem_of_getElem? (i := 165) (rfl : tables_1_3[165]? = some (Cond.code yX11_drop cX11_drop 2 (some .int)))) rfl
theorem wm_L_33 : ∀ w ∈ wsV RL 33 RX11 yX11_drop (jws yX11_drop cX11_drop 2 (some .int)), w ∈ lw_good := jgV wml_L_33 winst_X11_drop wsel_X11_drop wini_X11 (jg4 wcode_X11_drop)
theorem wml_X11_140 : Cond.methodLink RX11 140 yX11_constraintAt ∈ lw_good := jg_3 (List.mem_of_getElem? (i := 166) (rfl : tables_1_3[166]? = some (Cond.methodLink RX11 140 yX11_constraintAt))) rfl
theorem winst_X11_constraintAt : Cond.instanceMethod yX11_constraintAt ∈ lw_good := jg_3 (List.mem_of_getElem? (i := 168) (rfl : tables_1_3[168]? = some (Cond.instanceMethod yX11_constraintAt))) rfl
theorem wsel_X11_constraintAt : Cond.selects RX11 yX11_constraintAt yX11_constraintAt ∈ lw_good := jg_s (List.mem_of_getElem? (i := 21) (rfl : (k2_sels lw_privs)[21]? = some (Cond.selects RX11 yX11_constraintAt yX11_constraintAt))) rfl
theorem wcode_X11_constraintAt : Cond.code yX11_constraintAt cX11_constraintAt 3 (some (.object "Countfall$Constraint")) ∈ lw_good := jg_3 (List.mem_of_getElem? (i := 169) (rfl : tables_1_3[169]? = some (Cond.code yX11_constraintAt cX11_constraintAt 3 (some (.object "Countfall$Constraint"))))) rfl
theorem wm_X11_140 : ∀ w ∈ wsV RX11 140 RX11 yX11_constraintAt (jws yX11_constraintAt cX11_constraintAt 3 (some (.object "Countfall$Constraint"))), w ∈ lw_good := jgV wml_X11_140 winst_X11_constraintAt wsel_X11_constraintAt wini_X11 (jg4 wcode_X11_constraintAt)
theorem wml_X11_349 : Cond.methodLink RX11 349 yX5_at ∈ lw_good := jg_3 (List.mem_of_getElem? (i := 170) (rfl : tables_1_3[170]? = some (Cond.methodLink RX11 349 yX5_at))) rfl
theorem wm_X11_349 : ∀ w ∈ wsV RX11 349 RX5 yX5_at (jws yX5_at cX5_at 2 (some (.object "Countfall$Constraint"))), w ∈ lw_good := jgV wml_X11_349 winst_X5_at wsel_X5_at wini_X5 (jg4 wcode_X5_at)
theorem wml_X11_144 : Cond.methodLink RX11 144 yX5_isLive ∈ lw_good := jg_3 (List.mem_of_getElem? (i := 172) (rfl : tables_1_3[172]? = some (Cond.methodLink RX11 144 yX5_isLive))) rfl
theorem winst_X5_isLive : Cond.instanceMethod yX5_isLive ∈ lw_good := jg_3 (List.mem_of_getElem? (i := 173) (rfl : tables_1_3[173]? = some (Cond.instanceMethod yX5_isLive))) rfl
theorem wsel_X5_isLive : Cond.selects RX5 yX5_isLive yX5_isLive ∈ lw_good := jg_3 (List.mem_of_getElem? (i := 174) (rfl : tables_1_3[174]? = some (Cond.selects RX5 yX5_isLive yX5_isLive))) rfl
theorem wcode_X5_isLive : Cond.code yX5_isLive cX5_isLive 2 (some .boolean) ∈ lw_good := jg_3 (List.mem_of_getElem? (i := 175) (rfl : tables_1_3[175]? = some (Cond.code yX5_isLive cX5_isLive 2 (some .boolean)))) rfl
theorem wm_X11_144 : ∀ w ∈ wsV RX11 144 RX5 yX5_isLive (jws yX5_isLive cX5_isLive 2 (some .boolean)), w ∈ lw_good := jgV wml_X11_144 winst_X5_isLive wsel_X5_isLive wini_X5 (jg4 wcode_X5_isLive)
theorem wml_X11_150 : Cond.methodLink RX11 150 yX5_strike ∈ lw_good := jg_3 (List.mem_of_getElem? (i := 177) (rfl : tables_1_3[177]? = some (Cond.methodLink RX11 150 yX5_strike))) rfl
theorem winst_X5_strike : Cond.instanceMethod yX5_strike ∈ lw_good := jg_3 (List.mem_of_getElem? (i := 178) (rfl : tables_1_3[178]? = some (Cond.instanceMethod yX5_strike))) rfl
theorem wsel_X5_strike : Cond.selects RX5 yX5_strike yX5_strike ∈ lw_good := jg_3 (List.mem_of_getElem? (i := 179) (rfl : tables_1_3[179]? = some (Cond.selects RX5 yX5_strike yX5_strike))) rfl
theorem wcode_X5_strike : Cond.code yX5_strike cX5_strike 2 none ∈ lw_good := jg_3 (List.mem_of_getElem? (i := 180) (rfl : tables_1_3[180]? = some (Cond.code yX5_strike cX5_strike 2 none))) rfl
theorem wm_X11_150 : ∀ w ∈ wsV RX11 150 RX5 yX5_strike (jws yX5_strike cX5_strike 2 none), w ∈ lw_good := jgV wml_X11_150 winst_X5_strike wsel_X5_strike wini_X5 (jg4 wcode_X5_strike)
theorem wml_L_157 : Cond.methodLink RL 157 yL_kind ∈ lw_good := jg_3 (List.mem_of_getElem? (i := 181) (rfl : tables_1_3[181]? = some (Cond.methodLink RL 157 yL_kind))) rfl
theorem wst_L_kind : Cond.static yL_kind ∈ lw_good := jg_3 (List.mem_of_getElem? (i := 182) (rfl : tables_1_3[182]? = some (Cond.static yL_kind))) rfl
theorem wcode_L_kind : Cond.codeWith yL_kind cL_kind 4 (some .int) [(0, 9, 12, 19)] ∈ lw_good := jg_3 (List.mem_of_getElem? (i := 183) (rfl : tables_1_3[183]? = some (Cond.codeWith yL_kind cL_kind 4 (some .int) [(0, 9, 12, 19)]))) rfl
theorem wm_L_157 : ∀ w ∈ va_wsS RL 157 yL_kind (jwsW yL_kind cL_kind 4 (some .int) [(0, 9, 12, 19)]), w ∈ lw_good := jgSJ wml_L_157 wst_L_kind wini_L (jg4W wcode_L_kind)
theorem wml_L_37 : Cond.methodLink RL 37 yX11_kind ∈ lw_good := jg_3 (List.mem_of_getElem? (i := 184) (rfl : tables_1_3[184]? = some (Cond.methodLink RL 37 yX11_kind))) rfl
theorem winst_X11_kind : Cond.instanceMethod yX11_kind ∈ lw_good := jg_3 (List.mem_of_getElem? (i := 185) (rfl : tables_1_3[185]? = some (Cond.instanceMethod yX11_kind))) rfl
theorem wsel_X11_kind : Cond.selects RX11 yX11_kind yX11_kind ∈ lw_good := jg_3 (List.mem_of_getElem? (i := 186) (rfl : tables_1_3[186]? = some (Cond.selects RX11 yX11_kind yX11_kind))) rfl
theorem wcode_X11_kind : Cond.code yX11_kind cX11_kind 2 (some .char) ∈ lw_good := jg_3 (List.mem_of_getElem? (i := 187) (rfl : tables_1_3[187]? = some (Cond.code yX11_kind cX11_kind 2 (some .char)))) rfl
theorem wm_L_37 : ∀ w ∈ wsV RL 37 RX11 yX11_kind (jws yX11_kind cX11_kind 2 (some .char)), w ∈ lw_good := jgV wml_L_37 winst_X11_kind wsel_X11_kind wini_X11 (jg4 wcode_X11_kind)
theorem wml_L_160 : Cond.methodLink RL 160 yL_setEvidence ∈ lw_good := jg_3 (List.mem_of_getElem? (i := 188) (rfl : tables_1_3[188]? = some (Cond.methodLink RL 160 yL_setEvidence))) rfl
theorem wst_L_setEvidence : Cond.static yL_setEvidence ∈ lw_good := jg_3 (List.mem_of_getElem? (i := 189) (rfl : tables_1_3[189]? = some (Cond.static yL_setEvidence))) rfl
theorem wcode_L_setEvidence : Cond.codeWith yL_setEvidence cL_setEvidence 5 (some .int) [(0, 10, 13, 19), (0, 10, 17, 21)] ∈ lw_good := jg_3 (List.mem_of_getElem? (i := 190) (rfl : tables_1_3[190]? = some (Cond.codeWith yL_setEvidence cL_setEvidence 5 (some .int) [(0, 10, 13, 19), (0, 10, 17, 21)]))) rfl
theorem wm_L_160 : ∀ w ∈ va_wsS RL 160 yL_setEvidence (jwsW yL_setEvidence cL_setEvidence 5 (some .int) [(0, 10, 13, 19), (0, 10, 17, 21)]), w ∈ lw_good := jgSJ wml_L_160 wst_L_setEvidence wini_L (jg4W wcode_L_setEvidence)
theorem wml_L_41 : Cond.methodLink RL 41 yX11_setEvidence ∈ lw_good := jg_3 (List.mem_of_getElem? (i := 191) (rfl : tables_1_3[191]? = some (Cond.methodLink RL 41 yX11_setEvidence))) rfl
theorem winst_X11_setEvidence : Cond.instanceMethod yX11_setEvidence ∈ lw_good := jg_3 (List.mem_of_getElem? (i := 192) (rfl : tables_1_3[192]? = some (Cond.instanceMethod yX11_setEvidence))) rfl
theorem wsel_X11_setEvidence : Cond.selects RX11 yX11_setEvidence yX11_setEvidence ∈ lw_good := jg_3 (List.mem_of_getElem? (i := 193) (rfl : tables_1_3[193]? = some (Cond.selects RX11 yX11_setEvidence yX11_setEvidence))) rfl
theorem wcode_X11_setEvidence : Cond.code yX11_setEvidence cX11_setEvidence 5 (some .int) ∈ lw_good := jg_3 (List.mem_of_getElem? (i := 194) (rfl : tables_1_3[194]? = some (Cond.code yX11_setEvidence cX11_setEvidence 5 (some .int)))) rfl
theorem wm_L_41 : ∀ w ∈ wsV RL 41 RX11 yX11_setEvidence (jws yX11_setEvidence cX11_setEvidence 5 (some .int)), w ∈ lw_good := jgV wml_L_41 winst_X11_setEvidence wsel_X11_setEvidence wini_X11 (jg4 wcode_X11_setEvidence)
theorem wml_X11_170 : Cond.methodLink RX11 170 yX11_isSettled ∈ lw_good := jg_3 (List.mem_of_getElem? (i := 196) (rfl : tables_1_3[196]? = some (Cond.methodLink RX11 170 yX11_isSettled))) rfl
theorem winst_X11_isSettled : Cond.instanceMethod yX11_isSettled ∈ lw_good := jg_3 (List.mem_of_getElem? (i := 198) (rfl : tables_1_3[198]? = some (Cond.instanceMethod yX11_isSettled))) rfl
theorem wsel_X11_isSettled : Cond.selects RX11 yX11_isSettled yX11_isSettled ∈ lw_good := jg_s (List.mem_of_getElem? (i := 22) (rfl : (k2_sels lw_privs)[22]? = some (Cond.selects RX11 yX11_isSettled yX11_isSettled))) rfl
theorem wcode_X11_isSettled : Cond.code yX11_isSettled cX11_isSettled 2 (some .boolean) ∈ lw_good := jg_3 (List.mem_of_getElem? (i := 199) (rfl : tables_1_3[199]? = some (Cond.code yX11_isSettled cX11_isSettled 2 (some .boolean)))) rfl
theorem wm_X11_170 : ∀ w ∈ wsV RX11 170 RX11 yX11_isSettled (jws yX11_isSettled cX11_isSettled 2 (some .boolean)), w ∈ lw_good := jgV wml_X11_170 winst_X11_isSettled wsel_X11_isSettled wini_X11 (jg4 wcode_X11_isSettled)
theorem wml_L_163 : Cond.methodLink RL 163 yL_holds ∈ lw_good := jg_3 (List.mem_of_getElem? (i := 200) (rfl : tables_1_3[200]? = some (Cond.methodLink RL 163 yL_holds))) rfl
theorem wst_L_holds : Cond.static yL_holds ∈ lw_good := jg_3 (List.mem_of_getElem? (i := 201) (rfl : tables_1_3[201]? = some (Cond.static yL_holds))) rfl
theorem wcode_L_holds : Cond.codeWith yL_holds cL_holds 5 (some .int) [(0, 17, 20, 19), (0, 17, 24, 21)] ∈ lw_good := jg_3 (List.mem_of_getElem? (i := 202) (rfl : tables_1_3[202]? = some (Cond.codeWith yL_holds cL_holds 5 (some .int) [(0, 17, 20, 19), (0, 17, 24, 21)]))) rfl
theorem wm_L_163 : ∀ w ∈ va_wsS RL 163 yL_holds (jwsW yL_holds cL_holds 5 (some .int) [(0, 17, 20, 19), (0, 17, 24, 21)]), w ∈ lw_good := jgSJ wml_L_163 wst_L_holds wini_L (jg4W wcode_L_holds)
theorem wml_L_44 : Cond.methodLink RL 44 yX11_holds ∈ lw_good := jg_3 (List.mem_of_getElem? (i := 203) (rfl : tables_1_3[203]? = some (Cond.methodLink RL 44 yX11_holds))) rfl
theorem winst_X11_holds : Cond.instanceMethod yX11_holds ∈ lw_good := jg_3 (List.mem_of_getElem? (i := 204) (rfl : tables_1_3[204]? = some (Cond.instanceMethod yX11_holds))) rfl
theorem wsel_X11_holds : Cond.selects RX11 yX11_holds yX11_holds ∈ lw_good := jg_3 (List.mem_of_getElem? (i := 205) (rfl : tables_1_3[205]? = some (Cond.selects RX11 yX11_holds yX11_holds))) rfl
theorem wcode_X11_holds : Cond.code yX11_holds cX11_holds 4 (some .boolean) ∈ lw_good := jg_3 (List.mem_of_getElem? (i := 206) (rfl : tables_1_3[206]? = some (Cond.code yX11_holds cX11_holds 4 (some .boolean)))) rfl
theorem wm_L_44 : ∀ w ∈ wsV RL 44 RX11 yX11_holds (jws yX11_holds cX11_holds 4 (some .boolean)), w ∈ lw_good := jgV wml_L_44 winst_X11_holds wsel_X11_holds wini_X11 (jg4 wcode_X11_holds)
theorem wml_L_179 : Cond.methodLink RL 179 yL_weightWith ∈ lw_good := jg_3 (List.mem_of_getElem? (i := 208) (rfl : tables_1_3[208]? = some (Cond.methodLink RL 179 yL_weightWith))) rfl
theorem wst_L_weightWith : Cond.static yL_weightWith ∈ lw_good := jg_3 (List.mem_of_getElem? (i := 209) (rfl : tables_1_3[209]? = some (Cond.static yL_weightWith))) rfl
theorem wcode_L_weightWith : Cond.codeWith yL_weightWith cL_weightWith 5 (some .int) [(0, 9, 12, 19), (0, 9, 16, 21)] ∈ lw_good := jg_3 (List.mem_of_getElem? (i := 210) (rfl : tables_1_3[210]? = some (Cond.codeWith yL_weightWith cL_weightWith 5 (some .int) [(0, 9, 12, 19), (0, 9, 16, 21)]))) rfl
theorem wm_L_179 : ∀ w ∈ va_wsS RL 179 yL_weightWith (jwsW yL_weightWith cL_weightWith 5 (some .int) [(0, 9, 12, 19), (0, 9, 16, 21)]), w ∈ lw_good := jgSJ wml_L_179 wst_L_weightWith wini_L (jg4W wcode_L_weightWith)
theorem wml_L_48 : Cond.methodLink RL 48 yX11_weightWith ∈ lw_good := jg_3 (List.mem_of_getElem? (i := 211) (rfl : tables_1_3[211]? = some (Cond.methodLink RL 48 yX11_weightWith))) rfl
theorem winst_X11_weightWith : Cond.instanceMethod yX11_weightWith ∈ lw_good := jg_3 (List.mem_of_getElem? (i := 212) (rfl : tables_1_3[212]? = some (Cond.instanceMethod yX11_weightWith))) rfl
theorem wsel_X11_weightWith : Cond.selects RX11 yX11_weightWith yX11_weightWith ∈ lw_good := jg_3 (List.mem_of_getElem? (i := 213) (rfl : tables_1_3[213]? = some (Cond.selects RX11 yX11_weightWith yX11_weightWith))) rfl
theorem wcode_X11_weightWith : Cond.code yX11_weightWith cX11_weightWith 3 (some .long) ∈ lw_good := jg_3 (List.mem_of_getElem? (i := 214) (rfl : tables_1_3[214]? = some (Cond.code yX11_weightWith cX11_weightWith 3 (some .long)))) rfl
theorem wm_L_48 : ∀ w ∈ wsV RL 48 RX11 yX11_weightWith (jws yX11_weightWith cX11_weightWith 3 (some .long)), w ∈ lw_good := jgV wml_L_48 winst_X11_weightWith wsel_X11_weightWith wini_X11 (jg4 wcode_X11_weightWith)
theorem wml_L_182 : Cond.methodLink RL 182 yL_chanceTop ∈ lw_good := jg_3 (List.mem_of_getElem? (i := 215) (rfl : tables_1_3[215]? = some (Cond.methodLink RL 182 yL_chanceTop))) rfl
theorem wst_L_chanceTop : Cond.static yL_chanceTop ∈ lw_good := jg_3 (List.mem_of_getElem? (i := 216) (rfl : tables_1_3[216]? = some (Cond.static yL_chanceTop))) rfl
theorem wcode_L_chanceTop : Cond.codeWith yL_chanceTop cL_chanceTop 4 (some .int) [(0, 8, 11, 19), (0, 8, 14, 56)] ∈ lw_good := jg_3 (List.mem_of_getElem? (i := 217) (rfl : tables_1_3[217]? = some (Cond.codeWith yL_chanceTop cL_chanceTop 4 (some .int) [(0, 8, 11, 19), (0, 8, 14, 56)]))) rfl
theorem wm_L_182 : ∀ w ∈ va_wsS RL 182 yL_chanceTop (jwsW yL_chanceTop cL_chanceTop 4 (some .int) [(0, 8, 11, 19), (0, 8, 14, 56)]), w ∈ lw_good := jgSJ wml_L_182 wst_L_chanceTop wini_L (jg4W wcode_L_chanceTop)
theorem wml_L_52 : Cond.methodLink RL 52 yX11_chanceTop ∈ lw_good := jg_3 (List.mem_of_getElem? (i := 219) (rfl : tables_1_3[219]? = some (Cond.methodLink RL 52 yX11_chanceTop))) rfl
theorem winst_X11_chanceTop : Cond.instanceMethod yX11_chanceTop ∈ lw_good := jg_3 (List.mem_of_getElem? (i := 220) (rfl : tables_1_3[220]? = some (Cond.instanceMethod yX11_chanceTop))) rfl
theorem wsel_X11_chanceTop : Cond.selects RX11 yX11_chanceTop yX11_chanceTop ∈ lw_good := jg_3 (List.mem_of_getElem? (i := 221) (rfl : tables_1_3[221]? = some (Cond.selects RX11 yX11_chanceTop yX11_chanceTop))) rfl
theorem wcode_X11_chanceTop : Cond.code yX11_chanceTop cX11_chanceTop 6 (some .long) ∈ lw_good := jg_3 (List.mem_of_getElem? (i := 222) (rfl : tables_1_3[222]? = some (Cond.code yX11_chanceTop cX11_chanceTop 6 (some .long)))) rfl
theorem wm_L_52 : ∀ w ∈ wsV RL 52 RX11 yX11_chanceTop (jws yX11_chanceTop cX11_chanceTop 6 (some .long)), w ∈ lw_good := jgV wml_L_52 winst_X11_chanceTop wsel_X11_chanceTop wini_X11 (jg4 wcode_X11_chanceTop)
theorem wml_X11_210 : Cond.methodLink RX11 210 yX11_positiveWeight ∈ lw_good := jg_3 (List.mem_of_getElem? (i := 223) (rfl : tables_1_3[223]? = some (Cond.methodLink RX11 210 yX11_positiveWeight))) rfl
theorem winst_X11_positiveWeight : Cond.instanceMethod yX11_positiveWeight ∈ lw_good := jg_3 (List.mem_of_getElem? (i := 225) (rfl : tables_1_3[225]? = some (Cond.instanceMethod yX11_positiveWeight))) rfl
theorem wsel_X11_positiveWeight : Cond.selects RX11 yX11_positiveWeight yX11_positiveWeight ∈ lw_good := jg_s (List.mem_of_getElem? (i := 23) (rfl : (k2_sels lw_privs)[23]? = some (Cond.selects RX11 yX11_positiveWeight yX11_positiveWeight))) rfl
theorem wcode_X11_positiveWeight : Cond.code yX11_positiveWeight cX11_positiveWeight 3 (some .long) ∈ lw_good := jg_3 (List.mem_of_getElem? (i := 226) (rfl : tables_1_3[226]? = some (Cond.code yX11_positiveWeight cX11_positiveWeight 3 (some .long)))) rfl
theorem wm_X11_210 : ∀ w ∈ wsV RX11 210 RX11 yX11_positiveWeight (jws yX11_positiveWeight cX11_positiveWeight 3 (some .long)), w ∈ lw_good := jgV wml_X11_210 winst_X11_positiveWeight wsel_X11_positiveWeight wini_X11 (jg4 wcode_X11_positiveWeight)
theorem wml_X11_214 : Cond.methodLink RX11 214 yX11_lowered ∈ lw_good := jg_4 (List.mem_of_getElem? (i := 3) (rfl : tables_1_4[3]? = some (Cond.methodLink RX11 214 yX11_lowered))) rfl
theorem wst_X11_lowered : Cond.static yX11_lowered ∈ lw_good := jg_4 (List.mem_of_getElem? (i := 4) (rfl : tables_1_4[4]? = some (Cond.static yX11_lowered))) rfl
theorem wcode_X11_lowered : Cond.code yX11_lowered cX11_lowered 13 (some .long) ∈ lw_good := jg_4 (List.mem_of_getElem? (i := 5) (rfl : tables_1_4[5]? = some (Cond.code yX11_lowered cX11_lowered 13 (some .long)))) rfl
theorem wm_X11_214 : ∀ w ∈ wsS RX11 214 yX11_lowered (jws yX11_lowered cX11_lowered 13 (some .long)), w ∈ lw_good := jgS wml_X11_214 wst_X11_lowered wini_X11 (jg4 wcode_X11_lowered)
theorem wml_L_185 : Cond.methodLink RL 185 yL_chanceBottom ∈ lw_good := jg_4 (List.mem_of_getElem? (i := 6) (rfl : tables_1_4[6]? = some (Cond.methodLink RL 185 yL_chanceBottom))) rfl
theorem wst_L_chanceBottom : Cond.static yL_chanceBottom ∈ lw_good := jg_4 (List.mem_of_getElem? (i := 7) (rfl : tables_1_4[7]? = some (Cond.static yL_chanceBottom))) rfl
theorem wcode_L_chanceBottom : Cond.codeWith yL_chanceBottom cL_chanceBottom 4 (some .int) [(0, 8, 11, 19), (0, 8, 14, 56)] ∈ lw_good := jg_4 (List.mem_of_getElem? (i := 8) (rfl : tables_1_4[8]? = some (Cond.codeWith yL_chanceBottom cL_chanceBottom 4 (some .int) [(0, 8, 11, 19), (0, 8, 14, 56)]))) rfl
theorem wm_L_185 : ∀ w ∈ va_wsS RL 185 yL_chanceBottom (jwsW yL_chanceBottom cL_chanceBottom 4 (some .int) [(0, 8, 11, 19), (0, 8, 14, 56)]), w ∈ lw_good := jgSJ wml_L_185 wst_L_chanceBottom wini_L (jg4W wcode_L_chanceBottom)
theorem wml_L_58 : Cond.methodLink RL 58 yX11_chanceBottom ∈ lw_good := jg_4 (List.mem_of_getElem? (i := 9) (rfl : tables_1_4[9]? = some (Cond.methodLink RL 58 yX11_chanceBottom))) rfl
theorem winst_X11_chanceBottom : Cond.instanceMethod yX11_chanceBottom ∈ lw_good := jg_4 (List.mem_of_getElem? (i := 10) (rfl : tables_1_4[10]? = some (Cond.instanceMethod yX11_chanceBottom))) rfl
theorem wsel_X11_chanceBottom : Cond.selects RX11 yX11_chanceBottom yX11_chanceBottom ∈ lw_good := jg_4 (List.mem_of_getElem? (i := 11) (rfl : tables_1_4[11]? = some (Cond.selects RX11 yX11_chanceBottom yX11_chanceBottom))) rfl
theorem wcode_X11_chanceBottom : Cond.code yX11_chanceBottom cX11_chanceBottom 4 (some .long) ∈ lw_good := jg_4 (List.mem_of_getElem? (i := 12) (rfl : tables_1_4[12]? = some (Cond.code yX11_chanceBottom cX11_chanceBottom 4 (some .long)))) rfl
theorem wm_L_58 : ∀ w ∈ wsV RL 58 RX11 yX11_chanceBottom (jws yX11_chanceBottom cX11_chanceBottom 4 (some .long)), w ∈ lw_good := jgV wml_L_58 winst_X11_chanceBottom wsel_X11_chanceBottom wini_X11 (jg4 wcode_X11_chanceBottom)
theorem wml_L_188 : Cond.methodLink RL 188 yL_projected ∈ lw_good := jg_4 (List.mem_of_getElem? (i := 13) (rfl : tables_1_4[13]? = some (Cond.methodLink RL 188 yL_projected))) rfl
theorem wst_L_projected : Cond.static yL_projected ∈ lw_good := jg_4 (List.mem_of_getElem? (i := 14) (rfl : tables_1_4[14]? = some (Cond.static yL_projected))) rfl
theorem wcode_L_projected : Cond.codeWith yL_projected cL_projected 4 (some .int) [(0, 8, 11, 21)] ∈ lw_good := jg_4 (List.mem_of_getElem? (i := 15) (rfl : tables_1_4[15]? = some (Cond.codeWith yL_projected cL_projected 4 (some .int) [(0, 8, 11, 21)]))) rfl
theorem wm_L_188 : ∀ w ∈ va_wsS RL 188 yL_projected (jwsW yL_projected cL_projected 4 (some .int) [(0, 8, 11, 21)]), w ∈ lw_good := jgSJ wml_L_188 wst_L_projected wini_L (jg4W wcode_L_projected)
theorem wml_L_61 : Cond.methodLink RL 61 yX11_projected ∈ lw_good := jg_4 (List.mem_of_getElem? (i := 16) (rfl : tables_1_4[16]? = some (Cond.methodLink RL 61 yX11_projected))) rfl
theorem winst_X11_projected : Cond.instanceMethod yX11_projected ∈ lw_good := jg_4 (List.mem_of_getElem? (i := 17) (rfl : tables_1_4[17]? = some (Cond.instanceMethod yX11_projected))) rfl
theorem wsel_X11_projected : Cond.selects RX11 yX11_projected yX11_projected ∈ lw_good := jg_4 (List.mem_of_getElem? (i := 18) (rfl : tables_1_4[18]? = some (Cond.selects RX11 yX11_projected yX11_projected))) rfl
theorem wcode_X11_projected : Cond.code yX11_projected cX11_projected 4 (some .long) ∈ lw_good := jg_4 (List.mem_of_getElem? (i := 19) (rfl : tables_1_4[19]? = some (Cond.code yX11_projected cX11_projected 4 (some .long)))) rfl
theorem wm_L_61 : ∀ w ∈ wsV RL 61 RX11 yX11_projected (jws yX11_projected cX11_projected 4 (some .long)), w ∈ lw_good := jgV wml_L_61 winst_X11_projected wsel_X11_projected wini_X11 (jg4 wcode_X11_projected)
theorem wml_L_191 : Cond.methodLink RL 191 yL_implied ∈ lw_good := jg_4 (List.mem_of_getElem? (i := 20) (rfl : tables_1_4[20]? = some (Cond.methodLink RL 191 yL_implied))) rfl
theorem wst_L_implied : Cond.static yL_implied ∈ lw_good := jg_4 (List.mem_of_getElem? (i := 21) (rfl : tables_1_4[21]? = some (Cond.static yL_implied))) rfl
theorem wcode_L_implied : Cond.codeWith yL_implied cL_implied 4 (some .int) [(0, 9, 12, 19)] ∈ lw_good := jg_4 (List.mem_of_getElem? (i := 22) (rfl : tables_1_4[22]? = some (Cond.codeWith yL_implied cL_implied 4 (some .int) [(0, 9, 12, 19)]))) rfl
theorem wm_L_191 : ∀ w ∈ va_wsS RL 191 yL_implied (jwsW yL_implied cL_implied 4 (some .int) [(0, 9, 12, 19)]), w ∈ lw_good := jgSJ wml_L_191 wst_L_implied wini_L (jg4W wcode_L_implied)
theorem wml_L_64 : Cond.methodLink RL 64 yX11_implied ∈ lw_good := jg_4 (List.mem_of_getElem? (i := 23) (rfl : tables_1_4[23]? = some (Cond.methodLink RL 64 yX11_implied))) rfl
theorem winst_X11_implied : Cond.instanceMethod yX11_implied ∈ lw_good := jg_4 (List.mem_of_getElem? (i := 24) (rfl : tables_1_4[24]? = some (Cond.instanceMethod yX11_implied))) rfl
theorem wsel_X11_implied : Cond.selects RX11 yX11_implied yX11_implied ∈ lw_good := jg_4 (List.mem_of_getElem? (i := 25) (rfl : tables_1_4[25]? = some (Cond.selects RX11 yX11_implied yX11_implied))) rfl
theorem wcode_X11_implied : Cond.code yX11_implied cX11_implied 6 (some .char) ∈ lw_good := jg_4 (List.mem_of_getElem? (i := 26) (rfl : tables_1_4[26]? = some (Cond.code yX11_implied cX11_implied 6 (some .char)))) rfl
theorem wm_L_64 : ∀ w ∈ wsV RL 64 RX11 yX11_implied (jws yX11_implied cX11_implied 6 (some .char)), w ∈ lw_good := jgV wml_L_64 winst_X11_implied wsel_X11_implied wini_X11 (jg4 wcode_X11_implied)
theorem wml_L_198 : Cond.methodLink RL 198 yL_partOf ∈ lw_good := jg_4 (List.mem_of_getElem? (i := 27) (rfl : tables_1_4[27]? = some (Cond.methodLink RL 198 yL_partOf))) rfl
theorem wst_L_partOf : Cond.static yL_partOf ∈ lw_good := jg_4 (List.mem_of_getElem? (i := 28) (rfl : tables_1_4[28]? = some (Cond.static yL_partOf))) rfl
theorem wcode_L_partOf : Cond.codeWith yL_partOf cL_partOf 4 (some .int) [(0, 9, 12, 19), (0, 9, 15, 56)] ∈ lw_good := jg_4 (List.mem_of_getElem? (i := 29) (rfl : tables_1_4[29]? = some (Cond.codeWith yL_partOf cL_partOf 4 (some .int) [(0, 9, 12, 19), (0, 9, 15, 56)]))) rfl
theorem wm_L_198 : ∀ w ∈ va_wsS RL 198 yL_partOf (jwsW yL_partOf cL_partOf 4 (some .int) [(0, 9, 12, 19), (0, 9, 15, 56)]), w ∈ lw_good := jgSJ wml_L_198 wst_L_partOf wini_L (jg4W wcode_L_partOf)
theorem wml_L_67 : Cond.methodLink RL 67 yX11_partOf ∈ lw_good := jg_4 (List.mem_of_getElem? (i := 30) (rfl : tables_1_4[30]? = some (Cond.methodLink RL 67 yX11_partOf))) rfl
theorem winst_X11_partOf : Cond.instanceMethod yX11_partOf ∈ lw_good := jg_4 (List.mem_of_getElem? (i := 31) (rfl : tables_1_4[31]? = some (Cond.instanceMethod yX11_partOf))) rfl
theorem wsel_X11_partOf : Cond.selects RX11 yX11_partOf yX11_partOf ∈ lw_good := jg_4 (List.mem_of_getElem? (i := 32) (rfl : tables_1_4[32]? = some (Cond.selects RX11 yX11_partOf yX11_partOf))) rfl
theorem wcode_X11_partOf : Cond.code yX11_partOf cX11_partOf 2 (some .int) ∈ lw_good := jg_4 (List.mem_of_getElem? (i := 33) (rfl : tables_1_4[33]? = some (Cond.code yX11_partOf cX11_partOf 2 (some .int)))) rfl
theorem wm_L_67 : ∀ w ∈ wsV RL 67 RX11 yX11_partOf (jws yX11_partOf cX11_partOf 2 (some .int)), w ∈ lw_good := jgV wml_L_67 winst_X11_partOf wsel_X11_partOf wini_X11 (jg4 wcode_X11_partOf)
theorem wml_X11_230 : Cond.methodLink RX11 230 yX11_checkOpen ∈ lw_good := jg_4 (List.mem_of_getElem? (i := 34) (rfl : tables_1_4[34]? = some (Cond.methodLink RX11 230 yX11_checkOpen))) rfl
theorem winst_X11_checkOpen : Cond.instanceMethod yX11_checkOpen ∈ lw_good := jg_4 (List.mem_of_getElem? (i := 36) (rfl : tables_1_4[36]? = some (Cond.instanceMethod yX11_checkOpen))) rfl
theorem wsel_X11_checkOpen : Cond.selects RX11 yX11_checkOpen yX11_checkOpen ∈ lw_good := jg_s (List.mem_of_getElem? (i := 24) (rfl : (k2_sels lw_privs)[24]? = some (Cond.selects RX11 yX11_checkOpen yX11_checkOpen))) rfl
theorem wcode_X11_checkOpen : Cond.code yX11_checkOpen cX11_checkOpen 2 none ∈ lw_good := jg_4 (List.mem_of_getElem? (i := 37) (rfl : tables_1_4[37]? = some (Cond.code yX11_checkOpen cX11_checkOpen 2 none))) rfl
theorem wm_X11_230 : ∀ w ∈ wsV RX11 230 RX11 yX11_checkOpen (jws yX11_checkOpen cX11_checkOpen 2 none), w ∈ lw_good := jgV wml_X11_230 winst_X11_checkOpen wsel_X11_checkOpen wini_X11 (jg4 wcode_X11_checkOpen)
theorem wml_L_201 : Cond.methodLink RL 201 yL_modelsOfPart ∈ lw_good := jg_4 (List.mem_of_getElem? (i := 39) (rfl : tables_1_4[39]? = some (Cond.methodLink RL 201 yL_modelsOfPart))) rfl
theorem wst_L_modelsOfPart : Cond.static yL_modelsOfPart ∈ lw_good := jg_4 (List.mem_of_getElem? (i := 40) (rfl : tables_1_4[40]? = some (Cond.static yL_modelsOfPart))) rfl
theorem wcode_L_modelsOfPart : Cond.codeWith yL_modelsOfPart cL_modelsOfPart 4 (some .int) [(0, 8, 11, 19), (0, 8, 14, 56)] ∈ lw_good := jg_4 (List.mem_of_getElem? (i := 41) (rfl : tables_1_4[41]? = some (Cond.codeWith yL_modelsOfPart cL_modelsOfPart 4 (some .int) [(0, 8, 11, 19), (0, 8, 14, 56)]))) rfl
theorem wm_L_201 : ∀ w ∈ va_wsS RL 201 yL_modelsOfPart (jwsW yL_modelsOfPart cL_modelsOfPart 4 (some .int) [(0, 8, 11, 19), (0, 8, 14, 56)]), w ∈ lw_good := jgSJ wml_L_201 wst_L_modelsOfPart wini_L (jg4W wcode_L_modelsOfPart)
theorem wml_L_70 : Cond.methodLink RL 70 yX11_modelsOfPart ∈ lw_good := jg_4 (List.mem_of_getElem? (i := 42) (rfl : tables_1_4[42]? = some (Cond.methodLink RL 70 yX11_modelsOfPart))) rfl
theorem winst_X11_modelsOfPart : Cond.instanceMethod yX11_modelsOfPart ∈ lw_good := jg_4 (List.mem_of_getElem? (i := 43) (rfl : tables_1_4[43]? = some (Cond.instanceMethod yX11_modelsOfPart))) rfl
theorem wsel_X11_modelsOfPart : Cond.selects RX11 yX11_modelsOfPart yX11_modelsOfPart ∈ lw_good := jg_4 (List.mem_of_getElem? (i := 44) (rfl : tables_1_4[44]? = some (Cond.selects RX11 yX11_modelsOfPart yX11_modelsOfPart))) rfl
theorem wcode_X11_modelsOfPart : Cond.code yX11_modelsOfPart cX11_modelsOfPart 2 (some .long) ∈ lw_good := jg_4 (List.mem_of_getElem? (i := 45) (rfl : tables_1_4[45]? = some (Cond.code yX11_modelsOfPart cX11_modelsOfPart 2 (some .long)))) rfl
theorem wm_L_70 : ∀ w ∈ wsV RL 70 RX11 yX11_modelsOfPart (jws yX11_modelsOfPart cX11_modelsOfPart 2 (some .long)), w ∈ lw_good := jgV wml_L_70 winst_X11_modelsOfPart wsel_X11_modelsOfPart wini_X11 (jg4 wcode_X11_modelsOfPart)
theorem wml_L_204 : Cond.methodLink RL 204 yL_best ∈ lw_good := jg_4 (List.mem_of_getElem? (i := 46) (rfl : tables_1_4[46]? = some (Cond.methodLink RL 204 yL_best))) rfl
theorem wst_L_best : Cond.static yL_best ∈ lw_good := jg_4 (List.mem_of_getElem? (i := 47) (rfl : tables_1_4[47]? = some (Cond.static yL_best))) rfl
theorem wcode_L_best : Cond.codeWith yL_best cL_best 4 (some .int) [(0, 9, 12, 21), (0, 9, 15, 56)] ∈ lw_good := jg_4 (List.mem_of_getElem? (i := 48) (rfl : tables_1_4[48]? = some (Cond.codeWith yL_best cL_best 4 (some .int) [(0, 9, 12, 21), (0, 9, 15, 56)]))) rfl
theorem wm_L_204 : ∀ w ∈ va_wsS RL 204 yL_best (jwsW yL_best cL_best 4 (some .int) [(0, 9, 12, 21), (0, 9, 15, 56)]), w ∈ lw_good := jgSJ wml_L_204 wst_L_best wini_L (jg4W wcode_L_best)
theorem wml_L_73 : Cond.methodLink RL 73 yX11_best ∈ lw_good := jg_4 (List.mem_of_getElem? (i := 49) (rfl : tables_1_4[49]? = some (Cond.methodLink RL 73 yX11_best))) rfl
theorem winst_X11_best : Cond.instanceMethod yX11_best ∈ lw_good := jg_4 (List.mem_of_getElem? (i := 50) (rfl : tables_1_4[50]? = some (Cond.instanceMethod yX11_best))) rfl
theorem wsel_X11_best : Cond.selects RX11 yX11_best yX11_best ∈ lw_good := jg_4 (List.mem_of_getElem? (i := 51) (rfl : tables_1_4[51]? = some (Cond.selects RX11 yX11_best yX11_best))) rfl
theorem wcode_X11_best : Cond.code yX11_best cX11_best 5 (some .int) ∈ lw_good := jg_4 (List.mem_of_getElem? (i := 52) (rfl : tables_1_4[52]? = some (Cond.code yX11_best cX11_best 5 (some .int)))) rfl
theorem wm_L_73 : ∀ w ∈ wsV RL 73 RX11 yX11_best (jws yX11_best cX11_best 5 (some .int)), w ∈ lw_good := jgV wml_L_73 winst_X11_best wsel_X11_best wini_X11 (jg4 wcode_X11_best)
theorem wml_X11_243 : Cond.methodLink RX11 243 yX10_restart ∈ lw_good := jg_4 (List.mem_of_getElem? (i := 55) (rfl : tables_1_4[55]? = some (Cond.methodLink RX11 243 yX10_restart))) rfl
theorem winst_X10_restart : Cond.instanceMethod yX10_restart ∈ lw_good := jg_4 (List.mem_of_getElem? (i := 56) (rfl : tables_1_4[56]? = some (Cond.instanceMethod yX10_restart))) rfl
theorem wsel_X10_restart : Cond.selects RX10 yX10_restart yX10_restart ∈ lw_good := jg_4 (List.mem_of_getElem? (i := 57) (rfl : tables_1_4[57]? = some (Cond.selects RX10 yX10_restart yX10_restart))) rfl
theorem wcode_X10_restart : Cond.code yX10_restart cX10_restart 1 none ∈ lw_good := jg_4 (List.mem_of_getElem? (i := 58) (rfl : tables_1_4[58]? = some (Cond.code yX10_restart cX10_restart 1 none))) rfl
theorem wm_X11_243 : ∀ w ∈ wsV RX11 243 RX10 yX10_restart (jws yX10_restart cX10_restart 1 none), w ∈ lw_good := jgV wml_X11_243 winst_X10_restart wsel_X10_restart wini_X10 (jg4 wcode_X10_restart)
theorem wml_X11_247 : Cond.methodLink RX11 247 yX10_enter ∈ lw_good := jg_4 (List.mem_of_getElem? (i := 59) (rfl : tables_1_4[59]? = some (Cond.methodLink RX11 247 yX10_enter))) rfl
theorem winst_X10_enter : Cond.instanceMethod yX10_enter ∈ lw_good := jg_4 (List.mem_of_getElem? (i := 60) (rfl : tables_1_4[60]? = some (Cond.instanceMethod yX10_enter))) rfl
theorem wsel_X10_enter : Cond.selects RX10 yX10_enter yX10_enter ∈ lw_good := jg_4 (List.mem_of_getElem? (i := 61) (rfl : tables_1_4[61]? = some (Cond.selects RX10 yX10_enter yX10_enter))) rfl
theorem wcode_X10_enter : Cond.code yX10_enter cX10_enter 5 none ∈ lw_good := jg_4 (List.mem_of_getElem? (i := 62) (rfl : tables_1_4[62]? = some (Cond.code yX10_enter cX10_enter 5 none))) rfl
theorem wm_X11_247 : ∀ w ∈ wsV RX11 247 RX10 yX10_enter (jws yX10_enter cX10_enter 5 none), w ∈ lw_good := jgV wml_X11_247 winst_X10_enter wsel_X10_enter wini_X10 (jg4 wcode_X10_enter)
theorem wml_X10_31 : Cond.methodLink RX10 31 yX7_at ∈ lw_good := jg_4 (List.mem_of_getElem? (i := 63) (rfl : tables_1_4[63]? = some (Cond.methodLink RX10 31 yX7_at))) rfl
theorem wm_X10_31 : ∀ w ∈ wsV RX10 31 RX7 yX7_at (jws yX7_at cX7_at 2 (some .long)), w ∈ lw_good := jgV wml_X10_31 winst_X7_at wsel_X7_at wini_X7 (jg4 wcode_X7_at)
theorem wml_X10_35 : Cond.methodLink RX10 35 yX6_at ∈ lw_good := jg_4 (List.mem_of_getElem? (i := 64) (rfl : tables_1_4[64]? = some (Cond.methodLink RX10 35 yX6_at))) rfl
theorem wm_X10_35 : ∀ w ∈ wsV RX10 35 RX6 yX6_at (jws yX6_at cX6_at 2 (some .int)), w ∈ lw_good := jgV wml_X10_35 winst_X6_at wsel_X6_at wini_X6 (jg4 wcode_X6_at)
theorem wml_X10_38 : Cond.methodLink RX10 38 yX6_put ∈ lw_good := jg_4 (List.mem_of_getElem? (i := 65) (rfl : tables_1_4[65]? = some (Cond.methodLink RX10 38 yX6_put))) rfl
theorem wm_X10_38 : ∀ w ∈ wsV RX10 38 RX6 yX6_put (jws yX6_put cX6_put 3 none), w ∈ lw_good := jgV wml_X10_38 winst_X6_put wsel_X6_put wini_X6 (jg4 wcode_X6_put)
theorem wml_X10_42 : Cond.methodLink RX10 42 yX7_put ∈ lw_good := jg_4 (List.mem_of_getElem? (i := 66) (rfl : tables_1_4[66]? = some (Cond.methodLink RX10 42 yX7_put))) rfl
theorem wm_X10_42 : ∀ w ∈ wsV RX10 42 RX7 yX7_put (jws yX7_put cX7_put 4 none), w ∈ lw_good := jgV wml_X10_42 winst_X7_put wsel_X7_put wini_X7 (jg4 wcode_X7_put)
theorem wml_X11_250 : Cond.methodLink RX11 250 yX11_following ∈ lw_good := jg_4 (List.mem_of_getElem? (i := 67) (rfl : tables_1_4[67]? = some (Cond.methodLink RX11 250 yX11_following))) rfl
theorem winst_X11_following : Cond.instanceMethod yX11_following ∈ lw_good := jg_4 (List.mem_of_getElem? (i := 69) (rfl : tables_1_4[69]? = some (Cond.instanceMethod yX11_following))) rfl
theorem wsel_X11_following : Cond.selects RX11 yX11_following yX11_following ∈ lw_good := jg_s (List.mem_of_getElem? (i := 25) (rfl : (k2_sels lw_privs)[25]? = some (Cond.selects RX11 yX11_following yX11_following))) rfl
theorem wcode_X11_following : Cond.code yX11_following cX11_following 5 (some .int) ∈ lw_good := jg_4 (List.mem_of_getElem? (i := 70) (rfl : tables_1_4[70]? = some (Cond.code yX11_following cX11_following 5 (some .int)))) rfl
theorem wm_X11_250 : ∀ w ∈ wsV RX11 250 RX11 yX11_following (jws yX11_following cX11_following 5 (some .int)), w ∈ lw_good := jgV wml_X11_250 winst_X11_following wsel_X11_following wini_X11 (jg4 wcode_X11_following)
theorem wml_X11_253 : Cond.methodLink RX11 253 yX10_assignmentAt ∈ lw_good := jg_4 (List.mem_of_getElem? (i := 71) (rfl : tables_1_4[71]? = some (Cond.methodLink RX11 253 yX10_assignmentAt))) rfl
theorem winst_X10_assignmentAt : Cond.instanceMethod yX10_assignmentAt ∈ lw_good := jg_4 (List.mem_of_getElem? (i := 72) (rfl : tables_1_4[72]? = some (Cond.instanceMethod yX10_assignmentAt))) rfl
theorem wsel_X10_assignmentAt : Cond.selects RX10 yX10_assignmentAt yX10_assignmentAt ∈ lw_good := jg_4 (List.mem_of_getElem? (i := 73) (rfl : tables_1_4[73]? = some (Cond.selects RX10 yX10_assignmentAt yX10_assignmentAt))) rfl
theorem wcode_X10_assignmentAt : Cond.code yX10_assignmentAt cX10_assignmentAt 2 (some .int) ∈ lw_good := jg_4 (List.mem_of_getElem? (i := 74) (rfl : tables_1_4[74]? = some (Cond.code yX10_assignmentAt cX10_assignmentAt 2 (some .int)))) rfl
theorem wm_X11_253 : ∀ w ∈ wsV RX11 253 RX10 yX10_assignmentAt (jws yX10_assignmentAt cX10_assignmentAt 2 (some .int)), w ∈ lw_good := jgV wml_X11_253 winst_X10_assignmentAt wsel_X10_assignmentAt wini_X10 (jg4 wcode_X10_assignmentAt)
theorem wml_L_207 : Cond.methodLink RL 207 yL_weightOf ∈ lw_good := jg_4 (List.mem_of_getElem? (i := 75) (rfl : tables_1_4[75]? = some (Cond.methodLink RL 207 yL_weightOf))) rfl
theorem wst_L_weightOf : Cond.static yL_weightOf ∈ lw_good := jg_4 (List.mem_of_getElem? (i := 76) (rfl : tables_1_4[76]? = some (Cond.static yL_weightOf))) rfl
theorem wcode_L_weightOf : Cond.codeWith yL_weightOf cL_weightOf 4 (some .int) [(0, 8, 11, 21)] ∈ lw_good := jg_4 (List.mem_of_getElem? (i := 77) (rfl : tables_1_4[77]? = some (Cond.codeWith yL_weightOf cL_weightOf 4 (some .int) [(0, 8, 11, 21)]))) rfl
theorem wm_L_207 : ∀ w ∈ va_wsS RL 207 yL_weightOf (jwsW yL_weightOf cL_weightOf 4 (some .int) [(0, 8, 11, 21)]), w ∈ lw_good := jgSJ wml_L_207 wst_L_weightOf wini_L (jg4W wcode_L_weightOf)
theorem wml_L_76 : Cond.methodLink RL 76 yX11_weightOf ∈ lw_good := jg_4 (List.mem_of_getElem? (i := 78) (rfl : tables_1_4[78]? = some (Cond.methodLink RL 76 yX11_weightOf))) rfl
theorem winst_X11_weightOf : Cond.instanceMethod yX11_weightOf ∈ lw_good := jg_4 (List.mem_of_getElem? (i := 79) (rfl : tables_1_4[79]? = some (Cond.instanceMethod yX11_weightOf))) rfl
theorem wsel_X11_weightOf : Cond.selects RX11 yX11_weightOf yX11_weightOf ∈ lw_good := jg_4 (List.mem_of_getElem? (i := 80) (rfl : tables_1_4[80]? = some (Cond.selects RX11 yX11_weightOf yX11_weightOf))) rfl
theorem wcode_X11_weightOf : Cond.code yX11_weightOf cX11_weightOf 2 (some .long) ∈ lw_good := jg_4 (List.mem_of_getElem? (i := 81) (rfl : tables_1_4[81]? = some (Cond.code yX11_weightOf cX11_weightOf 2 (some .long)))) rfl
theorem wm_L_76 : ∀ w ∈ wsV RL 76 RX11 yX11_weightOf (jws yX11_weightOf cX11_weightOf 2 (some .long)), w ∈ lw_good := jgV wml_L_76 winst_X11_weightOf wsel_X11_weightOf wini_X11 (jg4 wcode_X11_weightOf)
theorem wml_L_212 : Cond.methodLink RL 212 yL_lucky ∈ lw_good := jg_4 (List.mem_of_getElem? (i := 82) (rfl : tables_1_4[82]? = some (Cond.methodLink RL 212 yL_lucky))) rfl
theorem wst_L_lucky : Cond.static yL_lucky ∈ lw_good := jg_4 (List.mem_of_getElem? (i := 83) (rfl : tables_1_4[83]? = some (Cond.static yL_lucky))) rfl
theorem wcode_L_lucky : Cond.codeWith yL_lucky cL_lucky 5 (some .int) [(0, 9, 12, 21)] ∈ lw_good := jg_4 (List.mem_of_getElem? (i := 84) (rfl : tables_1_4[84]? = some (Cond.codeWith yL_lucky cL_lucky 5 (some .int) [(0, 9, 12, 21)]))) rfl
theorem wm_L_212 : ∀ w ∈ va_wsS RL 212 yL_lucky (jwsW yL_lucky cL_lucky 5 (some .int) [(0, 9, 12, 21)]), w ∈ lw_good := jgSJ wml_L_212 wst_L_lucky wini_L (jg4W wcode_L_lucky)
theorem wml_L_79 : Cond.methodLink RL 79 yX11_lucky ∈ lw_good := jg_4 (List.mem_of_getElem? (i := 85) (rfl : tables_1_4[85]? = some (Cond.methodLink RL 79 yX11_lucky))) rfl
theorem winst_X11_lucky : Cond.instanceMethod yX11_lucky ∈ lw_good := jg_4 (List.mem_of_getElem? (i := 86) (rfl : tables_1_4[86]? = some (Cond.instanceMethod yX11_lucky))) rfl
theorem wsel_X11_lucky : Cond.selects RX11 yX11_lucky yX11_lucky ∈ lw_good := jg_4 (List.mem_of_getElem? (i := 87) (rfl : tables_1_4[87]? = some (Cond.selects RX11 yX11_lucky yX11_lucky))) rfl
theorem wcode_X11_lucky : Cond.code yX11_lucky cX11_lucky 9 (some .int) ∈ lw_good := jg_4 (List.mem_of_getElem? (i := 88) (rfl : tables_1_4[88]? = some (Cond.code yX11_lucky cX11_lucky 9 (some .int)))) rfl
theorem wm_L_79 : ∀ w ∈ wsV RL 79 RX11 yX11_lucky (jws yX11_lucky cX11_lucky 9 (some .int)), w ∈ lw_good := jgV wml_L_79 winst_X11_lucky wsel_X11_lucky wini_X11 (jg4 wcode_X11_lucky)
theorem wml_L_216 : Cond.methodLink RL 216 yL_first ∈ lw_good := jg_4 (List.mem_of_getElem? (i := 90) (rfl : tables_1_4[90]? = some (Cond.methodLink RL 216 yL_first))) rfl
theorem wst_L_first : Cond.static yL_first ∈ lw_good := jg_4 (List.mem_of_getElem? (i := 91) (rfl : tables_1_4[91]? = some (Cond.static yL_first))) rfl
theorem wcode_L_first : Cond.codeWith yL_first cL_first 3 (some .int) [(0, 8, 11, 56)] ∈ lw_good := jg_4 (List.mem_of_getElem? (i := 92) (rfl : tables_1_4[92]? = some (Cond.codeWith yL_first cL_first 3 (some .int) [(0, 8, 11, 56)]))) rfl
theorem wm_L_216 : ∀ w ∈ va_wsS RL 216 yL_first (jwsW yL_first cL_first 3 (some .int) [(0, 8, 11, 56)]), w ∈ lw_good := jgSJ wml_L_216 wst_L_first wini_L (jg4W wcode_L_first)
theorem wml_L_83 : Cond.methodLink RL 83 yX11_first ∈ lw_good := jg_4 (List.mem_of_getElem? (i := 93) (rfl : tables_1_4[93]? = some (Cond.methodLink RL 83 yX11_first))) rfl
theorem winst_X11_first : Cond.instanceMethod yX11_first ∈ lw_good := jg_4 (List.mem_of_getElem? (i := 94) (rfl : tables_1_4[94]? = some (Cond.instanceMethod yX11_first))) rfl
theorem wsel_X11_first : Cond.selects RX11 yX11_first yX11_first ∈ lw_good := jg_4 (List.mem_of_getElem? (i := 95) (rfl : tables_1_4[95]? = some (Cond.selects RX11 yX11_first yX11_first))) rfl
theorem wcode_X11_first : Cond.code yX11_first cX11_first 4 (some .int) ∈ lw_good := jg_4 (List.mem_of_getElem? (i := 96) (rfl : tables_1_4[96]? = some (Cond.code yX11_first cX11_first 4 (some .int)))) rfl
theorem wm_L_83 : ∀ w ∈ wsV RL 83 RX11 yX11_first (jws yX11_first cX11_first 4 (some .int)), w ∈ lw_good := jgV wml_L_83 winst_X11_first wsel_X11_first wini_X11 (jg4 wcode_X11_first)
theorem wml_L_223 : Cond.methodLink RL 223 yL_nodesFor ∈ lw_good := jg_4 (List.mem_of_getElem? (i := 98) (rfl : tables_1_4[98]? = some (Cond.methodLink RL 223 yL_nodesFor))) rfl
theorem wst_L_nodesFor : Cond.static yL_nodesFor ∈ lw_good := jg_4 (List.mem_of_getElem? (i := 99) (rfl : tables_1_4[99]? = some (Cond.static yL_nodesFor))) rfl
theorem wcode_L_nodesFor : Cond.codeWith yL_nodesFor cL_nodesFor 4 (some .int) [(0, 9, 12, 19)] ∈ lw_good := jg_4 (List.mem_of_getElem? (i := 100) (rfl : tables_1_4[100]? = some (Cond.codeWith yL_nodesFor cL_nodesFor 4 (some .int) [(0, 9, 12, 19)]))) rfl
theorem wm_L_223 : ∀ w ∈ va_wsS RL 223 yL_nodesFor (jwsW yL_nodesFor cL_nodesFor 4 (some .int) [(0, 9, 12, 19)]), w ∈ lw_good := jgSJ wml_L_223 wst_L_nodesFor wini_L (jg4W wcode_L_nodesFor)
theorem wml_L_86 : Cond.methodLink RL 86 yX11_nodesFor ∈ lw_good := jg_4 (List.mem_of_getElem? (i := 101) (rfl : tables_1_4[101]? = some (Cond.methodLink RL 86 yX11_nodesFor))) rfl
theorem winst_X11_nodesFor : Cond.instanceMethod yX11_nodesFor ∈ lw_good := jg_4 (List.mem_of_getElem? (i := 102) (rfl : tables_1_4[102]? = some (Cond.instanceMethod yX11_nodesFor))) rfl
theorem wsel_X11_nodesFor : Cond.selects RX11 yX11_nodesFor yX11_nodesFor ∈ lw_good := jg_4 (List.mem_of_getElem? (i := 103) (rfl : tables_1_4[103]? = some (Cond.selects RX11 yX11_nodesFor yX11_nodesFor))) rfl
theorem wcode_X11_nodesFor : Cond.code yX11_nodesFor cX11_nodesFor 4 (some .int) ∈ lw_good := jg_4 (List.mem_of_getElem? (i := 104) (rfl : tables_1_4[104]? = some (Cond.code yX11_nodesFor cX11_nodesFor 4 (some .int)))) rfl
theorem wm_L_86 : ∀ w ∈ wsV RL 86 RX11 yX11_nodesFor (jws yX11_nodesFor cX11_nodesFor 4 (some .int)), w ∈ lw_good := jgV wml_L_86 winst_X11_nodesFor wsel_X11_nodesFor wini_X11 (jg4 wcode_X11_nodesFor)
theorem wml_X11_268 : Cond.methodLink RX11 268 yX2_nodesAtPlace ∈ lw_good := jg_4 (List.mem_of_getElem? (i := 105) (rfl : tables_1_4[105]? = some (Cond.methodLink RX11 268 yX2_nodesAtPlace))) rfl
theorem winst_X2_nodesAtPlace : Cond.instanceMethod yX2_nodesAtPlace ∈ lw_good := jg_4 (List.mem_of_getElem? (i := 106) (rfl : tables_1_4[106]? = some (Cond.instanceMethod yX2_nodesAtPlace))) rfl
theorem wsel_X2_nodesAtPlace : Cond.selects RX2 yX2_nodesAtPlace yX2_nodesAtPlace ∈ lw_good := jg_4 (List.mem_of_getElem? (i := 107) (rfl : tables_1_4[107]? = some (Cond.selects RX2 yX2_nodesAtPlace yX2_nodesAtPlace))) rfl
theorem wcode_X2_nodesAtPlace : Cond.code yX2_nodesAtPlace cX2_nodesAtPlace 2 (some .int) ∈ lw_good := jg_4 (List.mem_of_getElem? (i := 108) (rfl : tables_1_4[108]? = some (Cond.code yX2_nodesAtPlace cX2_nodesAtPlace 2 (some .int)))) rfl
theorem wm_X11_268 : ∀ w ∈ wsV RX11 268 RX2 yX2_nodesAtPlace (jws yX2_nodesAtPlace cX2_nodesAtPlace 2 (some .int)), w ∈ lw_good := jgV wml_X11_268 winst_X2_nodesAtPlace wsel_X2_nodesAtPlace wini_X2 (jg4 wcode_X2_nodesAtPlace)
theorem wml_L_230 : Cond.methodLink RL 230 yL_exchange ∈ lw_good := jg_4 (List.mem_of_getElem? (i := 109) (rfl : tables_1_4[109]? = some (Cond.methodLink RL 230 yL_exchange))) rfl
theorem wst_L_exchange : Cond.static yL_exchange ∈ lw_good := jg_4 (List.mem_of_getElem? (i := 110) (rfl : tables_1_4[110]? = some (Cond.static yL_exchange))) rfl
theorem wcode_L_exchange : Cond.codeWith yL_exchange cL_exchange 5 (some .int) [(0, 10, 13, 19)] ∈ lw_good := jg_4 (List.mem_of_getElem? (i := 111) (rfl : tables_1_4[111]? = some (Cond.codeWith yL_exchange cL_exchange 5 (some .int) [(0, 10, 13, 19)]))) rfl
theorem wm_L_230 : ∀ w ∈ va_wsS RL 230 yL_exchange (jwsW yL_exchange cL_exchange 5 (some .int) [(0, 10, 13, 19)]), w ∈ lw_good := jgSJ wml_L_230 wst_L_exchange wini_L (jg4W wcode_L_exchange)
theorem wml_L_89 : Cond.methodLink RL 89 yX11_exchange ∈ lw_good := jg_4 (List.mem_of_getElem? (i := 112) (rfl : tables_1_4[112]? = some (Cond.methodLink RL 89 yX11_exchange))) rfl
theorem winst_X11_exchange : Cond.instanceMethod yX11_exchange ∈ lw_good := jg_4 (List.mem_of_getElem? (i := 113) (rfl : tables_1_4[113]? = some (Cond.instanceMethod yX11_exchange))) rfl
theorem wsel_X11_exchange : Cond.selects RX11 yX11_exchange yX11_exchange ∈ lw_good := jg_4 (List.mem_of_getElem? (i := 114) (rfl : tables_1_4[114]? = some (Cond.selects RX11 yX11_exchange yX11_exchange))) rfl
theorem wcode_X11_exchange : Cond.code yX11_exchange cX11_exchange 4 (some .int) ∈ lw_good := jg_4 (List.mem_of_getElem? (i := 115) (rfl : tables_1_4[115]? = some (Cond.code yX11_exchange cX11_exchange 4 (some .int)))) rfl
theorem wm_L_89 : ∀ w ∈ wsV RL 89 RX11 yX11_exchange (jws yX11_exchange cX11_exchange 4 (some .int)), w ∈ lw_good := jgV wml_L_89 winst_X11_exchange wsel_X11_exchange wini_X11 (jg4 wcode_X11_exchange)
theorem wml_X11_274 : Cond.methodLink RX11 274 yX11_checkPlace ∈ lw_good := jg_4 (List.mem_of_getElem? (i := 116) (rfl : tables_1_4[116]? = some (Cond.methodLink RX11 274 yX11_checkPlace))) rfl
theorem winst_X11_checkPlace : Cond.instanceMethod yX11_checkPlace ∈ lw_good := jg_4 (List.mem_of_getElem? (i := 118) (rfl : tables_1_4[118]? = some (Cond.instanceMethod yX11_checkPlace))) rfl
theorem wsel_X11_checkPlace : Cond.selects RX11 yX11_checkPlace yX11_checkPlace ∈ lw_good := jg_s (List.mem_of_getElem? (i := 26) (rfl : (k2_sels lw_privs)[26]? = some (Cond.selects RX11 yX11_checkPlace yX11_checkPlace))) rfl
theorem wcode_X11_checkPlace : Cond.code yX11_checkPlace cX11_checkPlace 2 none ∈ lw_good := jg_4 (List.mem_of_getElem? (i := 119) (rfl : tables_1_4[119]? = some (Cond.code yX11_checkPlace cX11_checkPlace 2 none))) rfl
theorem wm_X11_274 : ∀ w ∈ wsV RX11 274 RX11 yX11_checkPlace (jws yX11_checkPlace cX11_checkPlace 2 none), w ∈ lw_good := jgV wml_X11_274 winst_X11_checkPlace wsel_X11_checkPlace wini_X11 (jg4 wcode_X11_checkPlace)
theorem wml_L_233 : Cond.methodLink RL 233 yL_orderAt ∈ lw_good := jg_4 (List.mem_of_getElem? (i := 121) (rfl : tables_1_4[121]? = some (Cond.methodLink RL 233 yL_orderAt))) rfl
theorem wst_L_orderAt : Cond.static yL_orderAt ∈ lw_good := jg_4 (List.mem_of_getElem? (i := 122) (rfl : tables_1_4[122]? = some (Cond.static yL_orderAt))) rfl
theorem wcode_L_orderAt : Cond.codeWith yL_orderAt cL_orderAt 4 (some .int) [(0, 9, 12, 19)] ∈ lw_good := jg_4 (List.mem_of_getElem? (i := 123) (rfl : tables_1_4[123]? = some (Cond.codeWith yL_orderAt cL_orderAt 4 (some .int) [(0, 9, 12, 19)]))) rfl
theorem wm_L_233 : ∀ w ∈ va_wsS RL 233 yL_orderAt (jwsW yL_orderAt cL_orderAt 4 (some .int) [(0, 9, 12, 19)]), w ∈ lw_good := jgSJ wml_L_233 wst_L_orderAt wini_L (jg4W wcode_L_orderAt)
theorem wml_L_92 : Cond.methodLink RL 92 yX11_orderAt ∈ lw_good := jg_4 (List.mem_of_getElem? (i := 124) (rfl : tables_1_4[124]? = some (Cond.methodLink RL 92 yX11_orderAt))) rfl
theorem winst_X11_orderAt : Cond.instanceMethod yX11_orderAt ∈ lw_good := jg_4 (List.mem_of_getElem? (i := 125) (rfl : tables_1_4[125]? = some (Cond.instanceMethod yX11_orderAt))) rfl
theorem wsel_X11_orderAt : Cond.selects RX11 yX11_orderAt yX11_orderAt ∈ lw_good := jg_4 (List.mem_of_getElem? (i := 126) (rfl : tables_1_4[126]? = some (Cond.selects RX11 yX11_orderAt yX11_orderAt))) rfl
theorem wcode_X11_orderAt : Cond.code yX11_orderAt cX11_orderAt 2 (some .int) ∈ lw_good := jg_4 (List.mem_of_getElem? (i := 127) (rfl : tables_1_4[127]? = some (Cond.code yX11_orderAt cX11_orderAt 2 (some .int)))) rfl
theorem wm_L_92 : ∀ w ∈ wsV RL 92 RX11 yX11_orderAt (jws yX11_orderAt cX11_orderAt 2 (some .int)), w ∈ lw_good := jgV wml_L_92 winst_X11_orderAt wsel_X11_orderAt wini_X11 (jg4 wcode_X11_orderAt)
theorem wml_L_236 : Cond.methodLink RL 236 yL_keep ∈ lw_good := jg_4 (List.mem_of_getElem? (i := 128) (rfl : tables_1_4[128]? = some (Cond.methodLink RL 236 yL_keep))) rfl
theorem wst_L_keep : Cond.static yL_keep ∈ lw_good := jg_4 (List.mem_of_getElem? (i := 129) (rfl : tables_1_4[129]? = some (Cond.static yL_keep))) rfl
theorem wcode_L_keep : Cond.codeWith yL_keep cL_keep 4 (some .int) [(0, 9, 12, 21)] ∈ lw_good := jg_4 (List.mem_of_getElem? (i := 130) (rfl : tables_1_4[130]? = some (Cond.codeWith yL_keep cL_keep 4 (some .int) [(0, 9, 12, 21)]))) rfl
theorem wm_L_236 : ∀ w ∈ va_wsS RL 236 yL_keep (jwsW yL_keep cL_keep 4 (some .int) [(0, 9, 12, 21)]), w ∈ lw_good := jgSJ wml_L_236 wst_L_keep wini_L (jg4W wcode_L_keep)
theorem wml_L_95 : Cond.methodLink RL 95 yX11_keep ∈ lw_good := jg_4 (List.mem_of_getElem? (i := 131) (rfl : tables_1_4[131]? = some (Cond.methodLink RL 95 yX11_keep))) rfl
theorem winst_X11_keep : Cond.instanceMethod yX11_keep ∈ lw_good := jg_4 (List.mem_of_getElem? (i := 132) (rfl : tables_1_4[132]? = some (Cond.instanceMethod yX11_keep))) rfl
theorem wsel_X11_keep : Cond.selects RX11 yX11_keep yX11_keep ∈ lw_good := jg_4 (List.mem_of_getElem? (i := 133) (rfl : tables_1_4[133]? = some (Cond.selects RX11 yX11_keep yX11_keep))) rfl
theorem wcode_X11_keep : Cond.code yX11_keep cX11_keep 3 (some .int) ∈ lw_good := jg_4 (List.mem_of_getElem? (i := 134) (rfl : tables_1_4[134]? = some (Cond.code yX11_keep cX11_keep 3 (some .int)))) rfl
theorem wm_L_95 : ∀ w ∈ wsV RL 95 RX11 yX11_keep (jws yX11_keep cX11_keep 3 (some .int)), w ∈ lw_good := jgV wml_L_95 winst_X11_keep wsel_X11_keep wini_X11 (jg4 wcode_X11_keep)
theorem wml_X11_277 : Cond.methodLink RX11 277 yX11_slotAt ∈ lw_good := jg_4 (List.mem_of_getElem? (i := 135) (rfl : tables_1_4[135]? = some (Cond.methodLink RX11 277 yX11_slotAt))) rfl
theorem winst_X11_slotAt : Cond.instanceMethod yX11_slotAt ∈ lw_good := jg_4 (List.mem_of_getElem? (i := 137) (rfl : tables_1_4[137]? = some (Cond.instanceMethod yX11_slotAt))) rfl
theorem wsel_X11_slotAt : Cond.selects RX11 yX11_slotAt yX11_slotAt ∈ lw_good := jg_s (List.mem_of_getElem? (i := 27) (rfl : (k2_sels lw_privs)[27]? = some (Cond.selects RX11 yX11_slotAt yX11_slotAt))) rfl
theorem wcode_X11_slotAt : Cond.code yX11_slotAt cX11_slotAt 3 (some (.object "Countfall$Assignments")) ∈ lw_good := jg_4 (List.mem_of_getElem? (i := 138) (rfl : tables_1_4[138]? = some (Cond.code yX11_slotAt cX11_slotAt 3 (some (.object "Countfall$Assignments"))))) rfl
theorem wm_X11_277 : ∀ w ∈ wsV RX11 277 RX11 yX11_slotAt (jws yX11_slotAt cX11_slotAt 3 (some (.object "Countfall$Assignments"))), w ∈ lw_good := jgV wml_X11_277 winst_X11_slotAt wsel_X11_slotAt wini_X11 (jg4 wcode_X11_slotAt)
theorem wml_X11_281 : Cond.methodLink RX11 281 yX0_copy ∈ lw_good := jg_4 (List.mem_of_getElem? (i := 140) (rfl : tables_1_4[140]? = some (Cond.methodLink RX11 281 yX0_copy))) rfl
theorem winst_X0_copy : Cond.instanceMethod yX0_copy ∈ lw_good := jg_4 (List.mem_of_getElem? (i := 141) (rfl : tables_1_4[141]? = some (Cond.instanceMethod yX0_copy))) rfl
theorem wsel_X0_copy : Cond.selects RX0 yX0_copy yX0_copy ∈ lw_good := jg_4 (List.mem_of_getElem? (i := 142) (rfl : tables_1_4[142]? = some (Cond.selects RX0 yX0_copy yX0_copy))) rfl
theorem wcode_X0_copy : Cond.code yX0_copy cX0_copy 3 none ∈ lw_good := jg_4 (List.mem_of_getElem? (i := 143) (rfl : tables_1_4[143]? = some (Cond.code yX0_copy cX0_copy 3 none))) rfl
theorem wm_X11_281 : ∀ w ∈ wsV RX11 281 RX0 yX0_copy (jws yX0_copy cX0_copy 3 none), w ∈ lw_good := jgV wml_X11_281 winst_X0_copy wsel_X0_copy wini_X0 (jg4 wcode_X0_copy)
theorem wml_L_239 : Cond.methodLink RL 239 yL_join ∈ lw_good := jg_4 (List.mem_of_getElem? (i := 144) (rfl : tables_1_4[144]? = some (Cond.methodLink RL 239 yL_join))) rfl
theorem wst_L_join : Cond.static yL_join ∈ lw_good := jg_4 (List.mem_of_getElem? (i := 145) (rfl : tables_1_4[145]? = some (Cond.static yL_join))) rfl
theorem wcode_L_join : Cond.codeWith yL_join cL_join 7 (some .int) [(0, 14, 17, 21), (0, 14, 21, 56), (0, 14, 25, 102)] ∈ lw_good := jg_4 (List.mem_of_getElem? (i := 146) (rfl : tables_1_4[146]? = some (Cond.codeWith yL_join cL_join 7 (some .int) [(0, 14, 17, 21), (0, 14, 21, 56), (0, 14, 25, 102)]))) rfl
theorem wm_L_239 : ∀ w ∈ va_wsS RL 239 yL_join (jwsW yL_join cL_join 7 (some .int) [(0, 14, 17, 21), (0, 14, 21, 56), (0, 14, 25, 102)]), w ∈ lw_good := jgSJ wml_L_239 wst_L_join wini_L (jg4W wcode_L_join)
theorem wml_L_98 : Cond.methodLink RL 98 yX11_join ∈ lw_good := jg_4 (List.mem_of_getElem? (i := 148) (rfl : tables_1_4[148]? = some (Cond.methodLink RL 98 yX11_join))) rfl
theorem winst_X11_join : Cond.instanceMethod yX11_join ∈ lw_good := jg_4 (List.mem_of_getElem? (i := 149) (rfl : tables_1_4[149]? = some (Cond.instanceMethod yX11_join))) rfl
theorem wsel_X11_join : Cond.selects RX11 yX11_join yX11_join ∈ lw_good := jg_4 (List.mem_of_getElem? (i := 150) (rfl : tables_1_4[150]? = some (Cond.selects RX11 yX11_join yX11_join))) rfl
theorem wcode_X11_join : Cond.code yX11_join cX11_join 8 (some .int) ∈ lw_good := jg_4 (List.mem_of_getElem? (i := 151) (rfl : tables_1_4[151]? = some (Cond.code yX11_join cX11_join 8 (some .int)))) rfl
theorem wm_L_98 : ∀ w ∈ wsV RL 98 RX11 yX11_join (jws yX11_join cX11_join 8 (some .int)), w ∈ lw_good := jgV wml_L_98 winst_X11_join wsel_X11_join wini_X11 (jg4 wcode_X11_join)
theorem wml_X11_287 : Cond.methodLink RX11 287 yX11_checkKept ∈ lw_good := jg_4 (List.mem_of_getElem? (i := 153) (rfl : tables_1_4[153]? = some (Cond.methodLink RX11 287 yX11_checkKept))) rfl
theorem winst_X11_checkKept : Cond.instanceMethod yX11_checkKept ∈ lw_good := jg_4 (List.mem_of_getElem? (i := 155) (rfl : tables_1_4[155]? = some (Cond.instanceMethod yX11_checkKept))) rfl
theorem wsel_X11_checkKept : Cond.selects RX11 yX11_checkKept yX11_checkKept ∈ lw_good := jg_s (List.mem_of_getElem? (i := 28) (rfl : (k2_sels lw_privs)[28]? = some (Cond.selects RX11 yX11_checkKept yX11_checkKept))) rfl
theorem wcode_X11_checkKept : Cond.code yX11_checkKept cX11_checkKept 2 none ∈ lw_good := jg_4 (List.mem_of_getElem? (i := 156) (rfl : tables_1_4[156]? = some (Cond.code yX11_checkKept cX11_checkKept 2 none))) rfl
theorem wm_X11_287 : ∀ w ∈ wsV RX11 287 RX11 yX11_checkKept (jws yX11_checkKept cX11_checkKept 2 none), w ∈ lw_good := jgV wml_X11_287 winst_X11_checkKept wsel_X11_checkKept wini_X11 (jg4 wcode_X11_checkKept)
theorem wml_X11_334 : Cond.methodLink RX11 334 yX0_isMade ∈ lw_good := jg_4 (List.mem_of_getElem? (i := 157) (rfl : tables_1_4[157]? = some (Cond.methodLink RX11 334 yX0_isMade))) rfl
theorem winst_X0_isMade : Cond.instanceMethod yX0_isMade ∈ lw_good := jg_4 (List.mem_of_getElem? (i := 158) (rfl : tables_1_4[158]? = some (Cond.instanceMethod yX0_isMade))) rfl
theorem wsel_X0_isMade : Cond.selects RX0 yX0_isMade yX0_isMade ∈ lw_good := jg_4 (List.mem_of_getElem? (i := 159) (rfl : tables_1_4[159]? = some (Cond.selects RX0 yX0_isMade yX0_isMade))) rfl
theorem wcode_X0_isMade : Cond.code yX0_isMade cX0_isMade 1 (some .boolean) ∈ lw_good := jg_4 (List.mem_of_getElem? (i := 160) (rfl : tables_1_4[160]? = some (Cond.code yX0_isMade cX0_isMade 1 (some .boolean)))) rfl
theorem wm_X11_334 : ∀ w ∈ wsV RX11 334 RX0 yX0_isMade (jws yX0_isMade cX0_isMade 1 (some .boolean)), w ∈ lw_good := jgV wml_X11_334 winst_X0_isMade wsel_X0_isMade wini_X0 (jg4 wcode_X0_isMade)
theorem wml_X11_290 : Cond.methodLink RX11 290 yX11_checkAsManyAsNow ∈ lw_good := jg_4 (List.mem_of_getElem? (i := 162) (rfl : tables_1_4[162]? = some (Cond.methodLink RX11 290 yX11_checkAsManyAsNow))) rfl
theorem winst_X11_checkAsManyAsNow : Cond.instanceMethod yX11_checkAsManyAsNow ∈ lw_good := jg_4 (List.mem_of_getElem? (i := 164) (rfl : tables_1_4[164]? = some (Cond.instanceMethod yX11_checkAsManyAsNow))) rfl
theorem wsel_X11_checkAsManyAsNow : Cond.selects RX11 yX11_checkAsManyAsNow yX11_checkAsManyAsNow ∈ lw_good := jg_s (List.mem_of_getElem? (i := 29) (rfl : (k2_sels lw_privs)[29]? = some (Cond.selects RX11 yX11_checkAsManyAsNow yX11_checkAsManyAsNow))) rfl
theorem wcode_X11_checkAsManyAsNow : Cond.code yX11_checkAsManyAsNow cX11_checkAsManyAsNow 2 none ∈ lw_good := jg_4 (List.mem_of_getElem? (i := 165) (rfl : tables_1_4[165]? = some (Cond.code yX11_checkAsManyAsNow cX11_checkAsManyAsNow 2 none))) rfl
theorem wm_X11_290 : ∀ w ∈ wsV RX11 290 RX11 yX11_checkAsManyAsNow (jws yX11_checkAsManyAsNow cX11_checkAsManyAsNow 2 none), w ∈ lw_good := jgV wml_X11_290 winst_X11_checkAsManyAsNow wsel_X11_checkAsManyAsNow wini_X11 (jg4 wcode_X11_checkAsManyAsNow)
theorem wml_X11_340 : Cond.methodLink RX11 340 yX0_variables ∈ lw_good := jg_4 (List.mem_of_getElem? (i := 166) (rfl : tables_1_4[166]? = some (Cond.methodLink RX11 340 yX0_variables))) rfl
theorem wm_X11_340 : ∀ w ∈ wsV RX11 340 RX0 yX0_variables (jws yX0_variables cX0_variables 1 (some .int)), w ∈ lw_good := jgV wml_X11_340 winst_X0_variables wsel_X0_variables wini_X0 (jg4 wcode_X0_variables)
theorem wml_X11_293 : Cond.methodLink RX11 293 yX0_combine ∈ lw_good := jg_4 (List.mem_of_getElem? (i := 183) (rfl : tables_1_4[183]? = some (Cond.methodLink RX11 293 yX0_combine))) rfl
theorem winst_X0_combine : Cond.instanceMethod yX0_combine ∈ lw_good := jg_4 (List.mem_of_getElem? (i := 184) (rfl : tables_1_4[184]? = some (Cond.instanceMethod yX0_combine))) rfl
theorem wsel_X0_combine : Cond.selects RX0 yX0_combine yX0_combine ∈ lw_good := jg_4 (List.mem_of_getElem? (i := 185) (rfl : tables_1_4[185]? = some (Cond.selects RX0 yX0_combine yX0_combine))) rfl
theorem wcode_X0_combine : Cond.code yX0_combine cX0_combine 9 none ∈ lw_good := jg_4 (List.mem_of_getElem? (i := 186) (rfl : tables_1_4[186]? = some (Cond.code yX0_combine cX0_combine 9 none))) rfl
theorem wm_X11_293 : ∀ w ∈ wsV RX11 293 RX0 yX0_combine (jws yX0_combine cX0_combine 9 none), w ∈ lw_good := jgV wml_X11_293 winst_X0_combine wsel_X0_combine wini_X0 (jg4 wcode_X0_combine)
theorem wml_L_243 : Cond.methodLink RL 243 yL_fix ∈ lw_good := jg_4 (List.mem_of_getElem? (i := 187) (rfl : tables_1_4[187]? = some (Cond.methodLink RL 243 yL_fix))) rfl
theorem wst_L_fix : Cond.static yL_fix ∈ lw_good := jg_4 (List.mem_of_getElem? (i := 188) (rfl : tables_1_4[188]? = some (Cond.static yL_fix))) rfl
theorem wcode_L_fix : Cond.codeWith yL_fix cL_fix 6 (some .int) [(0, 12, 15, 21), (0, 12, 19, 19), (0, 12, 23, 56), (0, 12, 27, 102)] ∈ lw_good := jg_4 (List.mem_of_getElem? (i := 189) (rfl : tables_1_4[189]? = some (Cond.codeWith yL_fix cL_fix 6 (some .int) [(0, 12, 15, 21), (0, 12, 19, 19), (0, 12, 23, 56), (0, 12, 27, 102)]))) rfl
theorem wm_L_243 : ∀ w ∈ va_wsS RL 243 yL_fix (jwsW yL_fix cL_fix 6 (some .int) [(0, 12, 15, 21), (0, 12, 19, 19), (0, 12, 23, 56), (0, 12, 27, 102)]), w ∈ lw_good := jgSJ wml_L_243 wst_L_fix wini_L (jg4W wcode_L_fix)
theorem wml_L_104 : Cond.methodLink RL 104 yX11_fix ∈ lw_good := jg_4 (List.mem_of_getElem? (i := 190) (rfl : tables_1_4[190]? = some (Cond.methodLink RL 104 yX11_fix))) rfl
theorem winst_X11_fix : Cond.instanceMethod yX11_fix ∈ lw_good := jg_4 (List.mem_of_getElem? (i := 191) (rfl : tables_1_4[191]? = some (Cond.instanceMethod yX11_fix))) rfl
theorem wsel_X11_fix : Cond.selects RX11 yX11_fix yX11_fix ∈ lw_good := jg_4 (List.mem_of_getElem? (i := 192) (rfl : tables_1_4[192]? = some (Cond.selects RX11 yX11_fix yX11_fix))) rfl
theorem wcode_X11_fix : Cond.code yX11_fix cX11_fix 5 (some .int) ∈ lw_good := jg_4 (List.mem_of_getElem? (i := 193) (rfl : tables_1_4[193]? = some (Cond.code yX11_fix cX11_fix 5 (some .int)))) rfl
theorem wm_L_104 : ∀ w ∈ wsV RL 104 RX11 yX11_fix (jws yX11_fix cX11_fix 5 (some .int)), w ∈ lw_good := jgV wml_L_104 winst_X11_fix wsel_X11_fix wini_X11 (jg4 wcode_X11_fix)
theorem wml_X11_297 : Cond.methodLink RX11 297 yX0_settle ∈ lw_good := jg_4 (List.mem_of_getElem? (i := 194) (rfl : tables_1_4[194]? = some (Cond.methodLink RX11 297 yX0_settle))) rfl
theorem winst_X0_settle : Cond.instanceMethod yX0_settle ∈ lw_good := jg_4 (List.mem_of_getElem? (i := 195) (rfl : tables_1_4[195]? = some (Cond.instanceMethod yX0_settle))) rfl
theorem wsel_X0_settle : Cond.selects RX0 yX0_settle yX0_settle ∈ lw_good := jg_4 (List.mem_of_getElem? (i := 196) (rfl : tables_1_4[196]? = some (Cond.selects RX0 yX0_settle yX0_settle))) rfl
theorem wcode_X0_settle : Cond.code yX0_settle cX0_settle 6 none ∈ lw_good := jg_4 (List.mem_of_getElem? (i := 197) (rfl : tables_1_4[197]? = some (Cond.code yX0_settle cX0_settle 6 none))) rfl
theorem wm_X11_297 : ∀ w ∈ wsV RX11 297 RX0 yX0_settle (jws yX0_settle cX0_settle 6 none), w ∈ lw_good := jgV wml_X11_297 winst_X0_settle wsel_X0_settle wini_X0 (jg4 wcode_X0_settle)
theorem wml_X0_44 : Cond.methodLink RX0 44 yX0_has ∈ lw_good := jg_4 (List.mem_of_getElem? (i := 198) (rfl : tables_1_4[198]? = some (Cond.methodLink RX0 44 yX0_has))) rfl
theorem wm_X0_44 : ∀ w ∈ wsV RX0 44 RX0 yX0_has (jws yX0_has cX0_has 2 (some .boolean)), w ∈ lw_good := jgV wml_X0_44 winst_X0_has wsel_X0_has wini_X0 (jg4 wcode_X0_has)
theorem wml_X0_48 : Cond.methodLink RX0 48 yX0_putPair ∈ lw_good := jg_4 (List.mem_of_getElem? (i := 199) (rfl : tables_1_4[199]? = some (Cond.methodLink RX0 48 yX0_putPair))) rfl
theorem winst_X0_putPair : Cond.instanceMethod yX0_putPair ∈ lw_good := jg_4 (List.mem_of_getElem? (i := 201) (rfl : tables_1_4[201]? = some (Cond.instanceMethod yX0_putPair))) rfl
theorem wsel_X0_putPair : Cond.selects RX0 yX0_putPair yX0_putPair ∈ lw_good := jg_s (List.mem_of_getElem? (i := 30) (rfl : (k2_sels lw_privs)[30]? = some (Cond.selects RX0 yX0_putPair yX0_putPair))) rfl
theorem wcode_X0_putPair : Cond.code yX0_putPair cX0_putPair 4 none ∈ lw_good := jg_4 (List.mem_of_getElem? (i := 202) (rfl : tables_1_4[202]? = some (Cond.code yX0_putPair cX0_putPair 4 none))) rfl
theorem wm_X0_48 : ∀ w ∈ wsV RX0 48 RX0 yX0_putPair (jws yX0_putPair cX0_putPair 4 none), w ∈ lw_good := jgV wml_X0_48 winst_X0_putPair wsel_X0_putPair wini_X0 (jg4 wcode_X0_putPair)
theorem wml_X0_52 : Cond.methodLink RX0 52 yX0_add ∈ lw_good := jg_4 (List.mem_of_getElem? (i := 203) (rfl : tables_1_4[203]? = some (Cond.methodLink RX0 52 yX0_add))) rfl
theorem wm_X0_52 : ∀ w ∈ wsV RX0 52 RX0 yX0_add (jws yX0_add cX0_add 3 none), w ∈ lw_good := jgV wml_X0_52 winst_X0_add wsel_X0_add wini_X0 (jg4 wcode_X0_add)
theorem wml_X0_55 : Cond.methodLink RX0 55 yX0_remove ∈ lw_good := jg_4 (List.mem_of_getElem? (i := 204) (rfl : tables_1_4[204]? = some (Cond.methodLink RX0 55 yX0_remove))) rfl
theorem winst_X0_remove : Cond.instanceMethod yX0_remove ∈ lw_good := jg_4 (List.mem_of_getElem? (i := 206) (rfl : tables_1_4[206]? = some (Cond.instanceMethod yX0_remove))) rfl
theorem wsel_X0_remove : Cond.selects RX0 yX0_remove yX0_remove ∈ lw_good := jg_s (List.mem_of_getElem? (i := 31) (rfl : (k2_sels lw_privs)[31]? = some (Cond.selects RX0 yX0_remove yX0_remove))) rfl
theorem wcode_X0_remove : Cond.code yX0_remove cX0_remove 3 none ∈ lw_good := jg_4 (List.mem_of_getElem? (i := 207) (rfl : tables_1_4[207]? = some (Cond.code yX0_remove cX0_remove 3 none))) rfl
theorem wm_X0_55 : ∀ w ∈ wsV RX0 55 RX0 yX0_remove (jws yX0_remove cX0_remove 3 none), w ∈ lw_good := jgV wml_X0_55 winst_X0_remove wsel_X0_remove wini_X0 (jg4 wcode_X0_remove)
theorem wml_L_246 : Cond.methodLink RL 246 yL_free ∈ lw_good := jg_4 (List.mem_of_getElem? (i := 209) (rfl : tables_1_4[209]? = some (Cond.methodLink RL 246 yL_free))) rfl
theorem wst_L_free : Cond.static yL_free ∈ lw_good := jg_4 (List.mem_of_getElem? (i := 210) (rfl : tables_1_4[210]? = some (Cond.static yL_free))) rfl
theorem wcode_L_free : Cond.codeWith yL_free cL_free 5 (some .int) [(0, 10, 13, 21), (0, 10, 17, 19), (0, 10, 21, 56), (0, 10, 25, 102)] ∈ lw_good := jg_4 (List.mem_of_getElem? (i := 211) (rfl : tables_1_4[211]? = some (Cond.codeWith yL_free cL_free 5 (some .int) [(0, 10, 13, 21), (0, 10, 17, 19), (0, 10, 21, 56), (0, 10, 25, 102)]))) rfl
theorem wm_L_246 : ∀ w ∈ va_wsS RL 246 yL_free (jwsW yL_free cL_free 5 (some .int) [(0, 10, 13, 21), (0, 10, 17, 19), (0, 10, 21, 56), (0, 10, 25, 102)]), w ∈ lw_good := jgSJ wml_L_246 wst_L_free wini_L (jg4W wcode_L_free)
theorem wml_L_107 : Cond.methodLink RL 107 yX11_free ∈ lw_good := jg_4 (List.mem_of_getElem? (i := 212) (rfl : tables_1_4[212]? = some (Cond.methodLink RL 107 yX11_free))) rfl
theorem winst_X11_free : Cond.instanceMethod yX11_free ∈ lw_good := jg_4 (List.mem_of_getElem? (i := 213) (rfl : tables_1_4[213]? = some (Cond.instanceMethod yX11_free))) rfl
theorem wsel_X11_free : Cond.selects RX11 yX11_free yX11_free ∈ lw_good := jg_4 (List.mem_of_getElem? (i := 214) (rfl : tables_1_4[214]? = some (Cond.selects RX11 yX11_free yX11_free))) rfl
theorem wcode_X11_free : Cond.code yX11_free cX11_free 4 (some .int) ∈ lw_good := jg_4 (List.mem_of_getElem? (i := 215) (rfl : tables_1_4[215]? = some (Cond.code yX11_free cX11_free 4 (some .int)))) rfl
theorem wm_L_107 : ∀ w ∈ wsV RL 107 RX11 yX11_free (jws yX11_free cX11_free 4 (some .int)), w ∈ lw_good := jgV wml_L_107 winst_X11_free wsel_X11_free wini_X11 (jg4 wcode_X11_free)
theorem wml_X11_300 : Cond.methodLink RX11 300 yX0_forget ∈ lw_good := jg_4 (List.mem_of_getElem? (i := 216) (rfl : tables_1_4[216]? = some (Cond.methodLink RX11 300 yX0_forget))) rfl
theorem winst_X0_forget : Cond.instanceMethod yX0_forget ∈ lw_good := jg_4 (List.mem_of_getElem? (i := 217) (rfl : tables_1_4[217]? = some (Cond.instanceMethod yX0_forget))) rfl
theorem wsel_X0_forget : Cond.selects RX0 yX0_forget yX0_forget ∈ lw_good := jg_4 (List.mem_of_getElem? (i := 218) (rfl : tables_1_4[218]? = some (Cond.selects RX0 yX0_forget yX0_forget))) rfl
theorem wcode_X0_forget : Cond.code yX0_forget cX0_forget 5 none ∈ lw_good := jg_4 (List.mem_of_getElem? (i := 219) (rfl : tables_1_4[219]? = some (Cond.code yX0_forget cX0_forget 5 none))) rfl
theorem wm_X11_300 : ∀ w ∈ wsV RX11 300 RX0 yX0_forget (jws yX0_forget cX0_forget 5 none), w ∈ lw_good := jgV wml_X11_300 winst_X0_forget wsel_X0_forget wini_X0 (jg4 wcode_X0_forget)
theorem wml_L_249 : Cond.methodLink RL 249 yL_nodesOf ∈ lw_good := jg_4 (List.mem_of_getElem? (i := 220) (rfl : tables_1_4[220]? = some (Cond.methodLink RL 249 yL_nodesOf))) rfl
theorem wst_L_nodesOf : Cond.static yL_nodesOf ∈ lw_good := jg_4 (List.mem_of_getElem? (i := 221) (rfl : tables_1_4[221]? = some (Cond.static yL_nodesOf))) rfl
theorem wcode_L_nodesOf : Cond.codeWith yL_nodesOf cL_nodesOf 4 (some .int) [(0, 9, 12, 21), (0, 9, 15, 56), (0, 9, 18, 102)] ∈ lw_good := jg_4 (List.mem_of_getElem? (i := 222) (rfl : tables_1_4[222]? = some (Cond.codeWith yL_nodesOf cL_nodesOf 4 (some .int) [(0, 9, 12, 21), (0, 9, 15, 56), (0, 9, 18, 102)]))) rfl
theorem wm_L_249 : ∀ w ∈ va_wsS RL 249 yL_nodesOf (jwsW yL_nodesOf cL_nodesOf 4 (some .int) [(0, 9, 12, 21), (0, 9, 15, 56), (0, 9, 18, 102)]), w ∈ lw_good := jgSJ wml_L_249 wst_L_nodesOf wini_L (jg4W wcode_L_nodesOf)
theorem wml_L_110 : Cond.methodLink RL 110 yX11_nodesOf ∈ lw_good := jg_4 (List.mem_of_getElem? (i := 223) (rfl : tables_1_4[223]? = some (Cond.methodLink RL 110 yX11_nodesOf))) rfl
theorem winst_X11_nodesOf : Cond.instanceMethod yX11_nodesOf ∈ lw_good := jg_4 (List.mem_of_getElem? (i := 224) (rfl : tables_1_4[224]? = some (Cond.instanceMethod yX11_nodesOf))) rfl
theorem wsel_X11_nodesOf : Cond.selects RX11 yX11_nodesOf yX11_nodesOf ∈ lw_good := jg_4 (List.mem_of_getElem? (i := 225) (rfl : tables_1_4[225]? = some (Cond.selects RX11 yX11_nodesOf yX11_nodesOf))) rfl
theorem wcode_X11_nodesOf : Cond.code yX11_nodesOf cX11_nodesOf 3 (some .int) ∈ lw_good := jg_4 (List.mem_of_getElem? (i := 226) (rfl : tables_1_4[226]? = some (Cond.code yX11_nodesOf cX11_nodesOf 3 (some .int)))) rfl
theorem wm_L_110 : ∀ w ∈ wsV RL 110 RX11 yX11_nodesOf (jws yX11_nodesOf cX11_nodesOf 3 (some .int)), w ∈ lw_good := jgV wml_L_110 winst_X11_nodesOf wsel_X11_nodesOf wini_X11 (jg4 wcode_X11_nodesOf)
theorem wml_L_252 : Cond.methodLink RL 252 yL_modelsOf ∈ lw_good := jg_4 (List.mem_of_getElem? (i := 227) (rfl : tables_1_4[227]? = some (Cond.methodLink RL 252 yL_modelsOf))) rfl
theorem wst_L_modelsOf : Cond.static yL_modelsOf ∈ lw_good := jg_4 (List.mem_of_getElem? (i := 228) (rfl : tables_1_4[228]? = some (Cond.static yL_modelsOf))) rfl
theorem wcode_L_modelsOf : Cond.codeWith yL_modelsOf cL_modelsOf 4 (some .int) [(0, 8, 11, 21), (0, 8, 14, 56)] ∈ lw_good := jg_4 (List.mem_of_getElem? (i := 229) (rfl : tables_1_4[229]? = some (Cond.codeWith yL_modelsOf cL_modelsOf 4 (some .int) [(0, 8, 11, 21), (0, 8, 14, 56)]))) rfl
theorem wm_L_252 : ∀ w ∈ va_wsS RL 252 yL_modelsOf (jwsW yL_modelsOf cL_modelsOf 4 (some .int) [(0, 8, 11, 21), (0, 8, 14, 56)]), w ∈ lw_good := jgSJ wml_L_252 wst_L_modelsOf wini_L (jg4W wcode_L_modelsOf)
theorem wml_L_113 : Cond.methodLink RL 113 yX11_modelsOf ∈ lw_good := jg_4 (List.mem_of_getElem? (i := 230) (rfl : tables_1_4[230]? = some (Cond.methodLink RL 113 yX11_modelsOf))) rfl
theorem winst_X11_modelsOf : Cond.instanceMethod yX11_modelsOf ∈ lw_good := jg_4 (List.mem_of_getElem? (i := 231) (rfl : tables_1_4[231]? = some (Cond.instanceMethod yX11_modelsOf))) rfl
theorem wsel_X11_modelsOf : Cond.selects RX11 yX11_modelsOf yX11_modelsOf ∈ lw_good := jg_4 (List.mem_of_getElem? (i := 232) (rfl : tables_1_4[232]? = some (Cond.selects RX11 yX11_modelsOf yX11_modelsOf))) rfl
theorem wcode_X11_modelsOf : Cond.code yX11_modelsOf cX11_modelsOf 3 (some .long) ∈ lw_good := jg_4 (List.mem_of_getElem? (i := 233) (rfl : tables_1_4[233]? = some (Cond.code yX11_modelsOf cX11_modelsOf 3 (some .long)))) rfl
theorem wm_L_113 : ∀ w ∈ wsV RL 113 RX11 yX11_modelsOf (jws yX11_modelsOf cX11_modelsOf 3 (some .long)), w ∈ lw_good := jgV wml_L_113 winst_X11_modelsOf wsel_X11_modelsOf wini_X11 (jg4 wcode_X11_modelsOf)
theorem wml_L_255 : Cond.methodLink RL 255 yL_areSame ∈ lw_good := jg_4 (List.mem_of_getElem? (i := 234) (rfl : tables_1_4[234]? = some (Cond.methodLink RL 255 yL_areSame))) rfl
theorem wst_L_areSame : Cond.static yL_areSame ∈ lw_good := jg_4 (List.mem_of_getElem? (i := 235) (rfl : tables_1_4[235]? = some (Cond.static yL_areSame))) rfl
theorem wcode_L_areSame : Cond.codeWith yL_areSame cL_areSame 5 (some .int) [(0, 17, 20, 21), (0, 17, 24, 56), (0, 17, 28, 102)] ∈ lw_good := jg_4 (List.mem_of_getElem? (i := 236) (rfl : tables_1_4[236]? = some (Cond.codeWith yL_areSame cL_areSame 5 (some .int) [(0, 17, 20, 21), (0, 17, 24, 56), (0, 17, 28, 102)]))) rfl
theorem wm_L_255 : ∀ w ∈ va_wsS RL 255 yL_areSame (jwsW yL_areSame cL_areSame 5 (some .int) [(0, 17, 20, 21), (0, 17, 24, 56), (0, 17, 28, 102)]), w ∈ lw_good := jgSJ wml_L_255 wst_L_areSame wini_L (jg4W wcode_L_areSame)
theorem wml_L_116 : Cond.methodLink RL 116 yX11_areSame ∈ lw_good := jg_4 (List.mem_of_getElem? (i := 237) (rfl : tables_1_4[237]? = some (Cond.methodLink RL 116 yX11_areSame))) rfl
theorem winst_X11_areSame : Cond.instanceMethod yX11_areSame ∈ lw_good := jg_4 (List.mem_of_getElem? (i := 238) (rfl : tables_1_4[238]? = some (Cond.instanceMethod yX11_areSame))) rfl
theorem wsel_X11_areSame : Cond.selects RX11 yX11_areSame yX11_areSame ∈ lw_good := jg_4 (List.mem_of_getElem? (i := 239) (rfl : tables_1_4[239]? = some (Cond.selects RX11 yX11_areSame yX11_areSame))) rfl
theorem wcode_X11_areSame : Cond.code yX11_areSame cX11_areSame 5 (some .boolean) ∈ lw_good := jg_5 (List.mem_of_getElem? (i := 0) (rfl : tables_1_5[0]? = some (Cond.code yX11_areSame cX11_areSame 5 (some .boolean)))) rfl
theorem wm_L_116 : ∀ w ∈ wsV RL 116 RX11 yX11_areSame (jws yX11_areSame cX11_areSame 5 (some .boolean)), w ∈ lw_good := jgV wml_L_116 winst_X11_areSame wsel_X11_areSame wini_X11 (jg4 wcode_X11_areSame)
theorem wml_X11_303 : Cond.methodLink RX11 303 yX11_checkAlike ∈ lw_good := jg_5 (List.mem_of_getElem? (i := 1) (rfl : tables_1_5[1]? = some (Cond.methodLink RX11 303 yX11_checkAlike))) rfl
theorem winst_X11_checkAlike : Cond.instanceMethod yX11_checkAlike ∈ lw_good := jg_5 (List.mem_of_getElem? (i := 3) (rfl : tables_1_5[3]? = some (Cond.instanceMethod yX11_checkAlike))) rfl
theorem wsel_X11_checkAlike : Cond.selects RX11 yX11_checkAlike yX11_checkAlike ∈ lw_good := jg_s (List.mem_of_getElem? (i := 32) (rfl : (k2_sels lw_privs)[32]? = some (Cond.selects RX11 yX11_checkAlike yX11_checkAlike))) rfl
theorem wcode_X11_checkAlike : Cond.code yX11_checkAlike cX11_checkAlike 3 none ∈ lw_good := jg_5 (List.mem_of_getElem? (i := 4) (rfl : tables_1_5[4]? = some (Cond.code yX11_checkAlike cX11_checkAlike 3 none))) rfl
theorem wm_X11_303 : ∀ w ∈ wsV RX11 303 RX11 yX11_checkAlike (jws yX11_checkAlike cX11_checkAlike 3 none), w ∈ lw_good := jgV wml_X11_303 winst_X11_checkAlike wsel_X11_checkAlike wini_X11 (jg4 wcode_X11_checkAlike)
theorem wml_X11_307 : Cond.methodLink RX11 307 yX0_isContainedIn ∈ lw_good := jg_5 (List.mem_of_getElem? (i := 6) (rfl : tables_1_5[6]? = some (Cond.methodLink RX11 307 yX0_isContainedIn))) rfl
theorem winst_X0_isContainedIn : Cond.instanceMethod yX0_isContainedIn ∈ lw_good := jg_5 (List.mem_of_getElem? (i := 7) (rfl : tables_1_5[7]? = some (Cond.instanceMethod yX0_isContainedIn))) rfl
theorem wsel_X0_isContainedIn : Cond.selects RX0 yX0_isContainedIn yX0_isContainedIn ∈ lw_good := jg_5 (List.mem_of_getElem? (i := 8) (rfl : tables_1_5[8]? = some (Cond.selects RX0 yX0_isContainedIn yX0_isContainedIn))) rfl
theorem wcode_X0_isContainedIn : Cond.code yX0_isContainedIn cX0_isContainedIn 3 (some .boolean) ∈ lw_good := jg_5 (List.mem_of_getElem? (i := 9) (rfl : tables_1_5[9]? = some (Cond.code yX0_isContainedIn cX0_isContainedIn 3 (some .boolean)))) rfl
theorem wm_X11_307 : ∀ w ∈ wsV RX11 307 RX0 yX0_isContainedIn (jws yX0_isContainedIn cX0_isContainedIn 3 (some .boolean)), w ∈ lw_good := jgV wml_X11_307 winst_X0_isContainedIn wsel_X0_isContainedIn wini_X0 (jg4 wcode_X0_isContainedIn)
theorem wml_L_258 : Cond.methodLink RL 258 yL_isWithin ∈ lw_good := jg_5 (List.mem_of_getElem? (i := 10) (rfl : tables_1_5[10]? = some (Cond.methodLink RL 258 yL_isWithin))) rfl
theorem wst_L_isWithin : Cond.static yL_isWithin ∈ lw_good := jg_5 (List.mem_of_getElem? (i := 11) (rfl : tables_1_5[11]? = some (Cond.static yL_isWithin))) rfl
theorem wcode_L_isWithin : Cond.codeWith yL_isWithin cL_isWithin 5 (some .int) [(0, 17, 20, 21), (0, 17, 24, 56), (0, 17, 28, 102)] ∈ lw_good := jg_5 (List.mem_of_getElem? (i := 12) (rfl : tables_1_5[12]? = some (Cond.codeWith yL_isWithin cL_isWithin 5 (some .int) [(0, 17, 20, 21), (0, 17, 24, 56), (0, 17, 28, 102)]))) rfl
theorem wm_L_258 : ∀ w ∈ va_wsS RL 258 yL_isWithin (jwsW yL_isWithin cL_isWithin 5 (some .int) [(0, 17, 20, 21), (0, 17, 24, 56), (0, 17, 28, 102)]), w ∈ lw_good := jgSJ wml_L_258 wst_L_isWithin wini_L (jg4W wcode_L_isWithin)
theorem wml_L_119 : Cond.methodLink RL 119 yX11_isWithin ∈ lw_good := jg_5 (List.mem_of_getElem? (i := 13) (rfl : tables_1_5[13]? = some (Cond.methodLink RL 119 yX11_isWithin))) rfl
theorem winst_X11_isWithin : Cond.instanceMethod yX11_isWithin ∈ lw_good := jg_5 (List.mem_of_getElem? (i := 14) (rfl : tables_1_5[14]? = some (Cond.instanceMethod yX11_isWithin))) rfl
theorem wsel_X11_isWithin : Cond.selects RX11 yX11_isWithin yX11_isWithin ∈ lw_good := jg_5 (List.mem_of_getElem? (i := 15) (rfl : tables_1_5[15]? = some (Cond.selects RX11 yX11_isWithin yX11_isWithin))) rfl
theorem wcode_X11_isWithin : Cond.code yX11_isWithin cX11_isWithin 5 (some .boolean) ∈ lw_good := jg_5 (List.mem_of_getElem? (i := 16) (rfl : tables_1_5[16]? = some (Cond.code yX11_isWithin cX11_isWithin 5 (some .boolean)))) rfl
theorem wm_L_119 : ∀ w ∈ wsV RL 119 RX11 yX11_isWithin (jws yX11_isWithin cX11_isWithin 5 (some .boolean)), w ∈ lw_good := jgV wml_L_119 winst_X11_isWithin wsel_X11_isWithin wini_X11 (jg4 wcode_X11_isWithin)
theorem wml_L_266 : Cond.methodLink RL 266 yL_meanTrue ∈ lw_good := jg_5 (List.mem_of_getElem? (i := 17) (rfl : tables_1_5[17]? = some (Cond.methodLink RL 266 yL_meanTrue))) rfl
theorem wst_L_meanTrue : Cond.static yL_meanTrue ∈ lw_good := jg_5 (List.mem_of_getElem? (i := 18) (rfl : tables_1_5[18]? = some (Cond.static yL_meanTrue))) rfl
theorem wcode_L_meanTrue : Cond.codeWith yL_meanTrue cL_meanTrue 3 (some .int) [(0, 7, 10, 56)] ∈ lw_good := jg_5 (List.mem_of_getElem? (i := 19) (rfl : tables_1_5[19]? = some (Cond.codeWith yL_meanTrue cL_meanTrue 3 (some .int) [(0, 7, 10, 56)]))) rfl
theorem wm_L_266 : ∀ w ∈ va_wsS RL 266 yL_meanTrue (jwsW yL_meanTrue cL_meanTrue 3 (some .int) [(0, 7, 10, 56)]), w ∈ lw_good := jgSJ wml_L_266 wst_L_meanTrue wini_L (jg4W wcode_L_meanTrue)
theorem wml_L_122 : Cond.methodLink RL 122 yX11_meanTrue ∈ lw_good := jg_5 (List.mem_of_getElem? (i := 20) (rfl : tables_1_5[20]? = some (Cond.methodLink RL 122 yX11_meanTrue))) rfl
theorem winst_X11_meanTrue : Cond.instanceMethod yX11_meanTrue ∈ lw_good := jg_5 (List.mem_of_getElem? (i := 21) (rfl : tables_1_5[21]? = some (Cond.instanceMethod yX11_meanTrue))) rfl
theorem wsel_X11_meanTrue : Cond.selects RX11 yX11_meanTrue yX11_meanTrue ∈ lw_good := jg_5 (List.mem_of_getElem? (i := 22) (rfl : tables_1_5[22]? = some (Cond.selects RX11 yX11_meanTrue yX11_meanTrue))) rfl
theorem wcode_X11_meanTrue : Cond.code yX11_meanTrue cX11_meanTrue 7 (some .double) ∈ lw_good := jg_5 (List.mem_of_getElem? (i := 23) (rfl : tables_1_5[23]? = some (Cond.code yX11_meanTrue cX11_meanTrue 7 (some .double)))) rfl
theorem wm_L_122 : ∀ w ∈ wsV RL 122 RX11 yX11_meanTrue (jws yX11_meanTrue cX11_meanTrue 7 (some .double)), w ∈ lw_good := jgV wml_L_122 winst_X11_meanTrue wsel_X11_meanTrue wini_X11 (jg4 wcode_X11_meanTrue)
theorem wml_L_136 : Cond.methodLink RL 136 yX12_thrown ∈ lw_good := jg_5 (List.mem_of_getElem? (i := 24) (rfl : tables_1_5[24]? = some (Cond.methodLink RL 136 yX12_thrown))) rfl
theorem winst_X12_thrown : Cond.instanceMethod yX12_thrown ∈ lw_good := jg_5 (List.mem_of_getElem? (i := 25) (rfl : tables_1_5[25]? = some (Cond.instanceMethod yX12_thrown))) rfl
theorem wsel_X12_thrown : Cond.selects RX12 yX12_thrown yX12_thrown ∈ lw_good := jg_5 (List.mem_of_getElem? (i := 26) (rfl : tables_1_5[26]? = some (Cond.selects RX12 yX12_thrown yX12_thrown))) rfl
theorem wcode_X12_thrown : Cond.code yX12_thrown cX12_thrown 1 (some .int) ∈ lw_good := jg_5 (List.mem_of_getElem? (i := 27) (rfl : tables_1_5[27]? = some (Cond.code yX12_thrown cX12_thrown 1 (some .int)))) rfl
theorem wm_L_136 : ∀ w ∈ wsV RL 136 RX12 yX12_thrown (jws yX12_thrown cX12_thrown 1 (some .int)), w ∈ lw_good := jgV wml_L_136 winst_X12_thrown wsel_X12_thrown wini_X12 (jg4 wcode_X12_thrown)
theorem wml_L_129 : Cond.methodLink RL 129 yX12_init ∈ lw_good := jg_5 (List.mem_of_getElem? (i := 30) (rfl : tables_1_5[30]? = some (Cond.methodLink RL 129 yX12_init))) rfl
theorem winst_X12_init : Cond.instanceMethod yX12_init ∈ lw_good := jg_5 (List.mem_of_getElem? (i := 31) (rfl : tables_1_5[31]? = some (Cond.instanceMethod yX12_init))) rfl
theorem wcode_X12_init : Cond.code yX12_init cX12_init 2 none ∈ lw_good := jg_5 (List.mem_of_getElem? (i := 32) (rfl : tables_1_5[32]? = some (Cond.code yX12_init cX12_init 2 none))) rfl
theorem wm_L_129 : Cond.methodLink RL 129 yX12_init ∈ lw_good ∧ Cond.instanceMethod yX12_init ∈ lw_good ∧ Cond.initialized yX12_init.cls ∈ lw_good ∧ (∀ w ∈ jws yX12_init cX12_init 2 none, w ∈ lw_good) := ⟨wml_L_129, winst_X12_init, wini_X12, jg4 wcode_X12_init⟩
theorem wml_L_135 : Cond.methodLink RL 135 yX12_addVariable ∈ lw_good := jg_5 (List.mem_of_getElem? (i := 90) (rfl : tables_1_5[90]? = some (Cond.methodLink RL 135 yX12_addVariable))) rfl
theorem winst_X12_addVariable : Cond.instanceMethod yX12_addVariable ∈ lw_good := jg_5 (List.mem_of_getElem? (i := 91) (rfl : tables_1_5[91]? = some (Cond.instanceMethod yX12_addVariable))) rfl
theorem wsel_X12_addVariable : Cond.selects RX12 yX12_addVariable yX12_addVariable ∈ lw_good := jg_5 (List.mem_of_getElem? (i := 92) (rfl : tables_1_5[92]? = some (Cond.selects RX12 yX12_addVariable yX12_addVariable))) rfl
theorem wcode_X12_addVariable : Cond.code yX12_addVariable cX12_addVariable 1 (some .int) ∈ lw_good := jg_5 (List.mem_of_getElem? (i := 93) (rfl : tables_1_5[93]? = some (Cond.code yX12_addVariable cX12_addVariable 1 (some .int)))) rfl
theorem wm_L_135 : ∀ w ∈ wsV RL 135 RX12 yX12_addVariable (jws yX12_addVariable cX12_addVariable 1 (some .int)), w ∈ lw_good := jgV wml_L_135 winst_X12_addVariable wsel_X12_addVariable wini_X12 (jg4 wcode_X12_addVariable)
theorem wml_X12_71 : Cond.methodLink RX12 71 yX12_fails ∈ lw_good := jg_5 (List.mem_of_getElem? (i := 94) (rfl : tables_1_5[94]? = some (Cond.methodLink RX12 71 yX12_fails))) rfl
theorem winst_X12_fails : Cond.instanceMethod yX12_fails ∈ lw_good := jg_5 (List.mem_of_getElem? (i := 96) (rfl : tables_1_5[96]? = some (Cond.instanceMethod yX12_fails))) rfl
theorem wsel_X12_fails : Cond.selects RX12 yX12_fails yX12_fails ∈ lw_good := jg_s (List.mem_of_getElem? (i := 33) (rfl : (k2_sels lw_privs)[33]? = some (Cond.selects RX12 yX12_fails yX12_fails))) rfl
theorem wcode_X12_fails : Cond.code yX12_fails cX12_fails 2 (some .int) ∈ lw_good := jg_5 (List.mem_of_getElem? (i := 97) (rfl : tables_1_5[97]? = some (Cond.code yX12_fails cX12_fails 2 (some .int)))) rfl
theorem wm_X12_71 : ∀ w ∈ wsV RX12 71 RX12 yX12_fails (jws yX12_fails cX12_fails 2 (some .int)), w ∈ lw_good := jgV wml_X12_71 winst_X12_fails wsel_X12_fails wini_X12 (jg4 wcode_X12_fails)
theorem wml_L_142 : Cond.methodLink RL 142 yX12_setWeights ∈ lw_good := jg_5 (List.mem_of_getElem? (i := 98) (rfl : tables_1_5[98]? = some (Cond.methodLink RL 142 yX12_setWeights))) rfl
theorem winst_X12_setWeights : Cond.instanceMethod yX12_setWeights ∈ lw_good := jg_5 (List.mem_of_getElem? (i := 99) (rfl : tables_1_5[99]? = some (Cond.instanceMethod yX12_setWeights))) rfl
theorem wsel_X12_setWeights : Cond.selects RX12 yX12_setWeights yX12_setWeights ∈ lw_good := jg_5 (List.mem_of_getElem? (i := 100) (rfl : tables_1_5[100]? = some (Cond.selects RX12 yX12_setWeights yX12_setWeights))) rfl
theorem wcode_X12_setWeights : Cond.code yX12_setWeights cX12_setWeights 5 (some .int) ∈ lw_good := jg_5 (List.mem_of_getElem? (i := 101) (rfl : tables_1_5[101]? = some (Cond.code yX12_setWeights cX12_setWeights 5 (some .int)))) rfl
theorem wm_L_142 : ∀ w ∈ wsV RL 142 RX12 yX12_setWeights (jws yX12_setWeights cX12_setWeights 5 (some .int)), w ∈ lw_good := jgV wml_L_142 winst_X12_setWeights wsel_X12_setWeights wini_X12 (jg4 wcode_X12_setWeights)
theorem wml_X12_75 : Cond.methodLink RX12 75 yX12_isVariable ∈ lw_good := jg_5 (List.mem_of_getElem? (i := 102) (rfl : tables_1_5[102]? = some (Cond.methodLink RX12 75 yX12_isVariable))) rfl
theorem winst_X12_isVariable : Cond.instanceMethod yX12_isVariable ∈ lw_good := jg_5 (List.mem_of_getElem? (i := 104) (rfl : tables_1_5[104]? = some (Cond.instanceMethod yX12_isVariable))) rfl
theorem wsel_X12_isVariable : Cond.selects RX12 yX12_isVariable yX12_isVariable ∈ lw_good := jg_s (List.mem_of_getElem? (i := 34) (rfl : (k2_sels lw_privs)[34]? = some (Cond.selects RX12 yX12_isVariable yX12_isVariable))) rfl
theorem wcode_X12_isVariable : Cond.code yX12_isVariable cX12_isVariable 2 (some .boolean) ∈ lw_good := jg_5 (List.mem_of_getElem? (i := 105) (rfl : tables_1_5[105]? = some (Cond.code yX12_isVariable cX12_isVariable 2 (some .boolean)))) rfl
theorem wm_X12_75 : ∀ w ∈ wsV RX12 75 RX12 yX12_isVariable (jws yX12_isVariable cX12_isVariable 2 (some .boolean)), w ∈ lw_good := jgV wml_X12_75 winst_X12_isVariable wsel_X12_isVariable wini_X12 (jg4 wcode_X12_isVariable)
theorem wml_X12_67 : Cond.methodLink RX12 67 yX12_isBetween ∈ lw_good := jg_5 (List.mem_of_getElem? (i := 106) (rfl : tables_1_5[106]? = some (Cond.methodLink RX12 67 yX12_isBetween))) rfl
theorem wst_X12_isBetween : Cond.static yX12_isBetween ∈ lw_good := jg_5 (List.mem_of_getElem? (i := 107) (rfl : tables_1_5[107]? = some (Cond.static yX12_isBetween))) rfl
theorem wcode_X12_isBetween : Cond.code yX12_isBetween cX12_isBetween 3 (some .boolean) ∈ lw_good := jg_5 (List.mem_of_getElem? (i := 108) (rfl : tables_1_5[108]? = some (Cond.code yX12_isBetween cX12_isBetween 3 (some .boolean)))) rfl
theorem wm_X12_67 : ∀ w ∈ wsS RX12 67 yX12_isBetween (jws yX12_isBetween cX12_isBetween 3 (some .boolean)), w ∈ lw_good := jgS wml_X12_67 wst_X12_isBetween wini_X12 (jg4 wcode_X12_isBetween)
theorem wml_L_146 : Cond.methodLink RL 146 yX12_addClause ∈ lw_good := jg_5 (List.mem_of_getElem? (i := 109) (rfl : tables_1_5[109]? = some (Cond.methodLink RL 146 yX12_addClause))) rfl
theorem winst_X12_addClause : Cond.instanceMethod yX12_addClause ∈ lw_good := jg_5 (List.mem_of_getElem? (i := 110) (rfl : tables_1_5[110]? = some (Cond.instanceMethod yX12_addClause))) rfl
theorem wsel_X12_addClause : Cond.selects RX12 yX12_addClause yX12_addClause ∈ lw_good := jg_5 (List.mem_of_getElem? (i := 111) (rfl : tables_1_5[111]? = some (Cond.selects RX12 yX12_addClause yX12_addClause))) rfl
theorem wcode_X12_addClause : Cond.code yX12_addClause cX12_addClause 3 (some .int) ∈ lw_good := jg_5 (List.mem_of_getElem? (i := 112) (rfl : tables_1_5[112]? = some (Cond.code yX12_addClause cX12_addClause 3 (some .int)))) rfl
theorem wm_L_146 : ∀ w ∈ wsV RL 146 RX12 yX12_addClause (jws yX12_addClause cX12_addClause 3 (some .int)), w ∈ lw_good := jgV wml_L_146 winst_X12_addClause wsel_X12_addClause wini_X12 (jg4 wcode_X12_addClause)
theorem wml_X12_82 : Cond.methodLink RX12 82 yX12_isSet ∈ lw_good := jg_5 (List.mem_of_getElem? (i := 113) (rfl : tables_1_5[113]? = some (Cond.methodLink RX12 82 yX12_isSet))) rfl
theorem winst_X12_isSet : Cond.instanceMethod yX12_isSet ∈ lw_good := jg_5 (List.mem_of_getElem? (i := 115) (rfl : tables_1_5[115]? = some (Cond.instanceMethod yX12_isSet))) rfl
theorem wsel_X12_isSet : Cond.selects RX12 yX12_isSet yX12_isSet ∈ lw_good := jg_s (List.mem_of_getElem? (i := 35) (rfl : (k2_sels lw_privs)[35]? = some (Cond.selects RX12 yX12_isSet yX12_isSet))) rfl
theorem wcode_X12_isSet : Cond.code yX12_isSet cX12_isSet 2 (some .boolean) ∈ lw_good := jg_5 (List.mem_of_getElem? (i := 116) (rfl : tables_1_5[116]? = some (Cond.code yX12_isSet cX12_isSet 2 (some .boolean)))) rfl
theorem wm_X12_82 : ∀ w ∈ wsV RX12 82 RX12 yX12_isSet (jws yX12_isSet cX12_isSet 2 (some .boolean)), w ∈ lw_good := jgV wml_X12_82 winst_X12_isSet wsel_X12_isSet wini_X12 (jg4 wcode_X12_isSet)
theorem wml_X12_85 : Cond.methodLink RX12 85 yX12_adds ∈ lw_good := jg_5 (List.mem_of_getElem? (i := 117) (rfl : tables_1_5[117]? = some (Cond.methodLink RX12 85 yX12_adds))) rfl
theorem winst_X12_adds : Cond.instanceMethod yX12_adds ∈ lw_good := jg_5 (List.mem_of_getElem? (i := 119) (rfl : tables_1_5[119]? = some (Cond.instanceMethod yX12_adds))) rfl
theorem wsel_X12_adds : Cond.selects RX12 yX12_adds yX12_adds ∈ lw_good := jg_s (List.mem_of_getElem? (i := 36) (rfl : (k2_sels lw_privs)[36]? = some (Cond.selects RX12 yX12_adds yX12_adds))) rfl
theorem wcode_X12_adds : Cond.code yX12_adds cX12_adds 6 (some .int) ∈ lw_good := jg_5 (List.mem_of_getElem? (i := 120) (rfl : tables_1_5[120]? = some (Cond.code yX12_adds cX12_adds 6 (some .int)))) rfl
theorem wm_X12_85 : ∀ w ∈ wsV RX12 85 RX12 yX12_adds (jws yX12_adds cX12_adds 6 (some .int)), w ∈ lw_good := jgV wml_X12_85 winst_X12_adds wsel_X12_adds wini_X12 (jg4 wcode_X12_adds)
theorem wml_L_149 : Cond.methodLink RL 149 yX12_addParity ∈ lw_good := jg_5 (List.mem_of_getElem? (i := 121) (rfl : tables_1_5[121]? = some (Cond.methodLink RL 149 yX12_addParity))) rfl
theorem winst_X12_addParity : Cond.instanceMethod yX12_addParity ∈ lw_good := jg_5 (List.mem_of_getElem? (i := 122) (rfl : tables_1_5[122]? = some (Cond.instanceMethod yX12_addParity))) rfl
theorem wsel_X12_addParity : Cond.selects RX12 yX12_addParity yX12_addParity ∈ lw_good := jg_5 (List.mem_of_getElem? (i := 123) (rfl : tables_1_5[123]? = some (Cond.selects RX12 yX12_addParity yX12_addParity))) rfl
theorem wcode_X12_addParity : Cond.code yX12_addParity cX12_addParity 3 (some .int) ∈ lw_good := jg_5 (List.mem_of_getElem? (i := 124) (rfl : tables_1_5[124]? = some (Cond.code yX12_addParity cX12_addParity 3 (some .int)))) rfl
theorem wm_L_149 : ∀ w ∈ wsV RL 149 RX12 yX12_addParity (jws yX12_addParity cX12_addParity 3 (some .int)), w ∈ lw_good := jgV wml_L_149 winst_X12_addParity wsel_X12_addParity wini_X12 (jg4 wcode_X12_addParity)
theorem wml_L_152 : Cond.methodLink RL 152 yX12_addBound ∈ lw_good := jg_5 (List.mem_of_getElem? (i := 125) (rfl : tables_1_5[125]? = some (Cond.methodLink RL 152 yX12_addBound))) rfl
theorem winst_X12_addBound : Cond.instanceMethod yX12_addBound ∈ lw_good := jg_5 (List.mem_of_getElem? (i := 126) (rfl : tables_1_5[126]? = some (Cond.instanceMethod yX12_addBound))) rfl
theorem wsel_X12_addBound : Cond.selects RX12 yX12_addBound yX12_addBound ∈ lw_good := jg_5 (List.mem_of_getElem? (i := 127) (rfl : tables_1_5[127]? = some (Cond.selects RX12 yX12_addBound yX12_addBound))) rfl
theorem wcode_X12_addBound : Cond.code yX12_addBound cX12_addBound 4 (some .int) ∈ lw_good := jg_5 (List.mem_of_getElem? (i := 128) (rfl : tables_1_5[128]? = some (Cond.code yX12_addBound cX12_addBound 4 (some .int)))) rfl
theorem wm_L_152 : ∀ w ∈ wsV RL 152 RX12 yX12_addBound (jws yX12_addBound cX12_addBound 4 (some .int)), w ∈ lw_good := jgV wml_L_152 winst_X12_addBound wsel_X12_addBound wini_X12 (jg4 wcode_X12_addBound)
theorem wml_L_156 : Cond.methodLink RL 156 yX12_drop ∈ lw_good := jg_5 (List.mem_of_getElem? (i := 129) (rfl : tables_1_5[129]? = some (Cond.methodLink RL 156 yX12_drop))) rfl
theorem winst_X12_drop : Cond.instanceMethod yX12_drop ∈ lw_good := jg_5 (List.mem_of_getElem? (i := 130) (rfl : tables_1_5[130]? = some (Cond.instanceMethod yX12_drop))) rfl
theorem wsel_X12_drop : Cond.selects RX12 yX12_drop yX12_drop ∈ lw_good := jg_5 (List.mem_of_getElem? (i := 131) (rfl : tables_1_5[131]? = some (Cond.selects RX12 yX12_drop yX12_drop))) rfl
theorem wcode_X12_drop : Cond.code yX12_drop cX12_drop 4 (some .int) ∈ lw_good := jg_5 (List.mem_of_getElem? (i := 132) (rfl : tables_1_5[132]? = some (Cond.code yX12_drop cX12_drop 4 (some .int)))) rfl
theorem wm_L_156 : ∀ w ∈ wsV RL 156 RX12 yX12_drop (jws yX12_drop cX12_drop 4 (some .int)), w ∈ lw_good := jgV wml_L_156 winst_X12_drop wsel_X12_drop wini_X12 (jg4 wcode_X12_drop)
theorem wml_X12_89 : Cond.methodLink RX12 89 yX12_isConstraint ∈ lw_good := jg_5 (List.mem_of_getElem? (i := 133) (rfl : tables_1_5[133]? = some (Cond.methodLink RX12 89 yX12_isConstraint))) rfl
theorem winst_X12_isConstraint : Cond.instanceMethod yX12_isConstraint ∈ lw_good := jg_5 (List.mem_of_getElem? (i := 135) (rfl : tables_1_5[135]? = some (Cond.instanceMethod yX12_isConstraint))) rfl
theorem wsel_X12_isConstraint : Cond.selects RX12 yX12_isConstraint yX12_isConstraint ∈ lw_good := jg_s (List.mem_of_getElem? (i := 37) (rfl : (k2_sels lw_privs)[37]? = some (Cond.selects RX12 yX12_isConstraint yX12_isConstraint))) rfl
theorem wcode_X12_isConstraint : Cond.code yX12_isConstraint cX12_isConstraint 2 (some .boolean) ∈ lw_good := jg_5 (List.mem_of_getElem? (i := 136) (rfl : tables_1_5[136]? = some (Cond.code yX12_isConstraint cX12_isConstraint 2 (some .boolean)))) rfl
theorem wm_X12_89 : ∀ w ∈ wsV RX12 89 RX12 yX12_isConstraint (jws yX12_isConstraint cX12_isConstraint 2 (some .boolean)), w ∈ lw_good := jgV wml_X12_89 winst_X12_isConstraint wsel_X12_isConstraint wini_X12 (jg4 wcode_X12_isConstraint)
theorem wml_L_159 : Cond.methodLink RL 159 yX12_kind ∈ lw_good := jg_5 (List.mem_of_getElem? (i := 137) (rfl : tables_1_5[137]? = some (Cond.methodLink RL 159 yX12_kind))) rfl
theorem winst_X12_kind : Cond.instanceMethod yX12_kind ∈ lw_good := jg_5 (List.mem_of_getElem? (i := 138) (rfl : tables_1_5[138]? = some (Cond.instanceMethod yX12_kind))) rfl
theorem wsel_X12_kind : Cond.selects RX12 yX12_kind yX12_kind ∈ lw_good := jg_5 (List.mem_of_getElem? (i := 139) (rfl : tables_1_5[139]? = some (Cond.selects RX12 yX12_kind yX12_kind))) rfl
theorem wcode_X12_kind : Cond.code yX12_kind cX12_kind 2 (some .char) ∈ lw_good := jg_5 (List.mem_of_getElem? (i := 140) (rfl : tables_1_5[140]? = some (Cond.code yX12_kind cX12_kind 2 (some .char)))) rfl
theorem wm_L_159 : ∀ w ∈ wsV RL 159 RX12 yX12_kind (jws yX12_kind cX12_kind 2 (some .char)), w ∈ lw_good := jgV wml_L_159 winst_X12_kind wsel_X12_kind wini_X12 (jg4 wcode_X12_kind)
theorem wml_L_162 : Cond.methodLink RL 162 yX12_setEvidence ∈ lw_good := jg_5 (List.mem_of_getElem? (i := 141) (rfl : tables_1_5[141]? = some (Cond.methodLink RL 162 yX12_setEvidence))) rfl
theorem winst_X12_setEvidence : Cond.instanceMethod yX12_setEvidence ∈ lw_good := jg_5 (List.mem_of_getElem? (i := 142) (rfl : tables_1_5[142]? = some (Cond.instanceMethod yX12_setEvidence))) rfl
theorem wsel_X12_setEvidence : Cond.selects RX12 yX12_setEvidence yX12_setEvidence ∈ lw_good := jg_5 (List.mem_of_getElem? (i := 143) (rfl : tables_1_5[143]? = some (Cond.selects RX12 yX12_setEvidence yX12_setEvidence))) rfl
theorem wcode_X12_setEvidence : Cond.code yX12_setEvidence cX12_setEvidence 4 (some .int) ∈ lw_good := jg_5 (List.mem_of_getElem? (i := 144) (rfl : tables_1_5[144]? = some (Cond.code yX12_setEvidence cX12_setEvidence 4 (some .int)))) rfl
theorem wm_L_162 : ∀ w ∈ wsV RL 162 RX12 yX12_setEvidence (jws yX12_setEvidence cX12_setEvidence 4 (some .int)), w ∈ lw_good := jgV wml_L_162 winst_X12_setEvidence wsel_X12_setEvidence wini_X12 (jg4 wcode_X12_setEvidence)
theorem wml_L_165 : Cond.methodLink RL 165 yX12_holds ∈ lw_good := jg_5 (List.mem_of_getElem? (i := 145) (rfl : tables_1_5[145]? = some (Cond.methodLink RL 165 yX12_holds))) rfl
theorem winst_X12_holds : Cond.instanceMethod yX12_holds ∈ lw_good := jg_5 (List.mem_of_getElem? (i := 146) (rfl : tables_1_5[146]? = some (Cond.instanceMethod yX12_holds))) rfl
theorem wsel_X12_holds : Cond.selects RX12 yX12_holds yX12_holds ∈ lw_good := jg_5 (List.mem_of_getElem? (i := 147) (rfl : tables_1_5[147]? = some (Cond.selects RX12 yX12_holds yX12_holds))) rfl
theorem wcode_X12_holds : Cond.code yX12_holds cX12_holds 3 (some .boolean) ∈ lw_good := jg_5 (List.mem_of_getElem? (i := 148) (rfl : tables_1_5[148]? = some (Cond.code yX12_holds cX12_holds 3 (some .boolean)))) rfl
theorem wm_L_165 : ∀ w ∈ wsV RL 165 RX12 yX12_holds (jws yX12_holds cX12_holds 3 (some .boolean)), w ∈ lw_good := jgV wml_L_165 winst_X12_holds wsel_X12_holds wini_X12 (jg4 wcode_X12_holds)
theorem wml_X12_95 : Cond.methodLink RX12 95 yX12_isHeld ∈ lw_good := jg_5 (List.mem_of_getElem? (i := 149) (rfl : tables_1_5[149]? = some (Cond.methodLink RX12 95 yX12_isHeld))) rfl
theorem winst_X12_isHeld : Cond.instanceMethod yX12_isHeld ∈ lw_good := jg_5 (List.mem_of_getElem? (i := 151) (rfl : tables_1_5[151]? = some (Cond.instanceMethod yX12_isHeld))) rfl
theorem wsel_X12_isHeld : Cond.selects RX12 yX12_isHeld yX12_isHeld ∈ lw_good := jg_s (List.mem_of_getElem? (i := 38) (rfl : (k2_sels lw_privs)[38]? = some (Cond.selects RX12 yX12_isHeld yX12_isHeld))) rfl
theorem wcode_X12_isHeld : Cond.code yX12_isHeld cX12_isHeld 4 (some .boolean) ∈ lw_good := jg_5 (List.mem_of_getElem? (i := 152) (rfl : tables_1_5[152]? = some (Cond.code yX12_isHeld cX12_isHeld 4 (some .boolean)))) rfl
theorem wm_X12_95 : ∀ w ∈ wsV RX12 95 RX12 yX12_isHeld (jws yX12_isHeld cX12_isHeld 4 (some .boolean)), w ∈ lw_good := jgV wml_X12_95 winst_X12_isHeld wsel_X12_isHeld wini_X12 (jg4 wcode_X12_isHeld)
theorem wml_X12_92 : Cond.methodLink RX12 92 yX12_size ∈ lw_good := jg_5 (List.mem_of_getElem? (i := 153) (rfl : tables_1_5[153]? = some (Cond.methodLink RX12 92 yX12_size))) rfl
theorem wst_X12_size : Cond.static yX12_size ∈ lw_good := jg_5 (List.mem_of_getElem? (i := 154) (rfl : tables_1_5[154]? = some (Cond.static yX12_size))) rfl
theorem wcode_X12_size : Cond.code yX12_size cX12_size 3 (some .int) ∈ lw_good := jg_5 (List.mem_of_getElem? (i := 155) (rfl : tables_1_5[155]? = some (Cond.code yX12_size cX12_size 3 (some .int)))) rfl
theorem wm_X12_92 : ∀ w ∈ wsS RX12 92 yX12_size (jws yX12_size cX12_size 3 (some .int)), w ∈ lw_good := jgS wml_X12_92 wst_X12_size wini_X12 (jg4 wcode_X12_size)
theorem wml_X12_7 : Cond.methodLink RX12 7 yX12_has ∈ lw_good := jg_5 (List.mem_of_getElem? (i := 156) (rfl : tables_1_5[156]? = some (Cond.methodLink RX12 7 yX12_has))) rfl
theorem wst_X12_has : Cond.static yX12_has ∈ lw_good := jg_5 (List.mem_of_getElem? (i := 157) (rfl : tables_1_5[157]? = some (Cond.static yX12_has))) rfl
theorem wcode_X12_has : Cond.code yX12_has cX12_has 2 (some .boolean) ∈ lw_good := jg_5 (List.mem_of_getElem? (i := 158) (rfl : tables_1_5[158]? = some (Cond.code yX12_has cX12_has 2 (some .boolean)))) rfl
theorem wm_X12_7 : ∀ w ∈ wsS RX12 7 yX12_has (jws yX12_has cX12_has 2 (some .boolean)), w ∈ lw_good := jgS wml_X12_7 wst_X12_has wini_X12 (jg4 wcode_X12_has)
theorem wml_L_170 : Cond.methodLink RL 170 yX12_models ∈ lw_good := jg_5 (List.mem_of_getElem? (i := 159) (rfl : tables_1_5[159]? = some (Cond.methodLink RL 170 yX12_models))) rfl
theorem winst_X12_models : Cond.instanceMethod yX12_models ∈ lw_good := jg_5 (List.mem_of_getElem? (i := 160) (rfl : tables_1_5[160]? = some (Cond.instanceMethod yX12_models))) rfl
theorem wsel_X12_models : Cond.selects RX12 yX12_models yX12_models ∈ lw_good := jg_5 (List.mem_of_getElem? (i := 161) (rfl : tables_1_5[161]? = some (Cond.selects RX12 yX12_models yX12_models))) rfl
theorem wcode_X12_models : Cond.code yX12_models cX12_models 4 (some .long) ∈ lw_good := jg_5 (List.mem_of_getElem? (i := 162) (rfl : tables_1_5[162]? = some (Cond.code yX12_models cX12_models 4 (some .long)))) rfl
theorem wm_L_170 : ∀ w ∈ wsV RL 170 RX12 yX12_models (jws yX12_models cX12_models 4 (some .long)), w ∈ lw_good := jgV wml_L_170 winst_X12_models wsel_X12_models wini_X12 (jg4 wcode_X12_models)
theorem wml_X12_98 : Cond.methodLink RX12 98 yX12_all ∈ lw_good := jg_5 (List.mem_of_getElem? (i := 163) (rfl : tables_1_5[163]? = some (Cond.methodLink RX12 98 yX12_all))) rfl
theorem winst_X12_all : Cond.instanceMethod yX12_all ∈ lw_good := jg_5 (List.mem_of_getElem? (i := 165) (rfl : tables_1_5[165]? = some (Cond.instanceMethod yX12_all))) rfl
theorem wsel_X12_all : Cond.selects RX12 yX12_all yX12_all ∈ lw_good := jg_s (List.mem_of_getElem? (i := 39) (rfl : (k2_sels lw_privs)[39]? = some (Cond.selects RX12 yX12_all yX12_all))) rfl
theorem wcode_X12_all : Cond.code yX12_all cX12_all 1 (some .int) ∈ lw_good := jg_5 (List.mem_of_getElem? (i := 166) (rfl : tables_1_5[166]? = some (Cond.code yX12_all cX12_all 1 (some .int)))) rfl
theorem wm_X12_98 : ∀ w ∈ wsV RX12 98 RX12 yX12_all (jws yX12_all cX12_all 1 (some .int)), w ∈ lw_good := jgV wml_X12_98 winst_X12_all wsel_X12_all wini_X12 (jg4 wcode_X12_all)
theorem wml_X12_102 : Cond.methodLink RX12 102 yX12_isModel ∈ lw_good := jg_5 (List.mem_of_getElem? (i := 167) (rfl : tables_1_5[167]? = some (Cond.methodLink RX12 102 yX12_isModel))) rfl
theorem winst_X12_isModel : Cond.instanceMethod yX12_isModel ∈ lw_good := jg_5 (List.mem_of_getElem? (i := 169) (rfl : tables_1_5[169]? = some (Cond.instanceMethod yX12_isModel))) rfl
theorem wsel_X12_isModel : Cond.selects RX12 yX12_isModel yX12_isModel ∈ lw_good := jg_s (List.mem_of_getElem? (i := 40) (rfl : (k2_sels lw_privs)[40]? = some (Cond.selects RX12 yX12_isModel yX12_isModel))) rfl
theorem wcode_X12_isModel : Cond.code yX12_isModel cX12_isModel 3 (some .boolean) ∈ lw_good := jg_5 (List.mem_of_getElem? (i := 170) (rfl : tables_1_5[170]? = some (Cond.code yX12_isModel cX12_isModel 3 (some .boolean)))) rfl
theorem wm_X12_102 : ∀ w ∈ wsV RX12 102 RX12 yX12_isModel (jws yX12_isModel cX12_isModel 3 (some .boolean)), w ∈ lw_good := jgV wml_X12_102 winst_X12_isModel wsel_X12_isModel wini_X12 (jg4 wcode_X12_isModel)
theorem wml_L_174 : Cond.methodLink RL 174 yX12_modelsByAll ∈ lw_good := jg_5 (List.mem_of_getElem? (i := 171) (rfl : tables_1_5[171]? = some (Cond.methodLink RL 174 yX12_modelsByAll))) rfl
theorem winst_X12_modelsByAll : Cond.instanceMethod yX12_modelsByAll ∈ lw_good := jg_5 (List.mem_of_getElem? (i := 172) (rfl : tables_1_5[172]? = some (Cond.instanceMethod yX12_modelsByAll))) rfl
theorem wsel_X12_modelsByAll : Cond.selects RX12 yX12_modelsByAll yX12_modelsByAll ∈ lw_good := jg_5 (List.mem_of_getElem? (i := 173) (rfl : tables_1_5[173]? = some (Cond.selects RX12 yX12_modelsByAll yX12_modelsByAll))) rfl
theorem wcode_X12_modelsByAll : Cond.code yX12_modelsByAll cX12_modelsByAll 1 (some .long) ∈ lw_good := jg_5 (List.mem_of_getElem? (i := 174) (rfl : tables_1_5[174]? = some (Cond.code yX12_modelsByAll cX12_modelsByAll 1 (some .long)))) rfl
theorem wm_L_174 : ∀ w ∈ wsV RL 174 RX12 yX12_modelsByAll (jws yX12_modelsByAll cX12_modelsByAll 1 (some .long)), w ∈ lw_good := jgV wml_L_174 winst_X12_modelsByAll wsel_X12_modelsByAll wini_X12 (jg4 wcode_X12_modelsByAll)
theorem wml_X12_105 : Cond.methodLink RX12 105 yX12_models ∈ lw_good := jg_5 (List.mem_of_getElem? (i := 175) (rfl : tables_1_5[175]? = some (Cond.methodLink RX12 105 yX12_models))) rfl
theorem wm_X12_105 : ∀ w ∈ wsV RX12 105 RX12 yX12_models (jws yX12_models cX12_models 4 (some .long)), w ∈ lw_good := jgV wml_X12_105 winst_X12_models wsel_X12_models wini_X12 (jg4 wcode_X12_models)
theorem wml_L_178 : Cond.methodLink RL 178 yX12_weight ∈ lw_good := jg_5 (List.mem_of_getElem? (i := 176) (rfl : tables_1_5[176]? = some (Cond.methodLink RL 178 yX12_weight))) rfl
theorem winst_X12_weight : Cond.instanceMethod yX12_weight ∈ lw_good := jg_5 (List.mem_of_getElem? (i := 177) (rfl : tables_1_5[177]? = some (Cond.instanceMethod yX12_weight))) rfl
theorem wsel_X12_weight : Cond.selects RX12 yX12_weight yX12_weight ∈ lw_good := jg_5 (List.mem_of_getElem? (i := 178) (rfl : tables_1_5[178]? = some (Cond.selects RX12 yX12_weight yX12_weight))) rfl
theorem wcode_X12_weight : Cond.code yX12_weight cX12_weight 1 (some .long) ∈ lw_good := jg_5 (List.mem_of_getElem? (i := 179) (rfl : tables_1_5[179]? = some (Cond.code yX12_weight cX12_weight 1 (some .long)))) rfl
theorem wm_L_178 : ∀ w ∈ wsV RL 178 RX12 yX12_weight (jws yX12_weight cX12_weight 1 (some .long)), w ∈ lw_good := jgV wml_L_178 winst_X12_weight wsel_X12_weight wini_X12 (jg4 wcode_X12_weight)
theorem wml_X12_113 : Cond.methodLink RX12 113 yX12_weightOf ∈ lw_good := jg_5 (List.mem_of_getElem? (i := 180) (rfl : tables_1_5[180]? = some (Cond.methodLink RX12 113 yX12_weightOf))) rfl
theorem winst_X12_weightOf : Cond.instanceMethod yX12_weightOf ∈ lw_good := jg_5 (List.mem_of_getElem? (i := 182) (rfl : tables_1_5[182]? = some (Cond.instanceMethod yX12_weightOf))) rfl
theorem wsel_X12_weightOf : Cond.selects RX12 yX12_weightOf yX12_weightOf ∈ lw_good := jg_s (List.mem_of_getElem? (i := 41) (rfl : (k2_sels lw_privs)[41]? = some (Cond.selects RX12 yX12_weightOf yX12_weightOf))) rfl
theorem wcode_X12_weightOf : Cond.code yX12_weightOf cX12_weightOf 6 (some .long) ∈ lw_good := jg_5 (List.mem_of_getElem? (i := 183) (rfl : tables_1_5[183]? = some (Cond.code yX12_weightOf cX12_weightOf 6 (some .long)))) rfl
theorem wm_X12_113 : ∀ w ∈ wsV RX12 113 RX12 yX12_weightOf (jws yX12_weightOf cX12_weightOf 6 (some .long)), w ∈ lw_good := jgV wml_X12_113 winst_X12_weightOf wsel_X12_weightOf wini_X12 (jg4 wcode_X12_weightOf)
theorem wml_X12_109 : Cond.methodLink RX12 109 yX12_weigh ∈ lw_good := jg_5 (List.mem_of_getElem? (i := 184) (rfl : tables_1_5[184]? = some (Cond.methodLink RX12 109 yX12_weigh))) rfl
theorem winst_X12_weigh : Cond.instanceMethod yX12_weigh ∈ lw_good := jg_5 (List.mem_of_getElem? (i := 186) (rfl : tables_1_5[186]? = some (Cond.instanceMethod yX12_weigh))) rfl
theorem wsel_X12_weigh : Cond.selects RX12 yX12_weigh yX12_weigh ∈ lw_good := jg_s (List.mem_of_getElem? (i := 42) (rfl : (k2_sels lw_privs)[42]? = some (Cond.selects RX12 yX12_weigh yX12_weigh))) rfl
theorem wcode_X12_weigh : Cond.code yX12_weigh cX12_weigh 5 (some .long) ∈ lw_good := jg_5 (List.mem_of_getElem? (i := 187) (rfl : tables_1_5[187]? = some (Cond.code yX12_weigh cX12_weigh 5 (some .long)))) rfl
theorem wm_X12_109 : ∀ w ∈ wsV RX12 109 RX12 yX12_weigh (jws yX12_weigh cX12_weigh 5 (some .long)), w ∈ lw_good := jgV wml_X12_109 winst_X12_weigh wsel_X12_weigh wini_X12 (jg4 wcode_X12_weigh)
theorem wml_L_181 : Cond.methodLink RL 181 yX12_weightWith ∈ lw_good := jg_5 (List.mem_of_getElem? (i := 188) (rfl : tables_1_5[188]? = some (Cond.methodLink RL 181 yX12_weightWith))) rfl
theorem winst_X12_weightWith : Cond.instanceMethod yX12_weightWith ∈ lw_good := jg_5 (List.mem_of_getElem? (i := 189) (rfl : tables_1_5[189]? = some (Cond.instanceMethod yX12_weightWith))) rfl
theorem wsel_X12_weightWith : Cond.selects RX12 yX12_weightWith yX12_weightWith ∈ lw_good := jg_5 (List.mem_of_getElem? (i := 190) (rfl : tables_1_5[190]? = some (Cond.selects RX12 yX12_weightWith yX12_weightWith))) rfl
theorem wcode_X12_weightWith : Cond.code yX12_weightWith cX12_weightWith 3 (some .long) ∈ lw_good := jg_5 (List.mem_of_getElem? (i := 191) (rfl : tables_1_5[191]? = some (Cond.code yX12_weightWith cX12_weightWith 3 (some .long)))) rfl
theorem wm_L_181 : ∀ w ∈ wsV RL 181 RX12 yX12_weightWith (jws yX12_weightWith cX12_weightWith 3 (some .long)), w ∈ lw_good := jgV wml_L_181 winst_X12_weightWith wsel_X12_weightWith wini_X12 (jg4 wcode_X12_weightWith)
theorem wml_L_184 : Cond.methodLink RL 184 yX12_chanceTop ∈ lw_good := jg_5 (List.mem_of_getElem? (i := 192) (rfl : tables_1_5[192]? = some (Cond.methodLink RL 184 yX12_chanceTop))) rfl
theorem winst_X12_chanceTop : Cond.instanceMethod yX12_chanceTop ∈ lw_good := jg_5 (List.mem_of_getElem? (i := 193) (rfl : tables_1_5[193]? = some (Cond.instanceMethod yX12_chanceTop))) rfl
theorem wsel_X12_chanceTop : Cond.selects RX12 yX12_chanceTop yX12_chanceTop ∈ lw_good := jg_5 (List.mem_of_getElem? (i := 194) (rfl : tables_1_5[194]? = some (Cond.selects RX12 yX12_chanceTop yX12_chanceTop))) rfl
theorem wcode_X12_chanceTop : Cond.code yX12_chanceTop cX12_chanceTop 2 (some .long) ∈ lw_good := jg_5 (List.mem_of_getElem? (i := 195) (rfl : tables_1_5[195]? = some (Cond.code yX12_chanceTop cX12_chanceTop 2 (some .long)))) rfl
theorem wm_L_184 : ∀ w ∈ wsV RL 184 RX12 yX12_chanceTop (jws yX12_chanceTop cX12_chanceTop 2 (some .long)), w ∈ lw_good := jgV wml_L_184 winst_X12_chanceTop wsel_X12_chanceTop wini_X12 (jg4 wcode_X12_chanceTop)
theorem wml_X12_121 : Cond.methodLink RX12 121 yX12_chance ∈ lw_good := jg_5 (List.mem_of_getElem? (i := 196) (rfl : tables_1_5[196]? = some (Cond.methodLink RX12 121 yX12_chance))) rfl
theorem winst_X12_chance : Cond.instanceMethod yX12_chance ∈ lw_good := jg_5 (List.mem_of_getElem? (i := 198) (rfl : tables_1_5[198]? = some (Cond.instanceMethod yX12_chance))) rfl
theorem wsel_X12_chance : Cond.selects RX12 yX12_chance yX12_chance ∈ lw_good := jg_s (List.mem_of_getElem? (i := 43) (rfl : (k2_sels lw_privs)[43]? = some (Cond.selects RX12 yX12_chance yX12_chance))) rfl
theorem wcode_X12_chance : Cond.code yX12_chance cX12_chance 9 (some .long) ∈ lw_good := jg_5 (List.mem_of_getElem? (i := 199) (rfl : tables_1_5[199]? = some (Cond.code yX12_chance cX12_chance 9 (some .long)))) rfl
theorem wm_X12_121 : ∀ w ∈ wsV RX12 121 RX12 yX12_chance (jws yX12_chance cX12_chance 9 (some .long)), w ∈ lw_good := jgV wml_X12_121 winst_X12_chance wsel_X12_chance wini_X12 (jg4 wcode_X12_chance)
theorem wml_X12_117 : Cond.methodLink RX12 117 yX12_gcd ∈ lw_good := jg_5 (List.mem_of_getElem? (i := 200) (rfl : tables_1_5[200]? = some (Cond.methodLink RX12 117 yX12_gcd))) rfl
theorem wst_X12_gcd : Cond.static yX12_gcd ∈ lw_good := jg_5 (List.mem_of_getElem? (i := 201) (rfl : tables_1_5[201]? = some (Cond.static yX12_gcd))) rfl
theorem wcode_X12_gcd : Cond.code yX12_gcd cX12_gcd 10 (some .long) ∈ lw_good := jg_5 (List.mem_of_getElem? (i := 202) (rfl : tables_1_5[202]? = some (Cond.code yX12_gcd cX12_gcd 10 (some .long)))) rfl
theorem wm_X12_117 : ∀ w ∈ wsS RX12 117 yX12_gcd (jws yX12_gcd cX12_gcd 10 (some .long)), w ∈ lw_good := jgS wml_X12_117 wst_X12_gcd wini_X12 (jg4 wcode_X12_gcd)
theorem wml_L_187 : Cond.methodLink RL 187 yX12_chanceBottom ∈ lw_good := jg_5 (List.mem_of_getElem? (i := 203) (rfl : tables_1_5[203]? = some (Cond.methodLink RL 187 yX12_chanceBottom))) rfl
theorem winst_X12_chanceBottom : Cond.instanceMethod yX12_chanceBottom ∈ lw_good := jg_5 (List.mem_of_getElem? (i := 204) (rfl : tables_1_5[204]? = some (Cond.instanceMethod yX12_chanceBottom))) rfl
theorem wsel_X12_chanceBottom : Cond.selects RX12 yX12_chanceBottom yX12_chanceBottom ∈ lw_good := jg_5 (List.mem_of_getElem? (i := 205) (rfl : tables_1_5[205]? = some (Cond.selects RX12 yX12_chanceBottom yX12_chanceBottom))) rfl
theorem wcode_X12_chanceBottom : Cond.code yX12_chanceBottom cX12_chanceBottom 2 (some .long) ∈ lw_good := jg_5 (List.mem_of_getElem? (i := 206) (rfl : tables_1_5[206]? = some (Cond.code yX12_chanceBottom cX12_chanceBottom 2 (some .long)))) rfl
theorem wm_L_187 : ∀ w ∈ wsV RL 187 RX12 yX12_chanceBottom (jws yX12_chanceBottom cX12_chanceBottom 2 (some .long)), w ∈ lw_good := jgV wml_L_187 winst_X12_chanceBottom wsel_X12_chanceBottom wini_X12 (jg4 wcode_X12_chanceBottom)
theorem wml_L_190 : Cond.methodLink RL 190 yX12_projected ∈ lw_good := jg_5 (List.mem_of_getElem? (i := 207) (rfl : tables_1_5[207]? = some (Cond.methodLink RL 190 yX12_projected))) rfl
theorem winst_X12_projected : Cond.instanceMethod yX12_projected ∈ lw_good := jg_5 (List.mem_of_getElem? (i := 208) (rfl : tables_1_5[208]? = some (Cond.instanceMethod yX12_projected))) rfl
theorem wsel_X12_projected : Cond.selects RX12 yX12_projected yX12_projected ∈ lw_good := jg_5 (List.mem_of_getElem? (i := 209) (rfl : tables_1_5[209]? = some (Cond.selects RX12 yX12_projected yX12_projected))) rfl
theorem wcode_X12_projected : Cond.code yX12_projected cX12_projected 5 (some .long) ∈ lw_good := jg_5 (List.mem_of_getElem? (i := 210) (rfl : tables_1_5[210]? = some (Cond.code yX12_projected cX12_projected 5 (some .long)))) rfl
theorem wm_L_190 : ∀ w ∈ wsV RL 190 RX12 yX12_projected (jws yX12_projected cX12_projected 5 (some .long)), w ∈ lw_good := jgV wml_L_190 winst_X12_projected wsel_X12_projected wini_X12 (jg4 wcode_X12_projected)
theorem wml_L_193 : Cond.methodLink RL 193 yX12_implied ∈ lw_good := jg_5 (List.mem_of_getElem? (i := 211) (rfl : tables_1_5[211]? = some (Cond.methodLink RL 193 yX12_implied))) rfl
theorem winst_X12_implied : Cond.instanceMethod yX12_implied ∈ lw_good := jg_5 (List.mem_of_getElem? (i := 212) (rfl : tables_1_5[212]? = some (Cond.instanceMethod yX12_implied))) rfl
theorem wsel_X12_implied : Cond.selects RX12 yX12_implied yX12_implied ∈ lw_good := jg_5 (List.mem_of_getElem? (i := 213) (rfl : tables_1_5[213]? = some (Cond.selects RX12 yX12_implied yX12_implied))) rfl
theorem wcode_X12_implied : Cond.code yX12_implied cX12_implied 5 (some .char) ∈ lw_good := jg_5 (List.mem_of_getElem? (i := 214) (rfl : tables_1_5[214]? = some (Cond.code yX12_implied cX12_implied 5 (some .char)))) rfl
theorem wm_L_193 : ∀ w ∈ wsV RL 193 RX12 yX12_implied (jws yX12_implied cX12_implied 5 (some .char)), w ∈ lw_good := jgV wml_L_193 winst_X12_implied wsel_X12_implied wini_X12 (jg4 wcode_X12_implied)
theorem wml_L_197 : Cond.methodLink RL 197 yX12_parts ∈ lw_good := jg_5 (List.mem_of_getElem? (i := 215) (rfl : tables_1_5[215]? = some (Cond.methodLink RL 197 yX12_parts))) rfl
theorem winst_X12_parts : Cond.instanceMethod yX12_parts ∈ lw_good := jg_5 (List.mem_of_getElem? (i := 216) (rfl : tables_1_5[216]? = some (Cond.instanceMethod yX12_parts))) rfl
theorem wsel_X12_parts : Cond.selects RX12 yX12_parts yX12_parts ∈ lw_good := jg_5 (List.mem_of_getElem? (i := 217) (rfl : tables_1_5[217]? = some (Cond.selects RX12 yX12_parts yX12_parts))) rfl
theorem wcode_X12_parts : Cond.code yX12_parts cX12_parts 3 (some .int) ∈ lw_good := jg_5 (List.mem_of_getElem? (i := 218) (rfl : tables_1_5[218]? = some (Cond.code yX12_parts cX12_parts 3 (some .int)))) rfl
theorem wm_L_197 : ∀ w ∈ wsV RL 197 RX12 yX12_parts (jws yX12_parts cX12_parts 3 (some .int)), w ∈ lw_good := jgV wml_L_197 winst_X12_parts wsel_X12_parts wini_X12 (jg4 wcode_X12_parts)
theorem wml_X12_128 : Cond.methodLink RX12 128 yX12_part ∈ lw_good := jg_5 (List.mem_of_getElem? (i := 219) (rfl : tables_1_5[219]? = some (Cond.methodLink RX12 128 yX12_part))) rfl
theorem winst_X12_part : Cond.instanceMethod yX12_part ∈ lw_good := jg_5 (List.mem_of_getElem? (i := 221) (rfl : tables_1_5[221]? = some (Cond.instanceMethod yX12_part))) rfl
theorem wsel_X12_part : Cond.selects RX12 yX12_part yX12_part ∈ lw_good := jg_s (List.mem_of_getElem? (i := 44) (rfl : (k2_sels lw_privs)[44]? = some (Cond.selects RX12 yX12_part yX12_part))) rfl
theorem wcode_X12_part : Cond.code yX12_part cX12_part 6 (some .int) ∈ lw_good := jg_5 (List.mem_of_getElem? (i := 222) (rfl : tables_1_5[222]? = some (Cond.code yX12_part cX12_part 6 (some .int)))) rfl
theorem wm_X12_128 : ∀ w ∈ wsV RX12 128 RX12 yX12_part (jws yX12_part cX12_part 6 (some .int)), w ∈ lw_good := jgV wml_X12_128 winst_X12_part wsel_X12_part wini_X12 (jg4 wcode_X12_part)
theorem wml_X12_125 : Cond.methodLink RX12 125 yX12_free ∈ lw_good := jg_5 (List.mem_of_getElem? (i := 223) (rfl : tables_1_5[223]? = some (Cond.methodLink RX12 125 yX12_free))) rfl
theorem winst_X12_free : Cond.instanceMethod yX12_free ∈ lw_good := jg_5 (List.mem_of_getElem? (i := 225) (rfl : tables_1_5[225]? = some (Cond.instanceMethod yX12_free))) rfl
theorem wsel_X12_free : Cond.selects RX12 yX12_free yX12_free ∈ lw_good := jg_s (List.mem_of_getElem? (i := 45) (rfl : (k2_sels lw_privs)[45]? = some (Cond.selects RX12 yX12_free yX12_free))) rfl
theorem wcode_X12_free : Cond.code yX12_free cX12_free 3 (some .int) ∈ lw_good := jg_5 (List.mem_of_getElem? (i := 226) (rfl : tables_1_5[226]? = some (Cond.code yX12_free cX12_free 3 (some .int)))) rfl
theorem wm_X12_125 : ∀ w ∈ wsV RX12 125 RX12 yX12_free (jws yX12_free cX12_free 3 (some .int)), w ∈ lw_good := jgV wml_X12_125 winst_X12_free wsel_X12_free wini_X12 (jg4 wcode_X12_free)
theorem wml_X12_131 : Cond.methodLink RX12 131 yX12_lowest ∈ lw_good := jg_5 (List.mem_of_getElem? (i := 227) (rfl : tables_1_5[227]? = some (Cond.methodLink RX12 131 yX12_lowest))) rfl
theorem wst_X12_lowest : Cond.static yX12_lowest ∈ lw_good := jg_5 (List.mem_of_getElem? (i := 228) (rfl : tables_1_5[228]? = some (Cond.static yX12_lowest))) rfl
theorem wcode_X12_lowest : Cond.code yX12_lowest cX12_lowest 2 (some .int) ∈ lw_good := jg_5 (List.mem_of_getElem? (i := 229) (rfl : tables_1_5[229]? = some (Cond.code yX12_lowest cX12_lowest 2 (some .int)))) rfl
theorem wm_X12_131 : ∀ w ∈ wsS RX12 131 yX12_lowest (jws yX12_lowest cX12_lowest 2 (some .int)), w ∈ lw_good := jgS wml_X12_131 wst_X12_lowest wini_X12 (jg4 wcode_X12_lowest)
theorem wml_L_200 : Cond.methodLink RL 200 yX12_partOf ∈ lw_good := jg_5 (List.mem_of_getElem? (i := 230) (rfl : tables_1_5[230]? = some (Cond.methodLink RL 200 yX12_partOf))) rfl
theorem winst_X12_partOf : Cond.instanceMethod yX12_partOf ∈ lw_good := jg_5 (List.mem_of_getElem? (i := 231) (rfl : tables_1_5[231]? = some (Cond.instanceMethod yX12_partOf))) rfl
theorem wsel_X12_partOf : Cond.selects RX12 yX12_partOf yX12_partOf ∈ lw_good := jg_5 (List.mem_of_getElem? (i := 232) (rfl : tables_1_5[232]? = some (Cond.selects RX12 yX12_partOf yX12_partOf))) rfl
theorem wcode_X12_partOf : Cond.code yX12_partOf cX12_partOf 2 (some .int) ∈ lw_good := jg_5 (List.mem_of_getElem? (i := 233) (rfl : tables_1_5[233]? = some (Cond.code yX12_partOf cX12_partOf 2 (some .int)))) rfl
theorem wm_L_200 : ∀ w ∈ wsV RL 200 RX12 yX12_partOf (jws yX12_partOf cX12_partOf 2 (some .int)), w ∈ lw_good := jgV wml_L_200 winst_X12_partOf wsel_X12_partOf wini_X12 (jg4 wcode_X12_partOf)
theorem wml_X12_134 : Cond.methodLink RX12 134 yX12_hasNoPart ∈ lw_good := jg_5 (List.mem_of_getElem? (i := 234) (rfl : tables_1_5[234]? = some (Cond.methodLink RX12 134 yX12_hasNoPart))) rfl
theorem winst_X12_hasNoPart : Cond.instanceMethod yX12_hasNoPart ∈ lw_good := jg_5 (List.mem_of_getElem? (i := 236) (rfl : tables_1_5[236]? = some (Cond.instanceMethod yX12_hasNoPart))) rfl
theorem wsel_X12_hasNoPart : Cond.selects RX12 yX12_hasNoPart yX12_hasNoPart ∈ lw_good := jg_s (List.mem_of_getElem? (i := 46) (rfl : (k2_sels lw_privs)[46]? = some (Cond.selects RX12 yX12_hasNoPart yX12_hasNoPart))) rfl
theorem wcode_X12_hasNoPart : Cond.code yX12_hasNoPart cX12_hasNoPart 2 (some .boolean) ∈ lw_good := jg_5 (List.mem_of_getElem? (i := 237) (rfl : tables_1_5[237]? = some (Cond.code yX12_hasNoPart cX12_hasNoPart 2 (some .boolean)))) rfl
theorem wm_X12_134 : ∀ w ∈ wsV RX12 134 RX12 yX12_hasNoPart (jws yX12_hasNoPart cX12_hasNoPart 2 (some .boolean)), w ∈ lw_good := jgV wml_X12_134 winst_X12_hasNoPart wsel_X12_hasNoPart wini_X12 (jg4 wcode_X12_hasNoPart)
theorem wml_L_203 : Cond.methodLink RL 203 yX12_modelsOfPart ∈ lw_good := jg_5 (List.mem_of_getElem? (i := 238) (rfl : tables_1_5[238]? = some (Cond.methodLink RL 203 yX12_modelsOfPart))) rfl
theorem winst_X12_modelsOfPart : Cond.instanceMethod yX12_modelsOfPart ∈ lw_good := jg_5 (List.mem_of_getElem? (i := 239) (rfl : tables_1_5[239]? = some (Cond.instanceMethod yX12_modelsOfPart))) rfl
theorem wsel_X12_modelsOfPart : Cond.selects RX12 yX12_modelsOfPart yX12_modelsOfPart ∈ lw_good := jg_6 (List.mem_of_getElem? (i := 0) (rfl : tables_1_6[0]? = some (Cond.selects RX12 yX12_modelsOfPart yX12_modelsOfPart))) rfl
theorem wcode_X12_modelsOfPart : Cond.code yX12_modelsOfPart cX12_modelsOfPart 9 (some .long) ∈ lw_good := jg_6 (List.mem_of_getElem? (i := 1) (rfl : tables_1_6[1]? = some (Cond.code yX12_modelsOfPart cX12_modelsOfPart 9 (some .long)))) rfl
theorem wm_L_203 : ∀ w ∈ wsV RL 203 RX12 yX12_modelsOfPart (jws yX12_modelsOfPart cX12_modelsOfPart 9 (some .long)), w ∈ lw_good := jgV wml_L_203 winst_X12_modelsOfPart wsel_X12_modelsOfPart wini_X12 (jg4 wcode_X12_modelsOfPart)
theorem wml_L_206 : Cond.methodLink RL 206 yX12_best ∈ lw_good := jg_6 (List.mem_of_getElem? (i := 2) (rfl : tables_1_6[2]? = some (Cond.methodLink RL 206 yX12_best))) rfl
theorem winst_X12_best : Cond.instanceMethod yX12_best ∈ lw_good := jg_6 (List.mem_of_getElem? (i := 3) (rfl : tables_1_6[3]? = some (Cond.instanceMethod yX12_best))) rfl
theorem wsel_X12_best : Cond.selects RX12 yX12_best yX12_best ∈ lw_good := jg_6 (List.mem_of_getElem? (i := 4) (rfl : tables_1_6[4]? = some (Cond.selects RX12 yX12_best yX12_best))) rfl
theorem wcode_X12_best : Cond.code yX12_best cX12_best 5 (some .int) ∈ lw_good := jg_6 (List.mem_of_getElem? (i := 5) (rfl : tables_1_6[5]? = some (Cond.code yX12_best cX12_best 5 (some .int)))) rfl
theorem wm_L_206 : ∀ w ∈ wsV RL 206 RX12 yX12_best (jws yX12_best cX12_best 5 (some .int)), w ∈ lw_good := jgV wml_L_206 winst_X12_best wsel_X12_best wini_X12 (jg4 wcode_X12_best)
theorem wml_X12_137 : Cond.methodLink RX12 137 yX12_assignmentAt ∈ lw_good := jg_6 (List.mem_of_getElem? (i := 6) (rfl : tables_1_6[6]? = some (Cond.methodLink RX12 137 yX12_assignmentAt))) rfl
theorem wst_X12_assignmentAt : Cond.static yX12_assignmentAt ∈ lw_good := jg_6 (List.mem_of_getElem? (i := 7) (rfl : tables_1_6[7]? = some (Cond.static yX12_assignmentAt))) rfl
theorem wcode_X12_assignmentAt : Cond.code yX12_assignmentAt cX12_assignmentAt 4 (some .int) ∈ lw_good := jg_6 (List.mem_of_getElem? (i := 8) (rfl : tables_1_6[8]? = some (Cond.code yX12_assignmentAt cX12_assignmentAt 4 (some .int)))) rfl
theorem wm_X12_137 : ∀ w ∈ wsS RX12 137 yX12_assignmentAt (jws yX12_assignmentAt cX12_assignmentAt 4 (some .int)), w ∈ lw_good := jgS wml_X12_137 wst_X12_assignmentAt wini_X12 (jg4 wcode_X12_assignmentAt)
theorem wml_L_209 : Cond.methodLink RL 209 yX12_weightOf_ ∈ lw_good := jg_6 (List.mem_of_getElem? (i := 9) (rfl : tables_1_6[9]? = some (Cond.methodLink RL 209 yX12_weightOf_))) rfl
theorem winst_X12_weightOf_ : Cond.instanceMethod yX12_weightOf_ ∈ lw_good := jg_6 (List.mem_of_getElem? (i := 10) (rfl : tables_1_6[10]? = some (Cond.instanceMethod yX12_weightOf_))) rfl
theorem wsel_X12_weightOf_ : Cond.selects RX12 yX12_weightOf_ yX12_weightOf_ ∈ lw_good := jg_6 (List.mem_of_getElem? (i := 11) (rfl : tables_1_6[11]? = some (Cond.selects RX12 yX12_weightOf_ yX12_weightOf_))) rfl
theorem wcode_X12_weightOf_ : Cond.code yX12_weightOf_ cX12_weightOf_ 2 (some .long) ∈ lw_good := jg_6 (List.mem_of_getElem? (i := 12) (rfl : tables_1_6[12]? = some (Cond.code yX12_weightOf_ cX12_weightOf_ 2 (some .long)))) rfl
theorem wm_L_209 : ∀ w ∈ wsV RL 209 RX12 yX12_weightOf_ (jws yX12_weightOf_ cX12_weightOf_ 2 (some .long)), w ∈ lw_good := jgV wml_L_209 winst_X12_weightOf_ wsel_X12_weightOf_ wini_X12 (jg4 wcode_X12_weightOf_)
theorem wml_L_215 : Cond.methodLink RL 215 yX12_lucky ∈ lw_good := jg_6 (List.mem_of_getElem? (i := 13) (rfl : tables_1_6[13]? = some (Cond.methodLink RL 215 yX12_lucky))) rfl
theorem winst_X12_lucky : Cond.instanceMethod yX12_lucky ∈ lw_good := jg_6 (List.mem_of_getElem? (i := 14) (rfl : tables_1_6[14]? = some (Cond.instanceMethod yX12_lucky))) rfl
theorem wsel_X12_lucky : Cond.selects RX12 yX12_lucky yX12_lucky ∈ lw_good := jg_6 (List.mem_of_getElem? (i := 15) (rfl : tables_1_6[15]? = some (Cond.selects RX12 yX12_lucky yX12_lucky))) rfl
theorem wcode_X12_lucky : Cond.code yX12_lucky cX12_lucky 7 (some .int) ∈ lw_good := jg_6 (List.mem_of_getElem? (i := 16) (rfl : tables_1_6[16]? = some (Cond.code yX12_lucky cX12_lucky 7 (some .int)))) rfl
theorem wm_L_215 : ∀ w ∈ wsV RL 215 RX12 yX12_lucky (jws yX12_lucky cX12_lucky 7 (some .int)), w ∈ lw_good := jgV wml_L_215 winst_X12_lucky wsel_X12_lucky wini_X12 (jg4 wcode_X12_lucky)
theorem wml_L_218 : Cond.methodLink RL 218 yX12_first ∈ lw_good := jg_6 (List.mem_of_getElem? (i := 17) (rfl : tables_1_6[17]? = some (Cond.methodLink RL 218 yX12_first))) rfl
theorem winst_X12_first : Cond.instanceMethod yX12_first ∈ lw_good := jg_6 (List.mem_of_getElem? (i := 18) (rfl : tables_1_6[18]? = some (Cond.instanceMethod yX12_first))) rfl
theorem wsel_X12_first : Cond.selects RX12 yX12_first yX12_first ∈ lw_good := jg_6 (List.mem_of_getElem? (i := 19) (rfl : tables_1_6[19]? = some (Cond.selects RX12 yX12_first yX12_first))) rfl
theorem wcode_X12_first : Cond.code yX12_first cX12_first 2 (some .int) ∈ lw_good := jg_6 (List.mem_of_getElem? (i := 20) (rfl : tables_1_6[20]? = some (Cond.code yX12_first cX12_first 2 (some .int)))) rfl
theorem wm_L_218 : ∀ w ∈ wsV RL 218 RX12 yX12_first (jws yX12_first cX12_first 2 (some .int)), w ∈ lw_good := jgV wml_L_218 winst_X12_first wsel_X12_first wini_X12 (jg4 wcode_X12_first)
theorem wml_L_222 : Cond.methodLink RL 222 yX12_nodes ∈ lw_good := jg_6 (List.mem_of_getElem? (i := 21) (rfl : tables_1_6[21]? = some (Cond.methodLink RL 222 yX12_nodes))) rfl
theorem winst_X12_nodes : Cond.instanceMethod yX12_nodes ∈ lw_good := jg_6 (List.mem_of_getElem? (i := 22) (rfl : tables_1_6[22]? = some (Cond.instanceMethod yX12_nodes))) rfl
theorem wsel_X12_nodes : Cond.selects RX12 yX12_nodes yX12_nodes ∈ lw_good := jg_6 (List.mem_of_getElem? (i := 23) (rfl : tables_1_6[23]? = some (Cond.selects RX12 yX12_nodes yX12_nodes))) rfl
theorem wcode_X12_nodes : Cond.code yX12_nodes cX12_nodes 1 (some .int) ∈ lw_good := jg_6 (List.mem_of_getElem? (i := 24) (rfl : tables_1_6[24]? = some (Cond.code yX12_nodes cX12_nodes 1 (some .int)))) rfl
theorem wm_L_222 : ∀ w ∈ wsV RL 222 RX12 yX12_nodes (jws yX12_nodes cX12_nodes 1 (some .int)), w ∈ lw_good := jgV wml_L_222 winst_X12_nodes wsel_X12_nodes wini_X12 (jg4 wcode_X12_nodes)
theorem wml_X12_150 : Cond.methodLink RX12 150 yX12_readsModels ∈ lw_good := jg_6 (List.mem_of_getElem? (i := 25) (rfl : tables_1_6[25]? = some (Cond.methodLink RX12 150 yX12_readsModels))) rfl
theorem winst_X12_readsModels : Cond.instanceMethod yX12_readsModels ∈ lw_good := jg_6 (List.mem_of_getElem? (i := 27) (rfl : tables_1_6[27]? = some (Cond.instanceMethod yX12_readsModels))) rfl
theorem wsel_X12_readsModels : Cond.selects RX12 yX12_readsModels yX12_readsModels ∈ lw_good := jg_s (List.mem_of_getElem? (i := 47) (rfl : (k2_sels lw_privs)[47]? = some (Cond.selects RX12 yX12_readsModels yX12_readsModels))) rfl
theorem wcode_X12_readsModels : Cond.code yX12_readsModels cX12_readsModels 2 none ∈ lw_good := jg_6 (List.mem_of_getElem? (i := 28) (rfl : tables_1_6[28]? = some (Cond.code yX12_readsModels cX12_readsModels 2 none))) rfl
theorem wm_X12_150 : ∀ w ∈ wsV RX12 150 RX12 yX12_readsModels (jws yX12_readsModels cX12_readsModels 2 none), w ∈ lw_good := jgV wml_X12_150 winst_X12_readsModels wsel_X12_readsModels wini_X12 (jg4 wcode_X12_readsModels)
theorem wml_X12_153 : Cond.methodLink RX12 153 yX12_nodesOfRow ∈ lw_good := jg_6 (List.mem_of_getElem? (i := 29) (rfl : tables_1_6[29]? = some (Cond.methodLink RX12 153 yX12_nodesOfRow))) rfl
theorem winst_X12_nodesOfRow : Cond.instanceMethod yX12_nodesOfRow ∈ lw_good := jg_6 (List.mem_of_getElem? (i := 31) (rfl : tables_1_6[31]? = some (Cond.instanceMethod yX12_nodesOfRow))) rfl
theorem wsel_X12_nodesOfRow : Cond.selects RX12 yX12_nodesOfRow yX12_nodesOfRow ∈ lw_good := jg_s (List.mem_of_getElem? (i := 48) (rfl : (k2_sels lw_privs)[48]? = some (Cond.selects RX12 yX12_nodesOfRow yX12_nodesOfRow))) rfl
theorem wcode_X12_nodesOfRow : Cond.code yX12_nodesOfRow cX12_nodesOfRow 3 (some .int) ∈ lw_good := jg_6 (List.mem_of_getElem? (i := 32) (rfl : tables_1_6[32]? = some (Cond.code yX12_nodesOfRow cX12_nodesOfRow 3 (some .int)))) rfl
theorem wm_X12_153 : ∀ w ∈ wsV RX12 153 RX12 yX12_nodesOfRow (jws yX12_nodesOfRow cX12_nodesOfRow 3 (some .int)), w ∈ lw_good := jgV wml_X12_153 winst_X12_nodesOfRow wsel_X12_nodesOfRow wini_X12 (jg4 wcode_X12_nodesOfRow)
theorem wml_X12_144 : Cond.methodLink RX12 144 yX12_turns ∈ lw_good := jg_6 (List.mem_of_getElem? (i := 33) (rfl : tables_1_6[33]? = some (Cond.methodLink RX12 144 yX12_turns))) rfl
theorem winst_X12_turns : Cond.instanceMethod yX12_turns ∈ lw_good := jg_6 (List.mem_of_getElem? (i := 35) (rfl : tables_1_6[35]? = some (Cond.instanceMethod yX12_turns))) rfl
theorem wsel_X12_turns : Cond.selects RX12 yX12_turns yX12_turns ∈ lw_good := jg_s (List.mem_of_getElem? (i := 49) (rfl : (k2_sels lw_privs)[49]? = some (Cond.selects RX12 yX12_turns yX12_turns))) rfl
theorem wcode_X12_turns : Cond.code yX12_turns cX12_turns 4 none ∈ lw_good := jg_6 (List.mem_of_getElem? (i := 36) (rfl : tables_1_6[36]? = some (Cond.code yX12_turns cX12_turns 4 none))) rfl
theorem wm_X12_144 : ∀ w ∈ wsV RX12 144 RX12 yX12_turns (jws yX12_turns cX12_turns 4 none), w ∈ lw_good := jgV wml_X12_144 winst_X12_turns wsel_X12_turns wini_X12 (jg4 wcode_X12_turns)
theorem wml_X12_147 : Cond.methodLink RX12 147 yX12_nodesAt ∈ lw_good := jg_6 (List.mem_of_getElem? (i := 37) (rfl : tables_1_6[37]? = some (Cond.methodLink RX12 147 yX12_nodesAt))) rfl
theorem winst_X12_nodesAt : Cond.instanceMethod yX12_nodesAt ∈ lw_good := jg_6 (List.mem_of_getElem? (i := 39) (rfl : tables_1_6[39]? = some (Cond.instanceMethod yX12_nodesAt))) rfl
theorem wsel_X12_nodesAt : Cond.selects RX12 yX12_nodesAt yX12_nodesAt ∈ lw_good := jg_s (List.mem_of_getElem? (i := 50) (rfl : (k2_sels lw_privs)[50]? = some (Cond.selects RX12 yX12_nodesAt yX12_nodesAt))) rfl
theorem wcode_X12_nodesAt : Cond.code yX12_nodesAt cX12_nodesAt 7 (some .int) ∈ lw_good := jg_6 (List.mem_of_getElem? (i := 40) (rfl : tables_1_6[40]? = some (Cond.code yX12_nodesAt cX12_nodesAt 7 (some .int)))) rfl
theorem wm_X12_147 : ∀ w ∈ wsV RX12 147 RX12 yX12_nodesAt (jws yX12_nodesAt cX12_nodesAt 7 (some .int)), w ∈ lw_good := jgV wml_X12_147 winst_X12_nodesAt wsel_X12_nodesAt wini_X12 (jg4 wcode_X12_nodesAt)
theorem wml_X12_141 : Cond.methodLink RX12 141 yX12_areLike ∈ lw_good := jg_6 (List.mem_of_getElem? (i := 41) (rfl : tables_1_6[41]? = some (Cond.methodLink RX12 141 yX12_areLike))) rfl
theorem winst_X12_areLike : Cond.instanceMethod yX12_areLike ∈ lw_good := jg_6 (List.mem_of_getElem? (i := 43) (rfl : tables_1_6[43]? = some (Cond.instanceMethod yX12_areLike))) rfl
theorem wsel_X12_areLike : Cond.selects RX12 yX12_areLike yX12_areLike ∈ lw_good := jg_s (List.mem_of_getElem? (i := 51) (rfl : (k2_sels lw_privs)[51]? = some (Cond.selects RX12 yX12_areLike yX12_areLike))) rfl
theorem wcode_X12_areLike : Cond.code yX12_areLike cX12_areLike 6 (some .boolean) ∈ lw_good := jg_6 (List.mem_of_getElem? (i := 44) (rfl : tables_1_6[44]? = some (Cond.code yX12_areLike cX12_areLike 6 (some .boolean)))) rfl
theorem wm_X12_141 : ∀ w ∈ wsV RX12 141 RX12 yX12_areLike (jws yX12_areLike cX12_areLike 6 (some .boolean)), w ∈ lw_good := jgV wml_X12_141 winst_X12_areLike wsel_X12_areLike wini_X12 (jg4 wcode_X12_areLike)
theorem wml_L_225 : Cond.methodLink RL 225 yX12_nodesFor ∈ lw_good := jg_6 (List.mem_of_getElem? (i := 45) (rfl : tables_1_6[45]? = some (Cond.methodLink RL 225 yX12_nodesFor))) rfl
theorem winst_X12_nodesFor : Cond.instanceMethod yX12_nodesFor ∈ lw_good := jg_6 (List.mem_of_getElem? (i := 46) (rfl : tables_1_6[46]? = some (Cond.instanceMethod yX12_nodesFor))) rfl
theorem wsel_X12_nodesFor : Cond.selects RX12 yX12_nodesFor yX12_nodesFor ∈ lw_good := jg_6 (List.mem_of_getElem? (i := 47) (rfl : tables_1_6[47]? = some (Cond.selects RX12 yX12_nodesFor yX12_nodesFor))) rfl
theorem wcode_X12_nodesFor : Cond.code yX12_nodesFor cX12_nodesFor 4 (some .int) ∈ lw_good := jg_6 (List.mem_of_getElem? (i := 48) (rfl : tables_1_6[48]? = some (Cond.code yX12_nodesFor cX12_nodesFor 4 (some .int)))) rfl
theorem wm_L_225 : ∀ w ∈ wsV RL 225 RX12 yX12_nodesFor (jws yX12_nodesFor cX12_nodesFor 4 (some .int)), w ∈ lw_good := jgV wml_L_225 winst_X12_nodesFor wsel_X12_nodesFor wini_X12 (jg4 wcode_X12_nodesFor)
theorem wml_L_229 : Cond.methodLink RL 229 yX12_ways ∈ lw_good := jg_6 (List.mem_of_getElem? (i := 49) (rfl : tables_1_6[49]? = some (Cond.methodLink RL 229 yX12_ways))) rfl
theorem winst_X12_ways : Cond.instanceMethod yX12_ways ∈ lw_good := jg_6 (List.mem_of_getElem? (i := 50) (rfl : tables_1_6[50]? = some (Cond.instanceMethod yX12_ways))) rfl
theorem wsel_X12_ways : Cond.selects RX12 yX12_ways yX12_ways ∈ lw_good := jg_6 (List.mem_of_getElem? (i := 51) (rfl : tables_1_6[51]? = some (Cond.selects RX12 yX12_ways yX12_ways))) rfl
theorem wcode_X12_ways : Cond.code yX12_ways cX12_ways 1 (some .long) ∈ lw_good := jg_6 (List.mem_of_getElem? (i := 52) (rfl : tables_1_6[52]? = some (Cond.code yX12_ways cX12_ways 1 (some .long)))) rfl
theorem wm_L_229 : ∀ w ∈ wsV RL 229 RX12 yX12_ways (jws yX12_ways cX12_ways 1 (some .long)), w ∈ lw_good := jgV wml_L_229 winst_X12_ways wsel_X12_ways wini_X12 (jg4 wcode_X12_ways)
theorem wml_X12_156 : Cond.methodLink RX12 156 yX12_waysFrom ∈ lw_good := jg_6 (List.mem_of_getElem? (i := 53) (rfl : tables_1_6[53]? = some (Cond.methodLink RX12 156 yX12_waysFrom))) rfl
theorem winst_X12_waysFrom : Cond.instanceMethod yX12_waysFrom ∈ lw_good := jg_6 (List.mem_of_getElem? (i := 55) (rfl : tables_1_6[55]? = some (Cond.instanceMethod yX12_waysFrom))) rfl
theorem wsel_X12_waysFrom : Cond.selects RX12 yX12_waysFrom yX12_waysFrom ∈ lw_good := jg_s (List.mem_of_getElem? (i := 52) (rfl : (k2_sels lw_privs)[52]? = some (Cond.selects RX12 yX12_waysFrom yX12_waysFrom))) rfl
theorem wcode_X12_waysFrom : Cond.code yX12_waysFrom cX12_waysFrom 6 (some .long) ∈ lw_good := jg_6 (List.mem_of_getElem? (i := 56) (rfl : tables_1_6[56]? = some (Cond.code yX12_waysFrom cX12_waysFrom 6 (some .long)))) rfl
theorem wm_X12_156 : ∀ w ∈ wsV RX12 156 RX12 yX12_waysFrom (jws yX12_waysFrom cX12_waysFrom 6 (some .long)), w ∈ lw_good := jgV wml_X12_156 winst_X12_waysFrom wsel_X12_waysFrom wini_X12 (jg4 wcode_X12_waysFrom)
theorem wml_L_232 : Cond.methodLink RL 232 yX12_exchange ∈ lw_good := jg_6 (List.mem_of_getElem? (i := 57) (rfl : tables_1_6[57]? = some (Cond.methodLink RL 232 yX12_exchange))) rfl
theorem winst_X12_exchange : Cond.instanceMethod yX12_exchange ∈ lw_good := jg_6 (List.mem_of_getElem? (i := 58) (rfl : tables_1_6[58]? = some (Cond.instanceMethod yX12_exchange))) rfl
theorem wsel_X12_exchange : Cond.selects RX12 yX12_exchange yX12_exchange ∈ lw_good := jg_6 (List.mem_of_getElem? (i := 59) (rfl : tables_1_6[59]? = some (Cond.selects RX12 yX12_exchange yX12_exchange))) rfl
theorem wcode_X12_exchange : Cond.code yX12_exchange cX12_exchange 4 (some .int) ∈ lw_good := jg_6 (List.mem_of_getElem? (i := 60) (rfl : tables_1_6[60]? = some (Cond.code yX12_exchange cX12_exchange 4 (some .int)))) rfl
theorem wm_L_232 : ∀ w ∈ wsV RL 232 RX12 yX12_exchange (jws yX12_exchange cX12_exchange 4 (some .int)), w ∈ lw_good := jgV wml_L_232 winst_X12_exchange wsel_X12_exchange wini_X12 (jg4 wcode_X12_exchange)
theorem wml_X12_159 : Cond.methodLink RX12 159 yX12_nodes ∈ lw_good := jg_6 (List.mem_of_getElem? (i := 61) (rfl : tables_1_6[61]? = some (Cond.methodLink RX12 159 yX12_nodes))) rfl
theorem wm_X12_159 : ∀ w ∈ wsV RX12 159 RX12 yX12_nodes (jws yX12_nodes cX12_nodes 1 (some .int)), w ∈ lw_good := jgV wml_X12_159 winst_X12_nodes wsel_X12_nodes wini_X12 (jg4 wcode_X12_nodes)
theorem wml_L_235 : Cond.methodLink RL 235 yX12_orderAt ∈ lw_good := jg_6 (List.mem_of_getElem? (i := 62) (rfl : tables_1_6[62]? = some (Cond.methodLink RL 235 yX12_orderAt))) rfl
theorem winst_X12_orderAt : Cond.instanceMethod yX12_orderAt ∈ lw_good := jg_6 (List.mem_of_getElem? (i := 63) (rfl : tables_1_6[63]? = some (Cond.instanceMethod yX12_orderAt))) rfl
theorem wsel_X12_orderAt : Cond.selects RX12 yX12_orderAt yX12_orderAt ∈ lw_good := jg_6 (List.mem_of_getElem? (i := 64) (rfl : tables_1_6[64]? = some (Cond.selects RX12 yX12_orderAt yX12_orderAt))) rfl
theorem wcode_X12_orderAt : Cond.code yX12_orderAt cX12_orderAt 2 (some .int) ∈ lw_good := jg_6 (List.mem_of_getElem? (i := 65) (rfl : tables_1_6[65]? = some (Cond.code yX12_orderAt cX12_orderAt 2 (some .int)))) rfl
theorem wm_L_235 : ∀ w ∈ wsV RL 235 RX12 yX12_orderAt (jws yX12_orderAt cX12_orderAt 2 (some .int)), w ∈ lw_good := jgV wml_L_235 winst_X12_orderAt wsel_X12_orderAt wini_X12 (jg4 wcode_X12_orderAt)
theorem wml_L_238 : Cond.methodLink RL 238 yX12_keep ∈ lw_good := jg_6 (List.mem_of_getElem? (i := 66) (rfl : tables_1_6[66]? = some (Cond.methodLink RL 238 yX12_keep))) rfl
theorem winst_X12_keep : Cond.instanceMethod yX12_keep ∈ lw_good := jg_6 (List.mem_of_getElem? (i := 67) (rfl : tables_1_6[67]? = some (Cond.instanceMethod yX12_keep))) rfl
theorem wsel_X12_keep : Cond.selects RX12 yX12_keep yX12_keep ∈ lw_good := jg_6 (List.mem_of_getElem? (i := 68) (rfl : tables_1_6[68]? = some (Cond.selects RX12 yX12_keep yX12_keep))) rfl
theorem wcode_X12_keep : Cond.code yX12_keep cX12_keep 3 (some .int) ∈ lw_good := jg_6 (List.mem_of_getElem? (i := 69) (rfl : tables_1_6[69]? = some (Cond.code yX12_keep cX12_keep 3 (some .int)))) rfl
theorem wm_L_238 : ∀ w ∈ wsV RL 238 RX12 yX12_keep (jws yX12_keep cX12_keep 3 (some .int)), w ∈ lw_good := jgV wml_L_238 winst_X12_keep wsel_X12_keep wini_X12 (jg4 wcode_X12_keep)
theorem wml_X12_162 : Cond.methodLink RX12 162 yX12_isSlot ∈ lw_good := jg_6 (List.mem_of_getElem? (i := 70) (rfl : tables_1_6[70]? = some (Cond.methodLink RX12 162 yX12_isSlot))) rfl
theorem wst_X12_isSlot : Cond.static yX12_isSlot ∈ lw_good := jg_6 (List.mem_of_getElem? (i := 71) (rfl : tables_1_6[71]? = some (Cond.static yX12_isSlot))) rfl
theorem wcode_X12_isSlot : Cond.code yX12_isSlot cX12_isSlot 1 (some .boolean) ∈ lw_good := jg_6 (List.mem_of_getElem? (i := 72) (rfl : tables_1_6[72]? = some (Cond.code yX12_isSlot cX12_isSlot 1 (some .boolean)))) rfl
theorem wm_X12_162 : ∀ w ∈ wsS RX12 162 yX12_isSlot (jws yX12_isSlot cX12_isSlot 1 (some .boolean)), w ∈ lw_good := jgS wml_X12_162 wst_X12_isSlot wini_X12 (jg4 wcode_X12_isSlot)
theorem wml_L_242 : Cond.methodLink RL 242 yX12_join ∈ lw_good := jg_6 (List.mem_of_getElem? (i := 73) (rfl : tables_1_6[73]? = some (Cond.methodLink RL 242 yX12_join))) rfl
theorem winst_X12_join : Cond.instanceMethod yX12_join ∈ lw_good := jg_6 (List.mem_of_getElem? (i := 74) (rfl : tables_1_6[74]? = some (Cond.instanceMethod yX12_join))) rfl
theorem wsel_X12_join : Cond.selects RX12 yX12_join yX12_join ∈ lw_good := jg_6 (List.mem_of_getElem? (i := 75) (rfl : tables_1_6[75]? = some (Cond.selects RX12 yX12_join yX12_join))) rfl
theorem wcode_X12_join : Cond.code yX12_join cX12_join 8 (some .int) ∈ lw_good := jg_6 (List.mem_of_getElem? (i := 76) (rfl : tables_1_6[76]? = some (Cond.code yX12_join cX12_join 8 (some .int)))) rfl
theorem wm_L_242 : ∀ w ∈ wsV RL 242 RX12 yX12_join (jws yX12_join cX12_join 8 (some .int)), w ∈ lw_good := jgV wml_L_242 winst_X12_join wsel_X12_join wini_X12 (jg4 wcode_X12_join)
theorem wml_L_245 : Cond.methodLink RL 245 yX12_fix ∈ lw_good := jg_6 (List.mem_of_getElem? (i := 77) (rfl : tables_1_6[77]? = some (Cond.methodLink RL 245 yX12_fix))) rfl
theorem winst_X12_fix : Cond.instanceMethod yX12_fix ∈ lw_good := jg_6 (List.mem_of_getElem? (i := 78) (rfl : tables_1_6[78]? = some (Cond.instanceMethod yX12_fix))) rfl
theorem wsel_X12_fix : Cond.selects RX12 yX12_fix yX12_fix ∈ lw_good := jg_6 (List.mem_of_getElem? (i := 79) (rfl : tables_1_6[79]? = some (Cond.selects RX12 yX12_fix yX12_fix))) rfl
theorem wcode_X12_fix : Cond.code yX12_fix cX12_fix 5 (some .int) ∈ lw_good := jg_6 (List.mem_of_getElem? (i := 80) (rfl : tables_1_6[80]? = some (Cond.code yX12_fix cX12_fix 5 (some .int)))) rfl
theorem wm_L_245 : ∀ w ∈ wsV RL 245 RX12 yX12_fix (jws yX12_fix cX12_fix 5 (some .int)), w ∈ lw_good := jgV wml_L_245 winst_X12_fix wsel_X12_fix wini_X12 (jg4 wcode_X12_fix)
theorem wml_X12_165 : Cond.methodLink RX12 165 yX12_becomes ∈ lw_good := jg_6 (List.mem_of_getElem? (i := 81) (rfl : tables_1_6[81]? = some (Cond.methodLink RX12 165 yX12_becomes))) rfl
theorem winst_X12_becomes : Cond.instanceMethod yX12_becomes ∈ lw_good := jg_6 (List.mem_of_getElem? (i := 83) (rfl : tables_1_6[83]? = some (Cond.instanceMethod yX12_becomes))) rfl
theorem wsel_X12_becomes : Cond.selects RX12 yX12_becomes yX12_becomes ∈ lw_good := jg_s (List.mem_of_getElem? (i := 53) (rfl : (k2_sels lw_privs)[53]? = some (Cond.selects RX12 yX12_becomes yX12_becomes))) rfl
theorem wcode_X12_becomes : Cond.code yX12_becomes cX12_becomes 3 (some .int) ∈ lw_good := jg_6 (List.mem_of_getElem? (i := 84) (rfl : tables_1_6[84]? = some (Cond.code yX12_becomes cX12_becomes 3 (some .int)))) rfl
theorem wm_X12_165 : ∀ w ∈ wsV RX12 165 RX12 yX12_becomes (jws yX12_becomes cX12_becomes 3 (some .int)), w ∈ lw_good := jgV wml_X12_165 winst_X12_becomes wsel_X12_becomes wini_X12 (jg4 wcode_X12_becomes)
theorem wml_L_248 : Cond.methodLink RL 248 yX12_free_ ∈ lw_good := jg_6 (List.mem_of_getElem? (i := 85) (rfl : tables_1_6[85]? = some (Cond.methodLink RL 248 yX12_free_))) rfl
theorem winst_X12_free_ : Cond.instanceMethod yX12_free_ ∈ lw_good := jg_6 (List.mem_of_getElem? (i := 86) (rfl : tables_1_6[86]? = some (Cond.instanceMethod yX12_free_))) rfl
theorem wsel_X12_free_ : Cond.selects RX12 yX12_free_ yX12_free_ ∈ lw_good := jg_6 (List.mem_of_getElem? (i := 87) (rfl : tables_1_6[87]? = some (Cond.selects RX12 yX12_free_ yX12_free_))) rfl
theorem wcode_X12_free_ : Cond.code yX12_free_ cX12_free_ 4 (some .int) ∈ lw_good := jg_6 (List.mem_of_getElem? (i := 88) (rfl : tables_1_6[88]? = some (Cond.code yX12_free_ cX12_free_ 4 (some .int)))) rfl
theorem wm_L_248 : ∀ w ∈ wsV RL 248 RX12 yX12_free_ (jws yX12_free_ cX12_free_ 4 (some .int)), w ∈ lw_good := jgV wml_L_248 winst_X12_free_ wsel_X12_free_ wini_X12 (jg4 wcode_X12_free_)
theorem wml_L_251 : Cond.methodLink RL 251 yX12_nodesOf ∈ lw_good := jg_6 (List.mem_of_getElem? (i := 89) (rfl : tables_1_6[89]? = some (Cond.methodLink RL 251 yX12_nodesOf))) rfl
theorem winst_X12_nodesOf : Cond.instanceMethod yX12_nodesOf ∈ lw_good := jg_6 (List.mem_of_getElem? (i := 90) (rfl : tables_1_6[90]? = some (Cond.instanceMethod yX12_nodesOf))) rfl
theorem wsel_X12_nodesOf : Cond.selects RX12 yX12_nodesOf yX12_nodesOf ∈ lw_good := jg_6 (List.mem_of_getElem? (i := 91) (rfl : tables_1_6[91]? = some (Cond.selects RX12 yX12_nodesOf yX12_nodesOf))) rfl
theorem wcode_X12_nodesOf : Cond.code yX12_nodesOf cX12_nodesOf 2 (some .int) ∈ lw_good := jg_6 (List.mem_of_getElem? (i := 92) (rfl : tables_1_6[92]? = some (Cond.code yX12_nodesOf cX12_nodesOf 2 (some .int)))) rfl
theorem wm_L_251 : ∀ w ∈ wsV RL 251 RX12 yX12_nodesOf (jws yX12_nodesOf cX12_nodesOf 2 (some .int)), w ∈ lw_good := jgV wml_L_251 winst_X12_nodesOf wsel_X12_nodesOf wini_X12 (jg4 wcode_X12_nodesOf)
theorem wml_X12_168 : Cond.methodLink RX12 168 yX12_readsSlot ∈ lw_good := jg_6 (List.mem_of_getElem? (i := 93) (rfl : tables_1_6[93]? = some (Cond.methodLink RX12 168 yX12_readsSlot))) rfl
theorem winst_X12_readsSlot : Cond.instanceMethod yX12_readsSlot ∈ lw_good := jg_6 (List.mem_of_getElem? (i := 95) (rfl : tables_1_6[95]? = some (Cond.instanceMethod yX12_readsSlot))) rfl
theorem wsel_X12_readsSlot : Cond.selects RX12 yX12_readsSlot yX12_readsSlot ∈ lw_good := jg_s (List.mem_of_getElem? (i := 54) (rfl : (k2_sels lw_privs)[54]? = some (Cond.selects RX12 yX12_readsSlot yX12_readsSlot))) rfl
theorem wcode_X12_readsSlot : Cond.code yX12_readsSlot cX12_readsSlot 3 none ∈ lw_good := jg_6 (List.mem_of_getElem? (i := 96) (rfl : tables_1_6[96]? = some (Cond.code yX12_readsSlot cX12_readsSlot 3 none))) rfl
theorem wm_X12_168 : ∀ w ∈ wsV RX12 168 RX12 yX12_readsSlot (jws yX12_readsSlot cX12_readsSlot 3 none), w ∈ lw_good := jgV wml_X12_168 winst_X12_readsSlot wsel_X12_readsSlot wini_X12 (jg4 wcode_X12_readsSlot)
theorem wml_L_254 : Cond.methodLink RL 254 yX12_modelsOf ∈ lw_good := jg_6 (List.mem_of_getElem? (i := 97) (rfl : tables_1_6[97]? = some (Cond.methodLink RL 254 yX12_modelsOf))) rfl
theorem winst_X12_modelsOf : Cond.instanceMethod yX12_modelsOf ∈ lw_good := jg_6 (List.mem_of_getElem? (i := 98) (rfl : tables_1_6[98]? = some (Cond.instanceMethod yX12_modelsOf))) rfl
theorem wsel_X12_modelsOf : Cond.selects RX12 yX12_modelsOf yX12_modelsOf ∈ lw_good := jg_6 (List.mem_of_getElem? (i := 99) (rfl : tables_1_6[99]? = some (Cond.selects RX12 yX12_modelsOf yX12_modelsOf))) rfl
theorem wcode_X12_modelsOf : Cond.code yX12_modelsOf cX12_modelsOf 5 (some .long) ∈ lw_good := jg_6 (List.mem_of_getElem? (i := 100) (rfl : tables_1_6[100]? = some (Cond.code yX12_modelsOf cX12_modelsOf 5 (some .long)))) rfl
theorem wm_L_254 : ∀ w ∈ wsV RL 254 RX12 yX12_modelsOf (jws yX12_modelsOf cX12_modelsOf 5 (some .long)), w ∈ lw_good := jgV wml_L_254 winst_X12_modelsOf wsel_X12_modelsOf wini_X12 (jg4 wcode_X12_modelsOf)
theorem wml_L_257 : Cond.methodLink RL 257 yX12_areSame ∈ lw_good := jg_6 (List.mem_of_getElem? (i := 101) (rfl : tables_1_6[101]? = some (Cond.methodLink RL 257 yX12_areSame))) rfl
theorem winst_X12_areSame : Cond.instanceMethod yX12_areSame ∈ lw_good := jg_6 (List.mem_of_getElem? (i := 102) (rfl : tables_1_6[102]? = some (Cond.instanceMethod yX12_areSame))) rfl
theorem wsel_X12_areSame : Cond.selects RX12 yX12_areSame yX12_areSame ∈ lw_good := jg_6 (List.mem_of_getElem? (i := 103) (rfl : tables_1_6[103]? = some (Cond.selects RX12 yX12_areSame yX12_areSame))) rfl
theorem wcode_X12_areSame : Cond.code yX12_areSame cX12_areSame 5 (some .boolean) ∈ lw_good := jg_6 (List.mem_of_getElem? (i := 104) (rfl : tables_1_6[104]? = some (Cond.code yX12_areSame cX12_areSame 5 (some .boolean)))) rfl
theorem wm_L_257 : ∀ w ∈ wsV RL 257 RX12 yX12_areSame (jws yX12_areSame cX12_areSame 5 (some .boolean)), w ∈ lw_good := jgV wml_L_257 winst_X12_areSame wsel_X12_areSame wini_X12 (jg4 wcode_X12_areSame)
theorem wml_X12_172 : Cond.methodLink RX12 172 yX12_cannotCompare ∈ lw_good := jg_6 (List.mem_of_getElem? (i := 105) (rfl : tables_1_6[105]? = some (Cond.methodLink RX12 172 yX12_cannotCompare))) rfl
theorem winst_X12_cannotCompare : Cond.instanceMethod yX12_cannotCompare ∈ lw_good := jg_6 (List.mem_of_getElem? (i := 107) (rfl : tables_1_6[107]? = some (Cond.instanceMethod yX12_cannotCompare))) rfl
theorem wsel_X12_cannotCompare : Cond.selects RX12 yX12_cannotCompare yX12_cannotCompare ∈ lw_good := jg_s (List.mem_of_getElem? (i := 55) (rfl : (k2_sels lw_privs)[55]? = some (Cond.selects RX12 yX12_cannotCompare yX12_cannotCompare))) rfl
theorem wcode_X12_cannotCompare : Cond.code yX12_cannotCompare cX12_cannotCompare 3 (some .boolean) ∈ lw_good := jg_6 (List.mem_of_getElem? (i := 108) (rfl : tables_1_6[108]? = some (Cond.code yX12_cannotCompare cX12_cannotCompare 3 (some .boolean)))) rfl
theorem wm_X12_172 : ∀ w ∈ wsV RX12 172 RX12 yX12_cannotCompare (jws yX12_cannotCompare cX12_cannotCompare 3 (some .boolean)), w ∈ lw_good := jgV wml_X12_172 winst_X12_cannotCompare wsel_X12_cannotCompare wini_X12 (jg4 wcode_X12_cannotCompare)
theorem wml_L_260 : Cond.methodLink RL 260 yX12_isWithin ∈ lw_good := jg_6 (List.mem_of_getElem? (i := 109) (rfl : tables_1_6[109]? = some (Cond.methodLink RL 260 yX12_isWithin))) rfl
theorem winst_X12_isWithin : Cond.instanceMethod yX12_isWithin ∈ lw_good := jg_6 (List.mem_of_getElem? (i := 110) (rfl : tables_1_6[110]? = some (Cond.instanceMethod yX12_isWithin))) rfl
theorem wsel_X12_isWithin : Cond.selects RX12 yX12_isWithin yX12_isWithin ∈ lw_good := jg_6 (List.mem_of_getElem? (i := 111) (rfl : tables_1_6[111]? = some (Cond.selects RX12 yX12_isWithin yX12_isWithin))) rfl
theorem wcode_X12_isWithin : Cond.code yX12_isWithin cX12_isWithin 5 (some .boolean) ∈ lw_good := jg_6 (List.mem_of_getElem? (i := 112) (rfl : tables_1_6[112]? = some (Cond.code yX12_isWithin cX12_isWithin 5 (some .boolean)))) rfl
theorem wm_L_260 : ∀ w ∈ wsV RL 260 RX12 yX12_isWithin (jws yX12_isWithin cX12_isWithin 5 (some .boolean)), w ∈ lw_good := jgV wml_L_260 winst_X12_isWithin wsel_X12_isWithin wini_X12 (jg4 wcode_X12_isWithin)
theorem wml_L_265 : Cond.methodLink RL 265 yX12_density ∈ lw_good := jg_6 (List.mem_of_getElem? (i := 113) (rfl : tables_1_6[113]? = some (Cond.methodLink RL 265 yX12_density))) rfl
theorem winst_X12_density : Cond.instanceMethod yX12_density ∈ lw_good := jg_6 (List.mem_of_getElem? (i := 114) (rfl : tables_1_6[114]? = some (Cond.instanceMethod yX12_density))) rfl
theorem wsel_X12_density : Cond.selects RX12 yX12_density yX12_density ∈ lw_good := jg_6 (List.mem_of_getElem? (i := 115) (rfl : tables_1_6[115]? = some (Cond.selects RX12 yX12_density yX12_density))) rfl
theorem wcode_X12_density : Cond.code yX12_density cX12_density 1 (some .float) ∈ lw_good := jg_6 (List.mem_of_getElem? (i := 116) (rfl : tables_1_6[116]? = some (Cond.code yX12_density cX12_density 1 (some .float)))) rfl
theorem wm_L_265 : ∀ w ∈ wsV RL 265 RX12 yX12_density (jws yX12_density cX12_density 1 (some .float)), w ∈ lw_good := jgV wml_L_265 winst_X12_density wsel_X12_density wini_X12 (jg4 wcode_X12_density)
theorem wml_L_269 : Cond.methodLink RL 269 yX12_meanTrue ∈ lw_good := jg_6 (List.mem_of_getElem? (i := 117) (rfl : tables_1_6[117]? = some (Cond.methodLink RL 269 yX12_meanTrue))) rfl
theorem winst_X12_meanTrue : Cond.instanceMethod yX12_meanTrue ∈ lw_good := jg_6 (List.mem_of_getElem? (i := 118) (rfl : tables_1_6[118]? = some (Cond.instanceMethod yX12_meanTrue))) rfl
theorem wsel_X12_meanTrue : Cond.selects RX12 yX12_meanTrue yX12_meanTrue ∈ lw_good := jg_6 (List.mem_of_getElem? (i := 119) (rfl : tables_1_6[119]? = some (Cond.selects RX12 yX12_meanTrue yX12_meanTrue))) rfl
theorem wcode_X12_meanTrue : Cond.code yX12_meanTrue cX12_meanTrue 6 (some .double) ∈ lw_good := jg_6 (List.mem_of_getElem? (i := 120) (rfl : tables_1_6[120]? = some (Cond.code yX12_meanTrue cX12_meanTrue 6 (some .double)))) rfl
theorem wm_L_269 : ∀ w ∈ wsV RL 269 RX12 yX12_meanTrue (jws yX12_meanTrue cX12_meanTrue 6 (some .double)), w ∈ lw_good := jgV wml_L_269 winst_X12_meanTrue wsel_X12_meanTrue wini_X12 (jg4 wcode_X12_meanTrue)
theorem yk_X0_init : yX0_init.name = "<init>" ∧ jk yX0_init 0 := by decide +kernel
theorem yk_X0_isMade : yX0_isMade.cls = RX0 ∧ jk yX0_isMade 0 := by decide +kernel
theorem yk_X0_variables : yX0_variables.cls = RX0 ∧ jk yX0_variables 0 := by decide +kernel
theorem yk_X0_restart : yX0_restart.cls = RX0 ∧ jk yX0_restart 1 := by decide +kernel
theorem yk_X0_has : yX0_has.cls = RX0 ∧ jk yX0_has 1 := by decide +kernel
theorem yk_X0_add : yX0_add.cls = RX0 ∧ jk yX0_add 1 := by decide +kernel
theorem yk_X0_size : yX0_size.cls = RX0 ∧ jk yX0_size 0 := by decide +kernel
theorem yk_X0_copy : yX0_copy.cls = RX0 ∧ jk yX0_copy 1 := by decide +kernel
theorem yk_X0_isContainedIn : yX0_isContainedIn.cls = RX0 ∧ jk yX0_isContainedIn 1 := by decide +kernel
theorem yk_X0_combine : yX0_combine.cls = RX0 ∧ jk yX0_combine 3 := by decide +kernel
theorem yk_X0_settle : yX0_settle.cls = RX0 ∧ jk yX0_settle 2 := by decide +kernel
theorem yk_X0_forget : yX0_forget.cls = RX0 ∧ jk yX0_forget 1 := by decide +kernel
theorem yk_X0_putPair : yX0_putPair.cls = RX0 ∧ jk yX0_putPair 3 := by decide +kernel
theorem yk_X0_remove : yX0_remove.cls = RX0 ∧ jk yX0_remove 1 := by decide +kernel
theorem yk_X1_init : yX1_init.name = "<init>" ∧ jk yX1_init 3 := by decide +kernel
theorem yk_X1_isMetBy : yX1_isMetBy.cls = RX1 ∧ jk yX1_isMetBy 1 := by decide +kernel
theorem yk_X2_init : yX2_init.name = "<init>" ∧ jk yX2_init 0 := by decide +kernel
theorem yk_X2_make : yX2_make.cls = RX2 ∧ jk yX2_make 2 := by decide +kernel
theorem yk_X2_nodesInAll : yX2_nodesInAll.cls = RX2 ∧ jk yX2_nodesInAll 0 := by decide +kernel
theorem yk_X2_nodesAtPlace : yX2_nodesAtPlace.cls = RX2 ∧ jk yX2_nodesAtPlace 1 := by decide +kernel
theorem yk_X2_waysToYes : yX2_waysToYes.cls = RX2 ∧ jk yX2_waysToYes 0 := by decide +kernel
theorem yk_X2_layOut : yX2_layOut.cls = RX2 ∧ jk yX2_layOut 2 := by decide +kernel
theorem yk_X2_mergePlace : yX2_mergePlace.cls = RX2 ∧ jk yX2_mergePlace 1 := by decide +kernel
theorem yk_X2_nodeWith : yX2_nodeWith.cls = RX2 ∧ jk yX2_nodeWith 3 := by decide +kernel
theorem yk_X3_init : yX3_init.name = "<init>" ∧ jk yX3_init 2 := by decide +kernel
theorem yk_X3_isMetBy : yX3_isMetBy.cls = RX3 ∧ jk yX3_isMetBy 1 := by decide +kernel
theorem yk_X4_init : yX4_init.name = "<init>" ∧ jk yX4_init 2 := by decide +kernel
theorem yk_X5_init : yX5_init.name = "<init>" ∧ jk yX5_init 0 := by decide +kernel
theorem yk_X5_count : yX5_count.cls = RX5 ∧ jk yX5_count 0 := by decide +kernel
theorem yk_X5_live : yX5_live.cls = RX5 ∧ jk yX5_live 0 := by decide +kernel
theorem yk_X5_isLive : yX5_isLive.cls = RX5 ∧ jk yX5_isLive 1 := by decide +kernel
theorem yk_X5_at : yX5_at.cls = RX5 ∧ jk yX5_at 1 := by decide +kernel
theorem yk_X5_add : yX5_add.cls = RX5 ∧ jk yX5_add 1 := by decide +kernel
theorem yk_X5_strike : yX5_strike.cls = RX5 ∧ jk yX5_strike 1 := by decide +kernel
theorem yk_X5_areMet : yX5_areMet.cls = RX5 ∧ jk yX5_areMet 2 := by decide +kernel
theorem yk_X5_touching : yX5_touching.cls = RX5 ∧ jk yX5_touching 1 := by decide +kernel
theorem yk_X5_membersOf : yX5_membersOf.cls = RX5 ∧ jk yX5_membersOf 1 := by decide +kernel
theorem yk_X6_init : yX6_init.name = "<init>" ∧ jk yX6_init 1 := by decide +kernel
theorem yk_X6_at : yX6_at.cls = RX6 ∧ jk yX6_at 1 := by decide +kernel
theorem yk_X6_put : yX6_put.cls = RX6 ∧ jk yX6_put 2 := by decide +kernel
theorem yk_X7_init : yX7_init.name = "<init>" ∧ jk yX7_init 1 := by decide +kernel
theorem yk_X7_length : yX7_length.cls = RX7 ∧ jk yX7_length 0 := by decide +kernel
theorem yk_X7_at : yX7_at.cls = RX7 ∧ jk yX7_at 1 := by decide +kernel
theorem yk_X7_put : yX7_put.cls = RX7 ∧ jk yX7_put 2 := by decide +kernel
theorem yk_X8_init : yX8_init.name = "<init>" ∧ jk yX8_init 2 := by decide +kernel
theorem yk_X8_isMetBy : yX8_isMetBy.cls = RX8 ∧ jk yX8_isMetBy 1 := by decide +kernel
theorem yk_X9_init : yX9_init.name = "<init>" ∧ jk yX9_init 0 := by decide +kernel
theorem yk_X9_hasKept : yX9_hasKept.cls = RX9 ∧ jk yX9_hasKept 4 := by decide +kernel
theorem yk_X9_note : yX9_note.cls = RX9 ∧ jk yX9_note 5 := by decide +kernel
theorem yk_X9_recall : yX9_recall.cls = RX9 ∧ jk yX9_recall 1 := by decide +kernel
theorem yk_X10_init : yX10_init.name = "<init>" ∧ jk yX10_init 0 := by decide +kernel
theorem yk_X10_restart : yX10_restart.cls = RX10 ∧ jk yX10_restart 0 := by decide +kernel
theorem yk_X10_enter : yX10_enter.cls = RX10 ∧ jk yX10_enter 2 := by decide +kernel
theorem yk_X10_assignmentAt : yX10_assignmentAt.cls = RX10 ∧ jk yX10_assignmentAt 1 := by decide +kernel
theorem yk_X11_init : yX11_init.name = "<init>" ∧ jk yX11_init 0 := by decide +kernel
theorem yk_X11_addVariable : yX11_addVariable.cls = RX11 ∧ jk yX11_addVariable 0 := by decide +kernel
theorem yk_X11_setWeights : yX11_setWeights.cls = RX11 ∧ jk yX11_setWeights 3 := by decide +kernel
theorem yk_X11_addClause : yX11_addClause.cls = RX11 ∧ jk yX11_addClause 2 := by decide +kernel
theorem yk_X11_addParity : yX11_addParity.cls = RX11 ∧ jk yX11_addParity 2 := by decide +kernel
theorem yk_X11_addBound : yX11_addBound.cls = RX11 ∧ jk yX11_addBound 3 := by decide +kernel
theorem yk_X11_drop : yX11_drop.cls = RX11 ∧ jk yX11_drop 1 := by decide +kernel
theorem yk_X11_kind : yX11_kind.cls = RX11 ∧ jk yX11_kind 1 := by decide +kernel
theorem yk_X11_setEvidence : yX11_setEvidence.cls = RX11 ∧ jk yX11_setEvidence 2 := by decide +kernel
theorem yk_X11_holds : yX11_holds.cls = RX11 ∧ jk yX11_holds 2 := by decide +kernel
theorem yk_X11_models : yX11_models.cls = RX11 ∧ jk yX11_models 0 := by decide +kernel
theorem yk_X11_modelsByAll : yX11_modelsByAll.cls = RX11 ∧ jk yX11_modelsByAll 0 := by decide +kernel
theorem yk_X11_weight : yX11_weight.cls = RX11 ∧ jk yX11_weight 0 := by decide +kernel
theorem yk_X11_weightWith : yX11_weightWith.cls = RX11 ∧ jk yX11_weightWith 2 := by decide +kernel
theorem yk_X11_chanceTop : yX11_chanceTop.cls = RX11 ∧ jk yX11_chanceTop 1 := by decide +kernel
theorem yk_X11_chanceBottom : yX11_chanceBottom.cls = RX11 ∧ jk yX11_chanceBottom 1 := by decide +kernel
theorem yk_X11_projected : yX11_projected.cls = RX11 ∧ jk yX11_projected 1 := by decide +kernel
theorem yk_X11_implied : yX11_implied.cls = RX11 ∧ jk yX11_implied 1 := by decide +kernel
theorem yk_X11_parts : yX11_parts.cls = RX11 ∧ jk yX11_parts 0 := by decide +kernel
theorem yk_X11_partOf : yX11_partOf.cls = RX11 ∧ jk yX11_partOf 1 := by decide +kernel
theorem yk_X11_modelsOfPart : yX11_modelsOfPart.cls = RX11 ∧ jk yX11_modelsOfPart 1 := by decide +kernel
theorem yk_X11_best : yX11_best.cls = RX11 ∧ jk yX11_best 1 := by decide +kernel
theorem yk_X11_weightOf : yX11_weightOf.cls = RX11 ∧ jk yX11_weightOf 1 := by decide +kernel
theorem yk_X11_lucky : yX11_lucky.cls = RX11 ∧ jk yX11_lucky 1 := by decide +kernel
theorem yk_X11_first : yX11_first.cls = RX11 ∧ jk yX11_first 0 := by decide +kernel
theorem yk_X11_nodes : yX11_nodes.cls = RX11 ∧ jk yX11_nodes 0 := by decide +kernel
theorem yk_X11_nodesFor : yX11_nodesFor.cls = RX11 ∧ jk yX11_nodesFor 1 := by decide +kernel
theorem yk_X11_ways : yX11_ways.cls = RX11 ∧ jk yX11_ways 0 := by decide +kernel
theorem yk_X11_exchange : yX11_exchange.cls = RX11 ∧ jk yX11_exchange 2 := by decide +kernel
theorem yk_X11_orderAt : yX11_orderAt.cls = RX11 ∧ jk yX11_orderAt 1 := by decide +kernel
theorem yk_X11_keep : yX11_keep.cls = RX11 ∧ jk yX11_keep 1 := by decide +kernel
theorem yk_X11_join : yX11_join.cls = RX11 ∧ jk yX11_join 4 := by decide +kernel
theorem yk_X11_fix : yX11_fix.cls = RX11 ∧ jk yX11_fix 3 := by decide +kernel
theorem yk_X11_free : yX11_free.cls = RX11 ∧ jk yX11_free 2 := by decide +kernel
theorem yk_X11_nodesOf : yX11_nodesOf.cls = RX11 ∧ jk yX11_nodesOf 1 := by decide +kernel
theorem yk_X11_modelsOf : yX11_modelsOf.cls = RX11 ∧ jk yX11_modelsOf 1 := by decide +kernel
theorem yk_X11_areSame : yX11_areSame.cls = RX11 ∧ jk yX11_areSame 2 := by decide +kernel
theorem yk_X11_isWithin : yX11_isWithin.cls = RX11 ∧ jk yX11_isWithin 2 := by decide +kernel
theorem yk_X11_density : yX11_density.cls = RX11 ∧ jk yX11_density 0 := by decide +kernel
theorem yk_X11_meanTrue : yX11_meanTrue.cls = RX11 ∧ jk yX11_meanTrue 0 := by decide +kernel
theorem yk_X11_checkVariable : yX11_checkVariable.cls = RX11 ∧ jk yX11_checkVariable 1 := by decide +kernel
theorem yk_X11_checkPlace : yX11_checkPlace.cls = RX11 ∧ jk yX11_checkPlace 1 := by decide +kernel
theorem yk_X11_checkSet : yX11_checkSet.cls = RX11 ∧ jk yX11_checkSet 1 := by decide +kernel
theorem yk_X11_checkNotEmpty : yX11_checkNotEmpty.cls = RX11 ∧ jk yX11_checkNotEmpty 1 := by decide +kernel
theorem yk_X11_checkValue : yX11_checkValue.cls = RX11 ∧ jk yX11_checkValue 1 := by decide +kernel
theorem yk_X11_checkRoom : yX11_checkRoom.cls = RX11 ∧ jk yX11_checkRoom 0 := by decide +kernel
theorem yk_X11_checkOpen : yX11_checkOpen.cls = RX11 ∧ jk yX11_checkOpen 1 := by decide +kernel
theorem yk_X11_checkKept : yX11_checkKept.cls = RX11 ∧ jk yX11_checkKept 1 := by decide +kernel
theorem yk_X11_checkAsManyAsNow : yX11_checkAsManyAsNow.cls = RX11 ∧ jk yX11_checkAsManyAsNow 1 := by decide +kernel
theorem yk_X11_checkAlike : yX11_checkAlike.cls = RX11 ∧ jk yX11_checkAlike 2 := by decide +kernel
theorem yk_X11_constraintAt : yX11_constraintAt.cls = RX11 ∧ jk yX11_constraintAt 1 := by decide +kernel
theorem yk_X11_slotAt : yX11_slotAt.cls = RX11 ∧ jk yX11_slotAt 1 := by decide +kernel
theorem yk_X11_positiveWeight : yX11_positiveWeight.cls = RX11 ∧ jk yX11_positiveWeight 0 := by decide +kernel
theorem yk_X11_countAssignments : yX11_countAssignments.cls = RX11 ∧ jk yX11_countAssignments 0 := by decide +kernel
theorem yk_X11_everyVariable : yX11_everyVariable.cls = RX11 ∧ jk yX11_everyVariable 0 := by decide +kernel
theorem yk_X11_openVariables : yX11_openVariables.cls = RX11 ∧ jk yX11_openVariables 0 := by decide +kernel
theorem yk_X11_isSettled : yX11_isSettled.cls = RX11 ∧ jk yX11_isSettled 1 := by decide +kernel
theorem yk_X11_tell : yX11_tell.cls = RX11 ∧ jk yX11_tell 1 := by decide +kernel
theorem yk_X11_multiplyWeights : yX11_multiplyWeights.cls = RX11 ∧ jk yX11_multiplyWeights 0 := by decide +kernel
theorem yk_X11_freshModels : yX11_freshModels.cls = RX11 ∧ jk yX11_freshModels 0 := by decide +kernel
theorem yk_X11_weightWhere : yX11_weightWhere.cls = RX11 ∧ jk yX11_weightWhere 2 := by decide +kernel
theorem yk_X11_lowered : yX11_lowered.cls = RX11 ∧ jk yX11_lowered 3 := by decide +kernel
theorem yk_X11_following : yX11_following.cls = RX11 ∧ jk yX11_following 1 := by decide +kernel
theorem yk_X11_countNodes : yX11_countNodes.cls = RX11 ∧ jk yX11_countNodes 1 := by decide +kernel
theorem yk_X11_partWith : yX11_partWith.cls = RX11 ∧ jk yX11_partWith 1 := by decide +kernel
theorem yk_X11_lowestOf : yX11_lowestOf.cls = RX11 ∧ jk yX11_lowestOf 1 := by decide +kernel
theorem yk_X11_countPart : yX11_countPart.cls = RX11 ∧ jk yX11_countPart 1 := by decide +kernel
theorem yk_X11_countChoices : yX11_countChoices.cls = RX11 ∧ jk yX11_countChoices 3 := by decide +kernel
theorem yk_X12_thrown : yX12_thrown.cls = RX12 ∧ jk yX12_thrown 0 := by decide +kernel
theorem yk_X12_fails : yX12_fails.cls = RX12 ∧ jk yX12_fails 1 := by decide +kernel
theorem yk_X12_isBetween : yX12_isBetween.cls = RX12 ∧ jk yX12_isBetween 3 := by decide +kernel
theorem yk_X12_has : yX12_has.cls = RX12 ∧ jk yX12_has 2 := by decide +kernel
theorem yk_X12_size : yX12_size.cls = RX12 ∧ jk yX12_size 1 := by decide +kernel
theorem yk_X12_init : yX12_init.name = "<init>" ∧ jk yX12_init 0 := by decide +kernel
theorem yk_X12_isVariable : yX12_isVariable.cls = RX12 ∧ jk yX12_isVariable 1 := by decide +kernel
theorem yk_X12_isSet : yX12_isSet.cls = RX12 ∧ jk yX12_isSet 1 := by decide +kernel
theorem yk_X12_all : yX12_all.cls = RX12 ∧ jk yX12_all 0 := by decide +kernel
theorem yk_X12_assignmentAt : yX12_assignmentAt.cls = RX12 ∧ jk yX12_assignmentAt 2 := by decide +kernel
theorem yk_X12_addVariable : yX12_addVariable.cls = RX12 ∧ jk yX12_addVariable 0 := by decide +kernel
theorem yk_X12_setWeights : yX12_setWeights.cls = RX12 ∧ jk yX12_setWeights 3 := by decide +kernel
theorem yk_X12_adds : yX12_adds.cls = RX12 ∧ jk yX12_adds 5 := by decide +kernel
theorem yk_X12_addClause : yX12_addClause.cls = RX12 ∧ jk yX12_addClause 2 := by decide +kernel
theorem yk_X12_addParity : yX12_addParity.cls = RX12 ∧ jk yX12_addParity 2 := by decide +kernel
theorem yk_X12_addBound : yX12_addBound.cls = RX12 ∧ jk yX12_addBound 3 := by decide +kernel
theorem yk_X12_isConstraint : yX12_isConstraint.cls = RX12 ∧ jk yX12_isConstraint 1 := by decide +kernel
theorem yk_X12_drop : yX12_drop.cls = RX12 ∧ jk yX12_drop 1 := by decide +kernel
theorem yk_X12_kind : yX12_kind.cls = RX12 ∧ jk yX12_kind 1 := by decide +kernel
theorem yk_X12_setEvidence : yX12_setEvidence.cls = RX12 ∧ jk yX12_setEvidence 2 := by decide +kernel
theorem yk_X12_isHeld : yX12_isHeld.cls = RX12 ∧ jk yX12_isHeld 2 := by decide +kernel
theorem yk_X12_holds : yX12_holds.cls = RX12 ∧ jk yX12_holds 2 := by decide +kernel
theorem yk_X12_isModel : yX12_isModel.cls = RX12 ∧ jk yX12_isModel 1 := by decide +kernel
theorem yk_X12_models : yX12_models.cls = RX12 ∧ jk yX12_models 0 := by decide +kernel
theorem yk_X12_modelsByAll : yX12_modelsByAll.cls = RX12 ∧ jk yX12_modelsByAll 0 := by decide +kernel
theorem yk_X12_weigh : yX12_weigh.cls = RX12 ∧ jk yX12_weigh 1 := by decide +kernel
theorem yk_X12_weightOf : yX12_weightOf.cls = RX12 ∧ jk yX12_weightOf 2 := by decide +kernel
theorem yk_X12_weight : yX12_weight.cls = RX12 ∧ jk yX12_weight 0 := by decide +kernel
theorem yk_X12_weightWith : yX12_weightWith.cls = RX12 ∧ jk yX12_weightWith 2 := by decide +kernel
theorem yk_X12_gcd : yX12_gcd.cls = RX12 ∧ jk yX12_gcd 2 := by decide +kernel
theorem yk_X12_chance : yX12_chance.cls = RX12 ∧ jk yX12_chance 2 := by decide +kernel
theorem yk_X12_chanceTop : yX12_chanceTop.cls = RX12 ∧ jk yX12_chanceTop 1 := by decide +kernel
theorem yk_X12_chanceBottom : yX12_chanceBottom.cls = RX12 ∧ jk yX12_chanceBottom 1 := by decide +kernel
theorem yk_X12_projected : yX12_projected.cls = RX12 ∧ jk yX12_projected 1 := by decide +kernel
theorem yk_X12_implied : yX12_implied.cls = RX12 ∧ jk yX12_implied 1 := by decide +kernel
theorem yk_X12_free : yX12_free.cls = RX12 ∧ jk yX12_free 0 := by decide +kernel
theorem yk_X12_part : yX12_part.cls = RX12 ∧ jk yX12_part 1 := by decide +kernel
theorem yk_X12_lowest : yX12_lowest.cls = RX12 ∧ jk yX12_lowest 1 := by decide +kernel
theorem yk_X12_parts : yX12_parts.cls = RX12 ∧ jk yX12_parts 0 := by decide +kernel
theorem yk_X12_hasNoPart : yX12_hasNoPart.cls = RX12 ∧ jk yX12_hasNoPart 1 := by decide +kernel
theorem yk_X12_partOf : yX12_partOf.cls = RX12 ∧ jk yX12_partOf 1 := by decide +kernel
theorem yk_X12_modelsOfPart : yX12_modelsOfPart.cls = RX12 ∧ jk yX12_modelsOfPart 1 := by decide +kernel
theorem yk_X12_best : yX12_best.cls = RX12 ∧ jk yX12_best 1 := by decide +kernel
theorem yk_X12_weightOf_ : yX12_weightOf_.cls = RX12 ∧ jk yX12_weightOf_ 1 := by decide +kernel
theorem yk_X12_lucky : yX12_lucky.cls = RX12 ∧ jk yX12_lucky 1 := by decide +kernel
theorem yk_X12_first : yX12_first.cls = RX12 ∧ jk yX12_first 0 := by decide +kernel
theorem yk_X12_readsModels : yX12_readsModels.cls = RX12 ∧ jk yX12_readsModels 0 := by decide +kernel
theorem yk_X12_readsSlot : yX12_readsSlot.cls = RX12 ∧ jk yX12_readsSlot 1 := by decide +kernel
theorem yk_X12_turns : yX12_turns.cls = RX12 ∧ jk yX12_turns 0 := by decide +kernel
theorem yk_X12_areLike : yX12_areLike.cls = RX12 ∧ jk yX12_areLike 3 := by decide +kernel
theorem yk_X12_nodesAt : yX12_nodesAt.cls = RX12 ∧ jk yX12_nodesAt 1 := by decide +kernel
theorem yk_X12_nodesOfRow : yX12_nodesOfRow.cls = RX12 ∧ jk yX12_nodesOfRow 0 := by decide +kernel
theorem yk_X12_nodes : yX12_nodes.cls = RX12 ∧ jk yX12_nodes 0 := by decide +kernel
theorem yk_X12_nodesFor : yX12_nodesFor.cls = RX12 ∧ jk yX12_nodesFor 1 := by decide +kernel
theorem yk_X12_waysFrom : yX12_waysFrom.cls = RX12 ∧ jk yX12_waysFrom 2 := by decide +kernel
theorem yk_X12_ways : yX12_ways.cls = RX12 ∧ jk yX12_ways 0 := by decide +kernel
theorem yk_X12_exchange : yX12_exchange.cls = RX12 ∧ jk yX12_exchange 2 := by decide +kernel
theorem yk_X12_orderAt : yX12_orderAt.cls = RX12 ∧ jk yX12_orderAt 1 := by decide +kernel
theorem yk_X12_isSlot : yX12_isSlot.cls = RX12 ∧ jk yX12_isSlot 1 := by decide +kernel
theorem yk_X12_keep : yX12_keep.cls = RX12 ∧ jk yX12_keep 1 := by decide +kernel
theorem yk_X12_join : yX12_join.cls = RX12 ∧ jk yX12_join 4 := by decide +kernel
theorem yk_X12_becomes : yX12_becomes.cls = RX12 ∧ jk yX12_becomes 1 := by decide +kernel
theorem yk_X12_fix : yX12_fix.cls = RX12 ∧ jk yX12_fix 3 := by decide +kernel
theorem yk_X12_free_ : yX12_free_.cls = RX12 ∧ jk yX12_free_ 2 := by decide +kernel
theorem yk_X12_nodesOf : yX12_nodesOf.cls = RX12 ∧ jk yX12_nodesOf 1 := by decide +kernel
theorem yk_X12_modelsOf : yX12_modelsOf.cls = RX12 ∧ jk yX12_modelsOf 1 := by decide +kernel
theorem yk_X12_cannotCompare : yX12_cannotCompare.cls = RX12 ∧ jk yX12_cannotCompare 2 := by decide +kernel
theorem yk_X12_areSame : yX12_areSame.cls = RX12 ∧ jk yX12_areSame 2 := by decide +kernel
theorem yk_X12_isWithin : yX12_isWithin.cls = RX12 ∧ jk yX12_isWithin 2 := by decide +kernel
theorem yk_X12_density : yX12_density.cls = RX12 ∧ jk yX12_density 0 := by decide +kernel
theorem yk_X12_meanTrue : yX12_meanTrue.cls = RX12 ∧ jk yX12_meanTrue 0 := by decide +kernel
theorem yk_J6_bitCount_0f7a4 : jk yJ6_bitCount_0f7a4 1 := by decide +kernel
theorem yk_J13_bitCount_95d88 : jk yJ13_bitCount_95d88 1 := by decide +kernel
theorem yk_L_addVariable : jk yL_addVariable 2 := by decide +kernel
theorem yk_L_setWeights : jk yL_setWeights 5 := by decide +kernel
theorem yk_L_addClause : jk yL_addClause 4 := by decide +kernel
theorem yk_L_addParity : jk yL_addParity 4 := by decide +kernel
theorem yk_L_addBound : jk yL_addBound 5 := by decide +kernel
theorem yk_L_drop : jk yL_drop 3 := by decide +kernel
theorem yk_L_kind : jk yL_kind 3 := by decide +kernel
theorem yk_L_setEvidence : jk yL_setEvidence 4 := by decide +kernel
theorem yk_L_holds : jk yL_holds 4 := by decide +kernel
theorem yk_L_weightWith : jk yL_weightWith 4 := by decide +kernel
theorem yk_L_chanceTop : jk yL_chanceTop 3 := by decide +kernel
theorem yk_L_chanceBottom : jk yL_chanceBottom 3 := by decide +kernel
theorem yk_L_projected : jk yL_projected 3 := by decide +kernel
theorem yk_L_implied : jk yL_implied 3 := by decide +kernel
theorem yk_L_partOf : jk yL_partOf 3 := by decide +kernel
theorem yk_L_modelsOfPart : jk yL_modelsOfPart 3 := by decide +kernel
theorem yk_L_best : jk yL_best 3 := by decide +kernel
theorem yk_L_weightOf : jk yL_weightOf 3 := by decide +kernel
theorem yk_L_lucky : jk yL_lucky 3 := by decide +kernel
theorem yk_L_first : jk yL_first 2 := by decide +kernel
theorem yk_L_nodesFor : jk yL_nodesFor 3 := by decide +kernel
theorem yk_L_exchange : jk yL_exchange 4 := by decide +kernel
theorem yk_L_orderAt : jk yL_orderAt 3 := by decide +kernel
theorem yk_L_keep : jk yL_keep 3 := by decide +kernel
theorem yk_L_join : jk yL_join 6 := by decide +kernel
theorem yk_L_fix : jk yL_fix 5 := by decide +kernel
theorem yk_L_free : jk yL_free 4 := by decide +kernel
theorem yk_L_nodesOf : jk yL_nodesOf 3 := by decide +kernel
theorem yk_L_modelsOf : jk yL_modelsOf 3 := by decide +kernel
theorem yk_L_areSame : jk yL_areSame 4 := by decide +kernel
theorem yk_L_isWithin : jk yL_isWithin 4 := by decide +kernel
theorem yk_L_meanTrue : jk yL_meanTrue 2 := by decide +kernel
