theorem in_BlockBellsLaw : Cond.initialized RL ∈ TB := tb_T (List.mem_append_left _ (List.mem_of_getElem? (i := 0) rfl)) rfl
theorem in_BlockBells : Cond.initialized RX6 ∈ TB := tb_T (List.mem_append_left _ (List.mem_of_getElem? (i := 1) rfl)) rfl
theorem in_BlockBells_Line : Cond.initialized RX1 ∈ TB := tb_T (List.mem_append_left _ (List.mem_of_getElem? (i := 2) rfl)) rfl
theorem in_BlockBells_Section : Cond.initialized RX4 ∈ TB := tb_T (List.mem_append_left _ (List.mem_of_getElem? (i := 3) rfl)) rfl
theorem in_BlockBells_Block : Cond.initialized RX0 ∈ TB := tb_T (List.mem_append_left _ (List.mem_of_getElem? (i := 4) rfl)) rfl
theorem in_BlockBells_Train : Cond.initialized RX5 ∈ TB := tb_T (List.mem_append_left _ (List.mem_of_getElem? (i := 5) rfl)) rfl
theorem in_BlockBells_Register : Cond.initialized RX3 ∈ TB := tb_T (List.mem_append_left _ (List.mem_of_getElem? (i := 6) rfl)) rfl
theorem in_BlockBells_Pad : Cond.initialized RX2 ∈ TB := tb_T (List.mem_append_left _ (List.mem_of_getElem? (i := 7) rfl)) rfl
theorem in_BlockBellsModel : Cond.initialized RX7 ∈ TB := tb_T (List.mem_append_left _ (List.mem_of_getElem? (i := 8) rfl)) rfl
theorem in_java_lang_Math : Cond.initialized RJ9 ∈ TB := tb_T (List.mem_append_left _ (List.mem_of_getElem? (i := 9) rfl)) rfl
theorem in_java_lang_System : Cond.initialized RJ10 ∈ TB := tb_T (List.mem_append_left _ (List.mem_of_getElem? (i := 10) rfl)) rfl
theorem clL_7 : Cond.classLink RL 7 RX6 ∈ TB := tb_T (List.mem_append_left _ (List.mem_of_getElem? (i := 11) rfl)) rfl
theorem nwX6 : Cond.instantiable RX6 5 ∈ TB := tb_T (List.mem_append_left _ (List.mem_of_getElem? (i := 12) rfl)) rfl
theorem mkL_9 : Cond.methodLink RL 9 yX6_init ∈ TB := tb_T (List.mem_append_left _ (List.mem_of_getElem? (i := 13) rfl)) rfl
theorem mi_yX6_init : Cond.instanceMethod yX6_init ∈ TB := tb_T (List.mem_append_left _ (List.mem_of_getElem? (i := 14) rfl)) rfl
theorem mkX6_3 : Cond.methodLink RX6 3 objectInit ∈ TB := tb_T (List.mem_append_left _ (List.mem_of_getElem? (i := 16) rfl)) rfl
theorem mi_objectInit : Cond.instanceMethod objectInit ∈ TB := tb_T (List.mem_append_left _ (List.mem_of_getElem? (i := 17) rfl)) rfl
theorem clX6_9 : Cond.classLink RX6 9 RX1 ∈ TB := tb_T (List.mem_append_left _ (List.mem_of_getElem? (i := 19) rfl)) rfl
theorem nwX1 : Cond.instantiable RX1 8 ∈ TB := tb_T (List.mem_append_left _ (List.mem_of_getElem? (i := 20) rfl)) rfl
theorem mkX6_11 : Cond.methodLink RX6 11 yX1_init ∈ TB := tb_T (List.mem_append_left _ (List.mem_of_getElem? (i := 21) rfl)) rfl
theorem mi_yX1_init : Cond.instanceMethod yX1_init ∈ TB := tb_T (List.mem_append_left _ (List.mem_of_getElem? (i := 22) rfl)) rfl
theorem mkX1_3 : Cond.methodLink RX1 3 objectInit ∈ TB := tb_T (List.mem_append_left _ (List.mem_of_getElem? (i := 24) rfl)) rfl
theorem clX1_9 : Cond.classLink RX1 9 RX4 ∈ TB := tb_T (List.mem_append_left _ (List.mem_of_getElem? (i := 25) rfl)) rfl
theorem clX1_17 : Cond.classLink RX1 17 RX0 ∈ TB := tb_T (List.mem_append_left _ (List.mem_of_getElem? (i := 27) rfl)) rfl
theorem nwX4 : Cond.instantiable RX4 6 ∈ TB := tb_T (List.mem_append_left _ (List.mem_of_getElem? (i := 29) rfl)) rfl
theorem mkX1_23 : Cond.methodLink RX1 23 yX4_init ∈ TB := tb_T (List.mem_append_left _ (List.mem_of_getElem? (i := 30) rfl)) rfl
theorem mi_yX4_init : Cond.instanceMethod yX4_init ∈ TB := tb_T (List.mem_append_left _ (List.mem_of_getElem? (i := 31) rfl)) rfl
theorem mkX4_3 : Cond.methodLink RX4 3 objectInit ∈ TB := tb_T (List.mem_append_left _ (List.mem_of_getElem? (i := 33) rfl)) rfl
theorem lkX4_9 : Cond.fieldLink RX4 9 "BlockBells$Section" "number" "I" ∈ TB := tb_T (List.mem_append_left _ (List.mem_of_getElem? (i := 34) rfl)) rfl
theorem lkX3_35 : Cond.fieldLink RX3 35 "BlockBells$Section" "number" "I" ∈ TB := tb_T (List.mem_append_left _ (List.mem_of_getElem? (i := 35) rfl)) rfl
theorem lkX0_35 : Cond.fieldLink RX0 35 "BlockBells$Section" "number" "I" ∈ TB := tb_T (List.mem_append_left _ (List.mem_of_getElem? (i := 36) rfl)) rfl
theorem lkX5_44 : Cond.fieldLink RX5 44 "BlockBells$Section" "number" "I" ∈ TB := tb_T (List.mem_append_left _ (List.mem_of_getElem? (i := 37) rfl)) rfl
theorem lkX1_135 : Cond.fieldLink RX1 135 "BlockBells$Section" "number" "I" ∈ TB := tb_T (List.mem_append_left _ (List.mem_of_getElem? (i := 38) rfl)) rfl
theorem lkX4_15 : Cond.fieldLink RX4 15 "BlockBells$Section" "single" "Z" ∈ TB := tb_T (List.mem_append_left _ (List.mem_of_getElem? (i := 39) rfl)) rfl
theorem lkX1_231 : Cond.fieldLink RX1 231 "BlockBells$Section" "single" "Z" ∈ TB := tb_T (List.mem_append_left _ (List.mem_of_getElem? (i := 40) rfl)) rfl
theorem lkX4_19 : Cond.fieldLink RX4 19 "BlockBells$Section" "runningTime" "I" ∈ TB := tb_T (List.mem_append_left _ (List.mem_of_getElem? (i := 41) rfl)) rfl
theorem lkX6_46 : Cond.fieldLink RX6 46 "BlockBells$Section" "runningTime" "I" ∈ TB := tb_T (List.mem_append_left _ (List.mem_of_getElem? (i := 42) rfl)) rfl
theorem lkX5_47 : Cond.fieldLink RX5 47 "BlockBells$Section" "runningTime" "I" ∈ TB := tb_T (List.mem_append_left _ (List.mem_of_getElem? (i := 43) rfl)) rfl
theorem lkX1_259 : Cond.fieldLink RX1 259 "BlockBells$Section" "runningTime" "I" ∈ TB := tb_T (List.mem_append_left _ (List.mem_of_getElem? (i := 44) rfl)) rfl
theorem lkX4_22 : Cond.fieldLink RX4 22 "BlockBells$Section" "lowerTokens" "I" ∈ TB := tb_T (List.mem_append_left _ (List.mem_of_getElem? (i := 45) rfl)) rfl
theorem lkX4_25 : Cond.fieldLink RX4 25 "BlockBells$Section" "higherTokens" "I" ∈ TB := tb_T (List.mem_append_left _ (List.mem_of_getElem? (i := 46) rfl)) rfl
theorem lkX1_70 : Cond.fieldLink RX1 70 "BlockBells$Section" "tokenOut" "Z" ∈ TB := tb_T (List.mem_append_left _ (List.mem_of_getElem? (i := 47) rfl)) rfl
theorem lkX4_28 : Cond.fieldLink RX4 28 "BlockBells$Section" "tokenOut" "Z" ∈ TB := tb_T (List.mem_append_left _ (List.mem_of_getElem? (i := 48) rfl)) rfl
theorem nwX0 : Cond.instantiable RX0 7 ∈ TB := tb_T (List.mem_append_left _ (List.mem_of_getElem? (i := 62) rfl)) rfl
theorem mkX1_26 : Cond.methodLink RX1 26 yX0_init ∈ TB := tb_T (List.mem_append_left _ (List.mem_of_getElem? (i := 63) rfl)) rfl
theorem mi_yX0_init : Cond.instanceMethod yX0_init ∈ TB := tb_T (List.mem_append_left _ (List.mem_of_getElem? (i := 64) rfl)) rfl
theorem mkX0_3 : Cond.methodLink RX0 3 objectInit ∈ TB := tb_T (List.mem_append_left _ (List.mem_of_getElem? (i := 66) rfl)) rfl
theorem lkX0_9 : Cond.fieldLink RX0 9 "BlockBells$Block" "section" "LBlockBells$Section;" ∈ TB := tb_T (List.mem_append_left _ (List.mem_of_getElem? (i := 67) rfl)) rfl
theorem lkX3_29 : Cond.fieldLink RX3 29 "BlockBells$Block" "section" "LBlockBells$Section;" ∈ TB := tb_T (List.mem_append_left _ (List.mem_of_getElem? (i := 68) rfl)) rfl
theorem lkX1_131 : Cond.fieldLink RX1 131 "BlockBells$Block" "section" "LBlockBells$Section;" ∈ TB := tb_T (List.mem_append_left _ (List.mem_of_getElem? (i := 69) rfl)) rfl
theorem lkX0_15 : Cond.fieldLink RX0 15 "BlockBells$Block" "direction" "I" ∈ TB := tb_T (List.mem_append_left _ (List.mem_of_getElem? (i := 70) rfl)) rfl
theorem lkX3_40 : Cond.fieldLink RX3 40 "BlockBells$Block" "direction" "I" ∈ TB := tb_T (List.mem_append_left _ (List.mem_of_getElem? (i := 71) rfl)) rfl
theorem lkX1_220 : Cond.fieldLink RX1 220 "BlockBells$Block" "direction" "I" ∈ TB := tb_T (List.mem_append_left _ (List.mem_of_getElem? (i := 72) rfl)) rfl
theorem lkX0_19 : Cond.fieldLink RX0 19 "BlockBells$Block" "state" "I" ∈ TB := tb_T (List.mem_append_left _ (List.mem_of_getElem? (i := 73) rfl)) rfl
theorem lkX1_125 : Cond.fieldLink RX1 125 "BlockBells$Block" "state" "I" ∈ TB := tb_T (List.mem_append_left _ (List.mem_of_getElem? (i := 74) rfl)) rfl
theorem lkX0_22 : Cond.fieldLink RX0 22 "BlockBells$Block" "offered" "I" ∈ TB := tb_T (List.mem_append_left _ (List.mem_of_getElem? (i := 75) rfl)) rfl
theorem lkX1_169 : Cond.fieldLink RX1 169 "BlockBells$Block" "offered" "I" ∈ TB := tb_T (List.mem_append_left _ (List.mem_of_getElem? (i := 76) rfl)) rfl
theorem lkX0_25 : Cond.fieldLink RX0 25 "BlockBells$Block" "holder" "I" ∈ TB := tb_T (List.mem_append_left _ (List.mem_of_getElem? (i := 77) rfl)) rfl
theorem lkX1_128 : Cond.fieldLink RX1 128 "BlockBells$Block" "holder" "I" ∈ TB := tb_T (List.mem_append_left _ (List.mem_of_getElem? (i := 78) rfl)) rfl
theorem lkX0_28 : Cond.fieldLink RX0 28 "BlockBells$Block" "part" "Z" ∈ TB := tb_T (List.mem_append_left _ (List.mem_of_getElem? (i := 79) rfl)) rfl
theorem lkX1_197 : Cond.fieldLink RX1 197 "BlockBells$Block" "part" "Z" ∈ TB := tb_T (List.mem_append_left _ (List.mem_of_getElem? (i := 80) rfl)) rfl
theorem lkX0_32 : Cond.fieldLink RX0 32 "BlockBells$Block" "engineTicks" "I" ∈ TB := tb_T (List.mem_append_left _ (List.mem_of_getElem? (i := 81) rfl)) rfl
theorem lkX1_256 : Cond.fieldLink RX1 256 "BlockBells$Block" "engineTicks" "I" ∈ TB := tb_T (List.mem_append_left _ (List.mem_of_getElem? (i := 82) rfl)) rfl
theorem clX1_29 : Cond.classLink RX1 29 RX5 ∈ TB := tb_T (List.mem_append_left _ (List.mem_of_getElem? (i := 98) rfl)) rfl
theorem nwX5 : Cond.instantiable RX5 9 ∈ TB := tb_T (List.mem_append_left _ (List.mem_of_getElem? (i := 100) rfl)) rfl
theorem mkX1_35 : Cond.methodLink RX1 35 yX5_init ∈ TB := tb_T (List.mem_append_left _ (List.mem_of_getElem? (i := 101) rfl)) rfl
theorem mi_yX5_init : Cond.instanceMethod yX5_init ∈ TB := tb_T (List.mem_append_left _ (List.mem_of_getElem? (i := 102) rfl)) rfl
theorem mkX5_3 : Cond.methodLink RX5 3 objectInit ∈ TB := tb_T (List.mem_append_left _ (List.mem_of_getElem? (i := 104) rfl)) rfl
theorem lkX5_9 : Cond.fieldLink RX5 9 "BlockBells$Train" "number" "I" ∈ TB := tb_T (List.mem_append_left _ (List.mem_of_getElem? (i := 105) rfl)) rfl
theorem lkX1_153 : Cond.fieldLink RX1 153 "BlockBells$Train" "number" "I" ∈ TB := tb_T (List.mem_append_left _ (List.mem_of_getElem? (i := 106) rfl)) rfl
theorem lkX5_15 : Cond.fieldLink RX5 15 "BlockBells$Train" "kind" "I" ∈ TB := tb_T (List.mem_append_left _ (List.mem_of_getElem? (i := 107) rfl)) rfl
theorem lkX1_210 : Cond.fieldLink RX1 210 "BlockBells$Train" "kind" "I" ∈ TB := tb_T (List.mem_append_left _ (List.mem_of_getElem? (i := 108) rfl)) rfl
theorem lkX5_18 : Cond.fieldLink RX5 18 "BlockBells$Train" "direction" "I" ∈ TB := tb_T (List.mem_append_left _ (List.mem_of_getElem? (i := 109) rfl)) rfl
theorem lkX1_118 : Cond.fieldLink RX1 118 "BlockBells$Train" "direction" "I" ∈ TB := tb_T (List.mem_append_left _ (List.mem_of_getElem? (i := 110) rfl)) rfl
theorem lkX5_38 : Cond.fieldLink RX5 38 "BlockBells$Train" "where" "I" ∈ TB := tb_T (List.mem_append_left _ (List.mem_of_getElem? (i := 111) rfl)) rfl
theorem lkX1_100 : Cond.fieldLink RX1 100 "BlockBells$Train" "where" "I" ∈ TB := tb_T (List.mem_append_left _ (List.mem_of_getElem? (i := 112) rfl)) rfl
theorem lkX5_41 : Cond.fieldLink RX5 41 "BlockBells$Train" "place" "I" ∈ TB := tb_T (List.mem_append_left _ (List.mem_of_getElem? (i := 113) rfl)) rfl
theorem lkX1_115 : Cond.fieldLink RX1 115 "BlockBells$Train" "place" "I" ∈ TB := tb_T (List.mem_append_left _ (List.mem_of_getElem? (i := 114) rfl)) rfl
theorem lkX5_25 : Cond.fieldLink RX5 25 "BlockBells$Train" "ticksLeft" "I" ∈ TB := tb_T (List.mem_append_left _ (List.mem_of_getElem? (i := 115) rfl)) rfl
theorem lkX1_246 : Cond.fieldLink RX1 246 "BlockBells$Train" "ticksLeft" "I" ∈ TB := tb_T (List.mem_append_left _ (List.mem_of_getElem? (i := 116) rfl)) rfl
theorem lkX5_28 : Cond.fieldLink RX5 28 "BlockBells$Train" "whole" "Z" ∈ TB := tb_T (List.mem_append_left _ (List.mem_of_getElem? (i := 117) rfl)) rfl
theorem lkX1_194 : Cond.fieldLink RX1 194 "BlockBells$Train" "whole" "Z" ∈ TB := tb_T (List.mem_append_left _ (List.mem_of_getElem? (i := 118) rfl)) rfl
theorem lkX5_32 : Cond.fieldLink RX5 32 "BlockBells$Train" "appearedAt" "I" ∈ TB := tb_T (List.mem_append_left _ (List.mem_of_getElem? (i := 119) rfl)) rfl
theorem lkX1_191 : Cond.fieldLink RX1 191 "BlockBells$Train" "appearedAt" "I" ∈ TB := tb_T (List.mem_append_left _ (List.mem_of_getElem? (i := 120) rfl)) rfl
theorem lkX5_35 : Cond.fieldLink RX5 35 "BlockBells$Train" "leftAt" "I" ∈ TB := tb_T (List.mem_append_left _ (List.mem_of_getElem? (i := 121) rfl)) rfl
theorem clX1_40 : Cond.classLink RX1 40 RX3 ∈ TB := tb_T (List.mem_append_left _ (List.mem_of_getElem? (i := 141) rfl)) rfl
theorem nwX3 : Cond.instantiable RX3 2 ∈ TB := tb_T (List.mem_append_left _ (List.mem_of_getElem? (i := 142) rfl)) rfl
theorem mkX1_42 : Cond.methodLink RX1 42 yX3_init ∈ TB := tb_T (List.mem_append_left _ (List.mem_of_getElem? (i := 143) rfl)) rfl
theorem mi_yX3_init : Cond.instanceMethod yX3_init ∈ TB := tb_T (List.mem_append_left _ (List.mem_of_getElem? (i := 144) rfl)) rfl
theorem mkX3_3 : Cond.methodLink RX3 3 objectInit ∈ TB := tb_T (List.mem_append_left _ (List.mem_of_getElem? (i := 146) rfl)) rfl
theorem lkX3_9 : Cond.fieldLink RX3 9 "BlockBells$Register" "rows" "[I" ∈ TB := tb_T (List.mem_append_left _ (List.mem_of_getElem? (i := 147) rfl)) rfl
theorem lkX3_21 : Cond.fieldLink RX3 21 "BlockBells$Register" "total" "I" ∈ TB := tb_T (List.mem_append_left _ (List.mem_of_getElem? (i := 148) rfl)) rfl
theorem lkX1_64 : Cond.fieldLink RX1 64 "BlockBells$Register" "total" "I" ∈ TB := tb_T (List.mem_append_left _ (List.mem_of_getElem? (i := 149) rfl)) rfl
theorem lkX6_229 : Cond.fieldLink RX6 229 "BlockBells$Register" "total" "I" ∈ TB := tb_T (List.mem_append_left _ (List.mem_of_getElem? (i := 150) rfl)) rfl
theorem mkX1_47 : Cond.methodLink RX1 47 yX1_layOut ∈ TB := tb_T (List.mem_append_left _ (List.mem_of_getElem? (i := 157) rfl)) rfl
theorem mi_yX1_layOut : Cond.instanceMethod yX1_layOut ∈ TB := tb_T (List.mem_append_left _ (List.mem_of_getElem? (i := 158) rfl)) rfl
theorem me_yX1_layOut : Cond.selects RX1 yX1_layOut yX1_layOut ∈ TB := tb_T (List.mem_append_left _ (List.mem_of_getElem? (i := 159) rfl)) rfl
theorem mkX1_55 : Cond.methodLink RX1 55 yX4_layOut ∈ TB := tb_T (List.mem_append_left _ (List.mem_of_getElem? (i := 161) rfl)) rfl
theorem mi_yX4_layOut : Cond.instanceMethod yX4_layOut ∈ TB := tb_T (List.mem_append_left _ (List.mem_of_getElem? (i := 162) rfl)) rfl
theorem me_yX4_layOut : Cond.selects RX4 yX4_layOut yX4_layOut ∈ TB := tb_T (List.mem_append_left _ (List.mem_of_getElem? (i := 163) rfl)) rfl
theorem mkX1_58 : Cond.methodLink RX1 58 yX1_clearTraffic ∈ TB := tb_T (List.mem_append_left _ (List.mem_of_getElem? (i := 165) rfl)) rfl
theorem mi_yX1_clearTraffic : Cond.instanceMethod yX1_clearTraffic ∈ TB := tb_T (List.mem_append_left _ (List.mem_of_getElem? (i := 166) rfl)) rfl
theorem me_yX1_clearTraffic : Cond.selects RX1 yX1_clearTraffic yX1_clearTraffic ∈ TB := tb_T (List.mem_append_left _ (List.mem_of_getElem? (i := 167) rfl)) rfl
theorem mkX1_74 : Cond.methodLink RX1 74 yX0_reset ∈ TB := tb_T (List.mem_append_left _ (List.mem_of_getElem? (i := 169) rfl)) rfl
theorem mi_yX0_reset : Cond.instanceMethod yX0_reset ∈ TB := tb_T (List.mem_append_left _ (List.mem_of_getElem? (i := 170) rfl)) rfl
theorem me_yX0_reset : Cond.selects RX0 yX0_reset yX0_reset ∈ TB := tb_T (List.mem_append_left _ (List.mem_of_getElem? (i := 171) rfl)) rfl
theorem lkX1_11 : Cond.fieldLink RX1 11 "BlockBells$Line" "sections" "[LBlockBells$Section;" ∈ TB := tb_T (List.mem_append_left _ (List.mem_of_getElem? (i := 173) rfl)) rfl
theorem lkX1_19 : Cond.fieldLink RX1 19 "BlockBells$Line" "blocks" "[LBlockBells$Block;" ∈ TB := tb_T (List.mem_append_left _ (List.mem_of_getElem? (i := 174) rfl)) rfl
theorem lkX1_31 : Cond.fieldLink RX1 31 "BlockBells$Line" "trains" "[LBlockBells$Train;" ∈ TB := tb_T (List.mem_append_left _ (List.mem_of_getElem? (i := 175) rfl)) rfl
theorem lkX1_36 : Cond.fieldLink RX1 36 "BlockBells$Line" "loops" "[I" ∈ TB := tb_T (List.mem_append_left _ (List.mem_of_getElem? (i := 176) rfl)) rfl
theorem lkX1_43 : Cond.fieldLink RX1 43 "BlockBells$Line" "register" "LBlockBells$Register;" ∈ TB := tb_T (List.mem_append_left _ (List.mem_of_getElem? (i := 177) rfl)) rfl
theorem lkX6_139 : Cond.fieldLink RX6 139 "BlockBells$Line" "register" "LBlockBells$Register;" ∈ TB := tb_T (List.mem_append_left _ (List.mem_of_getElem? (i := 178) rfl)) rfl
theorem lkX1_51 : Cond.fieldLink RX1 51 "BlockBells$Line" "boxes" "I" ∈ TB := tb_T (List.mem_append_left _ (List.mem_of_getElem? (i := 179) rfl)) rfl
theorem lkX6_235 : Cond.fieldLink RX6 235 "BlockBells$Line" "boxes" "I" ∈ TB := tb_T (List.mem_append_left _ (List.mem_of_getElem? (i := 180) rfl)) rfl
theorem lkX6_34 : Cond.fieldLink RX6 34 "BlockBells$Line" "appeared" "I" ∈ TB := tb_T (List.mem_append_left _ (List.mem_of_getElem? (i := 181) rfl)) rfl
theorem lkX1_67 : Cond.fieldLink RX1 67 "BlockBells$Line" "appeared" "I" ∈ TB := tb_T (List.mem_append_left _ (List.mem_of_getElem? (i := 182) rfl)) rfl
theorem lkX1_61 : Cond.fieldLink RX1 61 "BlockBells$Line" "time" "I" ∈ TB := tb_T (List.mem_append_left _ (List.mem_of_getElem? (i := 183) rfl)) rfl
theorem lkX6_131 : Cond.fieldLink RX6 131 "BlockBells$Line" "time" "I" ∈ TB := tb_T (List.mem_append_left _ (List.mem_of_getElem? (i := 184) rfl)) rfl
theorem clX6_27 : Cond.classLink RX6 27 RX2 ∈ TB := tb_T (List.mem_append_left _ (List.mem_of_getElem? (i := 203) rfl)) rfl
theorem nwX2 : Cond.instantiable RX2 6 ∈ TB := tb_T (List.mem_append_left _ (List.mem_of_getElem? (i := 204) rfl)) rfl
theorem mkX6_29 : Cond.methodLink RX6 29 yX2_init ∈ TB := tb_T (List.mem_append_left _ (List.mem_of_getElem? (i := 205) rfl)) rfl
theorem mi_yX2_init : Cond.instanceMethod yX2_init ∈ TB := tb_T (List.mem_append_left _ (List.mem_of_getElem? (i := 206) rfl)) rfl
theorem mkX2_3 : Cond.methodLink RX2 3 objectInit ∈ TB := tb_T (List.mem_append_left _ (List.mem_of_getElem? (i := 208) rfl)) rfl
theorem lkX2_9 : Cond.fieldLink RX2 9 "BlockBells$Pad" "signs" "[I" ∈ TB := tb_T (List.mem_append_left _ (List.mem_of_getElem? (i := 209) rfl)) rfl
theorem lkX2_15 : Cond.fieldLink RX2 15 "BlockBells$Pad" "length" "I" ∈ TB := tb_T (List.mem_append_left _ (List.mem_of_getElem? (i := 210) rfl)) rfl
theorem lkX6_238 : Cond.fieldLink RX6 238 "BlockBells$Pad" "length" "I" ∈ TB := tb_T (List.mem_append_left _ (List.mem_of_getElem? (i := 211) rfl)) rfl
theorem lkX2_34 : Cond.fieldLink RX2 34 "BlockBells$Pad" "at" "I" ∈ TB := tb_T (List.mem_append_left _ (List.mem_of_getElem? (i := 212) rfl)) rfl
theorem lkX2_37 : Cond.fieldLink RX2 37 "BlockBells$Pad" "letter" "I" ∈ TB := tb_T (List.mem_append_left _ (List.mem_of_getElem? (i := 213) rfl)) rfl
theorem lkX6_183 : Cond.fieldLink RX6 183 "BlockBells$Pad" "letter" "I" ∈ TB := tb_T (List.mem_append_left _ (List.mem_of_getElem? (i := 214) rfl)) rfl
theorem lkX2_40 : Cond.fieldLink RX2 40 "BlockBells$Pad" "number" "I" ∈ TB := tb_T (List.mem_append_left _ (List.mem_of_getElem? (i := 215) rfl)) rfl
theorem lkX6_186 : Cond.fieldLink RX6 186 "BlockBells$Pad" "number" "I" ∈ TB := tb_T (List.mem_append_left _ (List.mem_of_getElem? (i := 216) rfl)) rfl
theorem lkX2_43 : Cond.fieldLink RX2 43 "BlockBells$Pad" "direction" "I" ∈ TB := tb_T (List.mem_append_left _ (List.mem_of_getElem? (i := 217) rfl)) rfl
theorem lkX6_189 : Cond.fieldLink RX6 189 "BlockBells$Pad" "direction" "I" ∈ TB := tb_T (List.mem_append_left _ (List.mem_of_getElem? (i := 218) rfl)) rfl
theorem lkX6_12 : Cond.fieldLink RX6 12 "BlockBells" "line" "LBlockBells$Line;" ∈ TB := tb_T (List.mem_append_left _ (List.mem_of_getElem? (i := 233) rfl)) rfl
theorem lkX6_16 : Cond.fieldLink RX6 16 "BlockBells" "trial" "LBlockBells$Line;" ∈ TB := tb_T (List.mem_append_left _ (List.mem_of_getElem? (i := 234) rfl)) rfl
theorem lkX6_19 : Cond.fieldLink RX6 19 "BlockBells" "slots" "[LBlockBells$Line;" ∈ TB := tb_T (List.mem_append_left _ (List.mem_of_getElem? (i := 235) rfl)) rfl
theorem lkX6_23 : Cond.fieldLink RX6 23 "BlockBells" "saved" "[Z" ∈ TB := tb_T (List.mem_append_left _ (List.mem_of_getElem? (i := 236) rfl)) rfl
theorem lkX6_30 : Cond.fieldLink RX6 30 "BlockBells" "pad" "LBlockBells$Pad;" ∈ TB := tb_T (List.mem_append_left _ (List.mem_of_getElem? (i := 237) rfl)) rfl
theorem mkL_13 : Cond.methodLink RL 13 yX6_setUp ∈ TB := tb_T (List.mem_append_right _ (List.mem_append_left _ (List.mem_of_getElem? (i := 9) rfl))) rfl
theorem mi_yX6_setUp : Cond.instanceMethod yX6_setUp ∈ TB := tb_T (List.mem_append_right _ (List.mem_append_left _ (List.mem_of_getElem? (i := 10) rfl))) rfl
theorem me_yX6_setUp : Cond.selects RX6 yX6_setUp yX6_setUp ∈ TB := tb_T (List.mem_append_right _ (List.mem_append_left _ (List.mem_of_getElem? (i := 11) rfl))) rfl
theorem mkX6_38 : Cond.methodLink RX6 38 yX1_layOut ∈ TB := tb_T (List.mem_append_right _ (List.mem_append_left _ (List.mem_of_getElem? (i := 13) rfl))) rfl
theorem mkL_18 : Cond.methodLink RL 18 yX6_setTime ∈ TB := tb_T (List.mem_append_right _ (List.mem_append_left _ (List.mem_of_getElem? (i := 14) rfl))) rfl
theorem mi_yX6_setTime : Cond.instanceMethod yX6_setTime ∈ TB := tb_T (List.mem_append_right _ (List.mem_append_left _ (List.mem_of_getElem? (i := 15) rfl))) rfl
theorem me_yX6_setTime : Cond.selects RX6 yX6_setTime yX6_setTime ∈ TB := tb_T (List.mem_append_right _ (List.mem_append_left _ (List.mem_of_getElem? (i := 16) rfl))) rfl
theorem mkX6_42 : Cond.methodLink RX6 42 yX1_sectionAt ∈ TB := tb_T (List.mem_append_right _ (List.mem_append_left _ (List.mem_of_getElem? (i := 18) rfl))) rfl
theorem mi_yX1_sectionAt : Cond.instanceMethod yX1_sectionAt ∈ TB := tb_T (List.mem_append_right _ (List.mem_append_left _ (List.mem_of_getElem? (i := 19) rfl))) rfl
theorem me_yX1_sectionAt : Cond.selects RX1 yX1_sectionAt yX1_sectionAt ∈ TB := tb_T (List.mem_append_right _ (List.mem_append_left _ (List.mem_of_getElem? (i := 20) rfl))) rfl
theorem mkL_22 : Cond.methodLink RL 22 yX6_setLoops ∈ TB := tb_T (List.mem_append_right _ (List.mem_append_left _ (List.mem_of_getElem? (i := 22) rfl))) rfl
theorem mi_yX6_setLoops : Cond.instanceMethod yX6_setLoops ∈ TB := tb_T (List.mem_append_right _ (List.mem_append_left _ (List.mem_of_getElem? (i := 23) rfl))) rfl
theorem me_yX6_setLoops : Cond.selects RX6 yX6_setLoops yX6_setLoops ∈ TB := tb_T (List.mem_append_right _ (List.mem_append_left _ (List.mem_of_getElem? (i := 24) rfl))) rfl
theorem mkX6_51 : Cond.methodLink RX6 51 yX1_hasBox ∈ TB := tb_T (List.mem_append_right _ (List.mem_append_left _ (List.mem_of_getElem? (i := 26) rfl))) rfl
theorem mi_yX1_hasBox : Cond.instanceMethod yX1_hasBox ∈ TB := tb_T (List.mem_append_right _ (List.mem_append_left _ (List.mem_of_getElem? (i := 27) rfl))) rfl
theorem me_yX1_hasBox : Cond.selects RX1 yX1_hasBox yX1_hasBox ∈ TB := tb_T (List.mem_append_right _ (List.mem_append_left _ (List.mem_of_getElem? (i := 28) rfl))) rfl
theorem mkX6_55 : Cond.methodLink RX6 55 yX6_isDirection ∈ TB := tb_T (List.mem_append_right _ (List.mem_append_left _ (List.mem_of_getElem? (i := 30) rfl))) rfl
theorem ms_yX6_isDirection : Cond.static yX6_isDirection ∈ TB := tb_T (List.mem_append_right _ (List.mem_append_left _ (List.mem_of_getElem? (i := 31) rfl))) rfl
theorem mkX6_58 : Cond.methodLink RX6 58 yX1_changeLoops ∈ TB := tb_T (List.mem_append_right _ (List.mem_append_left _ (List.mem_of_getElem? (i := 33) rfl))) rfl
theorem mi_yX1_changeLoops : Cond.instanceMethod yX1_changeLoops ∈ TB := tb_T (List.mem_append_right _ (List.mem_append_left _ (List.mem_of_getElem? (i := 34) rfl))) rfl
theorem me_yX1_changeLoops : Cond.selects RX1 yX1_changeLoops yX1_changeLoops ∈ TB := tb_T (List.mem_append_right _ (List.mem_append_left _ (List.mem_of_getElem? (i := 35) rfl))) rfl
theorem mkX1_107 : Cond.methodLink RX1 107 yX1_trainsStanding ∈ TB := tb_T (List.mem_append_right _ (List.mem_append_left _ (List.mem_of_getElem? (i := 37) rfl))) rfl
theorem mi_yX1_trainsStanding : Cond.instanceMethod yX1_trainsStanding ∈ TB := tb_T (List.mem_append_right _ (List.mem_append_left _ (List.mem_of_getElem? (i := 38) rfl))) rfl
theorem me_yX1_trainsStanding : Cond.selects RX1 yX1_trainsStanding yX1_trainsStanding ∈ TB := tb_T (List.mem_append_right _ (List.mem_append_left _ (List.mem_of_getElem? (i := 39) rfl))) rfl
theorem mkX1_111 : Cond.methodLink RX1 111 yX5_stands ∈ TB := tb_T (List.mem_append_right _ (List.mem_append_left _ (List.mem_of_getElem? (i := 41) rfl))) rfl
theorem mi_yX5_stands : Cond.instanceMethod yX5_stands ∈ TB := tb_T (List.mem_append_right _ (List.mem_append_left _ (List.mem_of_getElem? (i := 42) rfl))) rfl
theorem me_yX5_stands : Cond.selects RX5 yX5_stands yX5_stands ∈ TB := tb_T (List.mem_append_right _ (List.mem_append_left _ (List.mem_of_getElem? (i := 43) rfl))) rfl
theorem mkL_27 : Cond.methodLink RL 27 yX6_moveTokens ∈ TB := tb_T (List.mem_append_right _ (List.mem_append_left _ (List.mem_of_getElem? (i := 45) rfl))) rfl
theorem mi_yX6_moveTokens : Cond.instanceMethod yX6_moveTokens ∈ TB := tb_T (List.mem_append_right _ (List.mem_append_left _ (List.mem_of_getElem? (i := 46) rfl))) rfl
theorem me_yX6_moveTokens : Cond.selects RX6 yX6_moveTokens yX6_moveTokens ∈ TB := tb_T (List.mem_append_right _ (List.mem_append_left _ (List.mem_of_getElem? (i := 47) rfl))) rfl
theorem mkX6_62 : Cond.methodLink RX6 62 yX4_moveUp ∈ TB := tb_T (List.mem_append_right _ (List.mem_append_left _ (List.mem_of_getElem? (i := 49) rfl))) rfl
theorem mi_yX4_moveUp : Cond.instanceMethod yX4_moveUp ∈ TB := tb_T (List.mem_append_right _ (List.mem_append_left _ (List.mem_of_getElem? (i := 50) rfl))) rfl
theorem me_yX4_moveUp : Cond.selects RX4 yX4_moveUp yX4_moveUp ∈ TB := tb_T (List.mem_append_right _ (List.mem_append_left _ (List.mem_of_getElem? (i := 51) rfl))) rfl
theorem mkL_31 : Cond.methodLink RL 31 yX6_section ∈ TB := tb_T (List.mem_append_right _ (List.mem_append_left _ (List.mem_of_getElem? (i := 53) rfl))) rfl
theorem mi_yX6_section : Cond.instanceMethod yX6_section ∈ TB := tb_T (List.mem_append_right _ (List.mem_append_left _ (List.mem_of_getElem? (i := 54) rfl))) rfl
theorem me_yX6_section : Cond.selects RX6 yX6_section yX6_section ∈ TB := tb_T (List.mem_append_right _ (List.mem_append_left _ (List.mem_of_getElem? (i := 55) rfl))) rfl
theorem mkX6_66 : Cond.methodLink RX6 66 yX4_property ∈ TB := tb_T (List.mem_append_right _ (List.mem_append_left _ (List.mem_of_getElem? (i := 57) rfl))) rfl
theorem mi_yX4_property : Cond.instanceMethod yX4_property ∈ TB := tb_T (List.mem_append_right _ (List.mem_append_left _ (List.mem_of_getElem? (i := 58) rfl))) rfl
theorem me_yX4_property : Cond.selects RX4 yX4_property yX4_property ∈ TB := tb_T (List.mem_append_right _ (List.mem_append_left _ (List.mem_of_getElem? (i := 59) rfl))) rfl
theorem mkL_35 : Cond.methodLink RL 35 yX6_block ∈ TB := tb_T (List.mem_append_right _ (List.mem_append_left _ (List.mem_of_getElem? (i := 61) rfl))) rfl
theorem mi_yX6_block : Cond.instanceMethod yX6_block ∈ TB := tb_T (List.mem_append_right _ (List.mem_append_left _ (List.mem_of_getElem? (i := 62) rfl))) rfl
theorem me_yX6_block : Cond.selects RX6 yX6_block yX6_block ∈ TB := tb_T (List.mem_append_right _ (List.mem_append_left _ (List.mem_of_getElem? (i := 63) rfl))) rfl
theorem mkX6_69 : Cond.methodLink RX6 69 yX1_blockAt ∈ TB := tb_T (List.mem_append_right _ (List.mem_append_left _ (List.mem_of_getElem? (i := 65) rfl))) rfl
theorem mi_yX1_blockAt : Cond.instanceMethod yX1_blockAt ∈ TB := tb_T (List.mem_append_right _ (List.mem_append_left _ (List.mem_of_getElem? (i := 66) rfl))) rfl
theorem me_yX1_blockAt : Cond.selects RX1 yX1_blockAt yX1_blockAt ∈ TB := tb_T (List.mem_append_right _ (List.mem_append_left _ (List.mem_of_getElem? (i := 67) rfl))) rfl
theorem mkX6_73 : Cond.methodLink RX6 73 yX0_property ∈ TB := tb_T (List.mem_append_right _ (List.mem_append_left _ (List.mem_of_getElem? (i := 69) rfl))) rfl
theorem mi_yX0_property : Cond.instanceMethod yX0_property ∈ TB := tb_T (List.mem_append_right _ (List.mem_append_left _ (List.mem_of_getElem? (i := 70) rfl))) rfl
theorem me_yX0_property : Cond.selects RX0 yX0_property yX0_property ∈ TB := tb_T (List.mem_append_right _ (List.mem_append_left _ (List.mem_of_getElem? (i := 71) rfl))) rfl
theorem mkL_39 : Cond.methodLink RL 39 yX6_appear ∈ TB := tb_T (List.mem_append_right _ (List.mem_append_left _ (List.mem_of_getElem? (i := 73) rfl))) rfl
theorem mi_yX6_appear : Cond.instanceMethod yX6_appear ∈ TB := tb_T (List.mem_append_right _ (List.mem_append_left _ (List.mem_of_getElem? (i := 74) rfl))) rfl
theorem me_yX6_appear : Cond.selects RX6 yX6_appear yX6_appear ∈ TB := tb_T (List.mem_append_right _ (List.mem_append_left _ (List.mem_of_getElem? (i := 75) rfl))) rfl
theorem mkX6_76 : Cond.methodLink RX6 76 yX6_isKind ∈ TB := tb_T (List.mem_append_right _ (List.mem_append_left _ (List.mem_of_getElem? (i := 77) rfl))) rfl
theorem ms_yX6_isKind : Cond.static yX6_isKind ∈ TB := tb_T (List.mem_append_right _ (List.mem_append_left _ (List.mem_of_getElem? (i := 78) rfl))) rfl
theorem mkX6_79 : Cond.methodLink RX6 79 yX1_bringNew ∈ TB := tb_T (List.mem_append_right _ (List.mem_append_left _ (List.mem_of_getElem? (i := 80) rfl))) rfl
theorem mi_yX1_bringNew : Cond.instanceMethod yX1_bringNew ∈ TB := tb_T (List.mem_append_right _ (List.mem_append_left _ (List.mem_of_getElem? (i := 81) rfl))) rfl
theorem me_yX1_bringNew : Cond.selects RX1 yX1_bringNew yX1_bringNew ∈ TB := tb_T (List.mem_append_right _ (List.mem_append_left _ (List.mem_of_getElem? (i := 82) rfl))) rfl
theorem mkX1_103 : Cond.methodLink RX1 103 yX1_firstBox ∈ TB := tb_T (List.mem_append_right _ (List.mem_append_left _ (List.mem_of_getElem? (i := 84) rfl))) rfl
theorem mi_yX1_firstBox : Cond.instanceMethod yX1_firstBox ∈ TB := tb_T (List.mem_append_right _ (List.mem_append_left _ (List.mem_of_getElem? (i := 85) rfl))) rfl
theorem me_yX1_firstBox : Cond.selects RX1 yX1_firstBox yX1_firstBox ∈ TB := tb_T (List.mem_append_right _ (List.mem_append_left _ (List.mem_of_getElem? (i := 86) rfl))) rfl
theorem mkX1_145 : Cond.methodLink RX1 145 yX1_isLineFree ∈ TB := tb_T (List.mem_append_right _ (List.mem_append_left _ (List.mem_of_getElem? (i := 88) rfl))) rfl
theorem mi_yX1_isLineFree : Cond.instanceMethod yX1_isLineFree ∈ TB := tb_T (List.mem_append_right _ (List.mem_append_left _ (List.mem_of_getElem? (i := 89) rfl))) rfl
theorem me_yX1_isLineFree : Cond.selects RX1 yX1_isLineFree yX1_isLineFree ∈ TB := tb_T (List.mem_append_right _ (List.mem_append_left _ (List.mem_of_getElem? (i := 90) rfl))) rfl
theorem mkX1_149 : Cond.methodLink RX1 149 yX5_start ∈ TB := tb_T (List.mem_append_right _ (List.mem_append_left _ (List.mem_of_getElem? (i := 92) rfl))) rfl
theorem mi_yX5_start : Cond.instanceMethod yX5_start ∈ TB := tb_T (List.mem_append_right _ (List.mem_append_left _ (List.mem_of_getElem? (i := 93) rfl))) rfl
theorem me_yX5_start : Cond.selects RX5 yX5_start yX5_start ∈ TB := tb_T (List.mem_append_right _ (List.mem_append_left _ (List.mem_of_getElem? (i := 94) rfl))) rfl
theorem mkX5_21 : Cond.methodLink RX5 21 yX5_standAt ∈ TB := tb_T (List.mem_append_right _ (List.mem_append_left _ (List.mem_of_getElem? (i := 96) rfl))) rfl
theorem mi_yX5_standAt : Cond.instanceMethod yX5_standAt ∈ TB := tb_T (List.mem_append_right _ (List.mem_append_left _ (List.mem_of_getElem? (i := 97) rfl))) rfl
theorem me_yX5_standAt : Cond.selects RX5 yX5_standAt yX5_standAt ∈ TB := tb_T (List.mem_append_right _ (List.mem_append_left _ (List.mem_of_getElem? (i := 98) rfl))) rfl
theorem mkL_43 : Cond.methodLink RL 43 yX6_train ∈ TB := tb_T (List.mem_append_right _ (List.mem_append_left _ (List.mem_of_getElem? (i := 100) rfl))) rfl
theorem mi_yX6_train : Cond.instanceMethod yX6_train ∈ TB := tb_T (List.mem_append_right _ (List.mem_append_left _ (List.mem_of_getElem? (i := 101) rfl))) rfl
theorem me_yX6_train : Cond.selects RX6 yX6_train yX6_train ∈ TB := tb_T (List.mem_append_right _ (List.mem_append_left _ (List.mem_of_getElem? (i := 102) rfl))) rfl
theorem mkX6_83 : Cond.methodLink RX6 83 yX1_trainAt ∈ TB := tb_T (List.mem_append_right _ (List.mem_append_left _ (List.mem_of_getElem? (i := 104) rfl))) rfl
theorem mi_yX1_trainAt : Cond.instanceMethod yX1_trainAt ∈ TB := tb_T (List.mem_append_right _ (List.mem_append_left _ (List.mem_of_getElem? (i := 105) rfl))) rfl
theorem me_yX1_trainAt : Cond.selects RX1 yX1_trainAt yX1_trainAt ∈ TB := tb_T (List.mem_append_right _ (List.mem_append_left _ (List.mem_of_getElem? (i := 106) rfl))) rfl
theorem mkX6_87 : Cond.methodLink RX6 87 yX5_property ∈ TB := tb_T (List.mem_append_right _ (List.mem_append_left _ (List.mem_of_getElem? (i := 108) rfl))) rfl
theorem mi_yX5_property : Cond.instanceMethod yX5_property ∈ TB := tb_T (List.mem_append_right _ (List.mem_append_left _ (List.mem_of_getElem? (i := 109) rfl))) rfl
theorem me_yX5_property : Cond.selects RX5 yX5_property yX5_property ∈ TB := tb_T (List.mem_append_right _ (List.mem_append_left _ (List.mem_of_getElem? (i := 110) rfl))) rfl
theorem mkL_47 : Cond.methodLink RL 47 yX6_shunt ∈ TB := tb_T (List.mem_append_right _ (List.mem_append_left _ (List.mem_of_getElem? (i := 112) rfl))) rfl
theorem mi_yX6_shunt : Cond.instanceMethod yX6_shunt ∈ TB := tb_T (List.mem_append_right _ (List.mem_append_left _ (List.mem_of_getElem? (i := 113) rfl))) rfl
theorem me_yX6_shunt : Cond.selects RX6 yX6_shunt yX6_shunt ∈ TB := tb_T (List.mem_append_right _ (List.mem_append_left _ (List.mem_of_getElem? (i := 114) rfl))) rfl
theorem mkX6_90 : Cond.methodLink RX6 90 yX1_shuntTrain ∈ TB := tb_T (List.mem_append_right _ (List.mem_append_left _ (List.mem_of_getElem? (i := 116) rfl))) rfl
theorem mi_yX1_shuntTrain : Cond.instanceMethod yX1_shuntTrain ∈ TB := tb_T (List.mem_append_right _ (List.mem_append_left _ (List.mem_of_getElem? (i := 117) rfl))) rfl
theorem me_yX1_shuntTrain : Cond.selects RX1 yX1_shuntTrain yX1_shuntTrain ∈ TB := tb_T (List.mem_append_right _ (List.mem_append_left _ (List.mem_of_getElem? (i := 118) rfl))) rfl
theorem mkX1_158 : Cond.methodLink RX1 158 yX1_shuntToLoop ∈ TB := tb_T (List.mem_append_right _ (List.mem_append_left _ (List.mem_of_getElem? (i := 120) rfl))) rfl
theorem mi_yX1_shuntToLoop : Cond.instanceMethod yX1_shuntToLoop ∈ TB := tb_T (List.mem_append_right _ (List.mem_append_left _ (List.mem_of_getElem? (i := 122) rfl))) rfl
theorem mkX1_165 : Cond.methodLink RX1 165 yX1_nextBlock ∈ TB := tb_T (List.mem_append_right _ (List.mem_append_left _ (List.mem_of_getElem? (i := 124) rfl))) rfl
theorem mi_yX1_nextBlock : Cond.instanceMethod yX1_nextBlock ∈ TB := tb_T (List.mem_append_right _ (List.mem_append_left _ (List.mem_of_getElem? (i := 125) rfl))) rfl
theorem me_yX1_nextBlock : Cond.selects RX1 yX1_nextBlock yX1_nextBlock ∈ TB := tb_T (List.mem_append_right _ (List.mem_append_left _ (List.mem_of_getElem? (i := 126) rfl))) rfl
theorem mkX1_121 : Cond.methodLink RX1 121 yX1_blockAt ∈ TB := tb_T (List.mem_append_right _ (List.mem_append_left _ (List.mem_of_getElem? (i := 128) rfl))) rfl
theorem mkX1_172 : Cond.methodLink RX1 172 yX1_hasBox ∈ TB := tb_T (List.mem_append_right _ (List.mem_append_left _ (List.mem_of_getElem? (i := 129) rfl))) rfl
theorem mkX1_179 : Cond.methodLink RX1 179 yX5_standAt ∈ TB := tb_T (List.mem_append_right _ (List.mem_append_left _ (List.mem_of_getElem? (i := 131) rfl))) rfl
theorem mkX1_162 : Cond.methodLink RX1 162 yX1_shuntBack ∈ TB := tb_T (List.mem_append_right _ (List.mem_append_left _ (List.mem_of_getElem? (i := 132) rfl))) rfl
theorem mi_yX1_shuntBack : Cond.instanceMethod yX1_shuntBack ∈ TB := tb_T (List.mem_append_right _ (List.mem_append_left _ (List.mem_of_getElem? (i := 134) rfl))) rfl
theorem mkX1_182 : Cond.methodLink RX1 182 yX1_blockTo ∈ TB := tb_T (List.mem_append_right _ (List.mem_append_left _ (List.mem_of_getElem? (i := 136) rfl))) rfl
theorem mi_yX1_blockTo : Cond.instanceMethod yX1_blockTo ∈ TB := tb_T (List.mem_append_right _ (List.mem_append_left _ (List.mem_of_getElem? (i := 137) rfl))) rfl
theorem me_yX1_blockTo : Cond.selects RX1 yX1_blockTo yX1_blockTo ∈ TB := tb_T (List.mem_append_right _ (List.mem_append_left _ (List.mem_of_getElem? (i := 138) rfl))) rfl
theorem mkL_52 : Cond.methodLink RL 52 yX6_leave ∈ TB := tb_T (List.mem_append_right _ (List.mem_append_left _ (List.mem_of_getElem? (i := 140) rfl))) rfl
theorem mi_yX6_leave : Cond.instanceMethod yX6_leave ∈ TB := tb_T (List.mem_append_right _ (List.mem_append_left _ (List.mem_of_getElem? (i := 141) rfl))) rfl
theorem me_yX6_leave : Cond.selects RX6 yX6_leave yX6_leave ∈ TB := tb_T (List.mem_append_right _ (List.mem_append_left _ (List.mem_of_getElem? (i := 142) rfl))) rfl
theorem mkX6_94 : Cond.methodLink RX6 94 yX1_letLeave ∈ TB := tb_T (List.mem_append_right _ (List.mem_append_left _ (List.mem_of_getElem? (i := 144) rfl))) rfl
theorem mi_yX1_letLeave : Cond.instanceMethod yX1_letLeave ∈ TB := tb_T (List.mem_append_right _ (List.mem_append_left _ (List.mem_of_getElem? (i := 145) rfl))) rfl
theorem me_yX1_letLeave : Cond.selects RX1 yX1_letLeave yX1_letLeave ∈ TB := tb_T (List.mem_append_right _ (List.mem_append_left _ (List.mem_of_getElem? (i := 146) rfl))) rfl
theorem mkX1_185 : Cond.methodLink RX1 185 yX1_lastBox ∈ TB := tb_T (List.mem_append_right _ (List.mem_append_left _ (List.mem_of_getElem? (i := 148) rfl))) rfl
theorem mi_yX1_lastBox : Cond.instanceMethod yX1_lastBox ∈ TB := tb_T (List.mem_append_right _ (List.mem_append_left _ (List.mem_of_getElem? (i := 149) rfl))) rfl
theorem me_yX1_lastBox : Cond.selects RX1 yX1_lastBox yX1_lastBox ∈ TB := tb_T (List.mem_append_right _ (List.mem_append_left _ (List.mem_of_getElem? (i := 150) rfl))) rfl
theorem mkX1_188 : Cond.methodLink RX1 188 yX5_go ∈ TB := tb_T (List.mem_append_right _ (List.mem_append_left _ (List.mem_of_getElem? (i := 152) rfl))) rfl
theorem mi_yX5_go : Cond.instanceMethod yX5_go ∈ TB := tb_T (List.mem_append_right _ (List.mem_append_left _ (List.mem_of_getElem? (i := 153) rfl))) rfl
theorem me_yX5_go : Cond.selects RX5 yX5_go yX5_go ∈ TB := tb_T (List.mem_append_right _ (List.mem_append_left _ (List.mem_of_getElem? (i := 154) rfl))) rfl
theorem mkL_56 : Cond.methodLink RL 56 yX6_divide ∈ TB := tb_T (List.mem_append_right _ (List.mem_append_left _ (List.mem_of_getElem? (i := 156) rfl))) rfl
theorem mi_yX6_divide : Cond.instanceMethod yX6_divide ∈ TB := tb_T (List.mem_append_right _ (List.mem_append_left _ (List.mem_of_getElem? (i := 157) rfl))) rfl
theorem me_yX6_divide : Cond.selects RX6 yX6_divide yX6_divide ∈ TB := tb_T (List.mem_append_right _ (List.mem_append_left _ (List.mem_of_getElem? (i := 158) rfl))) rfl
theorem mkX6_97 : Cond.methodLink RX6 97 yX1_divideTrain ∈ TB := tb_T (List.mem_append_right _ (List.mem_append_left _ (List.mem_of_getElem? (i := 160) rfl))) rfl
theorem mi_yX1_divideTrain : Cond.instanceMethod yX1_divideTrain ∈ TB := tb_T (List.mem_append_right _ (List.mem_append_left _ (List.mem_of_getElem? (i := 161) rfl))) rfl
theorem me_yX1_divideTrain : Cond.selects RX1 yX1_divideTrain yX1_divideTrain ∈ TB := tb_T (List.mem_append_right _ (List.mem_append_left _ (List.mem_of_getElem? (i := 162) rfl))) rfl
theorem mkL_60 : Cond.methodLink RL 60 yX6_offer ∈ TB := tb_T (List.mem_append_right _ (List.mem_append_left _ (List.mem_of_getElem? (i := 164) rfl))) rfl
theorem mi_yX6_offer : Cond.instanceMethod yX6_offer ∈ TB := tb_T (List.mem_append_right _ (List.mem_append_left _ (List.mem_of_getElem? (i := 165) rfl))) rfl
theorem me_yX6_offer : Cond.selects RX6 yX6_offer yX6_offer ∈ TB := tb_T (List.mem_append_right _ (List.mem_append_left _ (List.mem_of_getElem? (i := 166) rfl))) rfl
theorem mkX6_100 : Cond.methodLink RX6 100 yX1_offerTrain ∈ TB := tb_T (List.mem_append_right _ (List.mem_append_left _ (List.mem_of_getElem? (i := 168) rfl))) rfl
theorem mi_yX1_offerTrain : Cond.instanceMethod yX1_offerTrain ∈ TB := tb_T (List.mem_append_right _ (List.mem_append_left _ (List.mem_of_getElem? (i := 169) rfl))) rfl
theorem me_yX1_offerTrain : Cond.selects RX1 yX1_offerTrain yX1_offerTrain ∈ TB := tb_T (List.mem_append_right _ (List.mem_append_left _ (List.mem_of_getElem? (i := 170) rfl))) rfl
theorem ms_yX6_offerCode : Cond.static yX6_offerCode ∈ TB := tb_T (List.mem_append_right _ (List.mem_append_left _ (List.mem_of_getElem? (i := 173) rfl))) rfl
theorem mkX1_216 : Cond.methodLink RX1 216 yX1_ringRear ∈ TB := tb_T (List.mem_append_right _ (List.mem_append_left _ (List.mem_of_getElem? (i := 175) rfl))) rfl
theorem mi_yX1_ringRear : Cond.instanceMethod yX1_ringRear ∈ TB := tb_T (List.mem_append_right _ (List.mem_append_left _ (List.mem_of_getElem? (i := 177) rfl))) rfl
theorem mkX1_200 : Cond.methodLink RX1 200 yX0_rearBox ∈ TB := tb_T (List.mem_append_right _ (List.mem_append_left _ (List.mem_of_getElem? (i := 179) rfl))) rfl
theorem mi_yX0_rearBox : Cond.instanceMethod yX0_rearBox ∈ TB := tb_T (List.mem_append_right _ (List.mem_append_left _ (List.mem_of_getElem? (i := 180) rfl))) rfl
theorem me_yX0_rearBox : Cond.selects RX0 yX0_rearBox yX0_rearBox ∈ TB := tb_T (List.mem_append_right _ (List.mem_append_left _ (List.mem_of_getElem? (i := 181) rfl))) rfl
theorem mkX1_203 : Cond.methodLink RX1 203 yX3_record ∈ TB := tb_T (List.mem_append_right _ (List.mem_append_left _ (List.mem_of_getElem? (i := 183) rfl))) rfl
theorem mi_yX3_record : Cond.instanceMethod yX3_record ∈ TB := tb_T (List.mem_append_right _ (List.mem_append_left _ (List.mem_of_getElem? (i := 184) rfl))) rfl
theorem me_yX3_record : Cond.selects RX3 yX3_record yX3_record ∈ TB := tb_T (List.mem_append_right _ (List.mem_append_left _ (List.mem_of_getElem? (i := 185) rfl))) rfl
theorem mkX3_25 : Cond.methodLink RX3 25 yX3_rowOf ∈ TB := tb_T (List.mem_append_right _ (List.mem_append_left _ (List.mem_of_getElem? (i := 187) rfl))) rfl
theorem ms_yX3_rowOf : Cond.static yX3_rowOf ∈ TB := tb_T (List.mem_append_right _ (List.mem_append_left _ (List.mem_of_getElem? (i := 188) rfl))) rfl
theorem knX3_53 : Cond.constant RX3 53 (2147483647) ∈ TB := tb_T (List.mem_append_right _ (List.mem_append_left _ (List.mem_of_getElem? (i := 190) rfl))) rfl
theorem mkL_64 : Cond.methodLink RL 64 yX6_answer ∈ TB := tb_T (List.mem_append_right _ (List.mem_append_left _ (List.mem_of_getElem? (i := 191) rfl))) rfl
theorem mi_yX6_answer : Cond.instanceMethod yX6_answer ∈ TB := tb_T (List.mem_append_right _ (List.mem_append_left _ (List.mem_of_getElem? (i := 192) rfl))) rfl
theorem me_yX6_answer : Cond.selects RX6 yX6_answer yX6_answer ∈ TB := tb_T (List.mem_append_right _ (List.mem_append_left _ (List.mem_of_getElem? (i := 193) rfl))) rfl
theorem mkX6_103 : Cond.methodLink RX6 103 yX1_accept ∈ TB := tb_T (List.mem_append_right _ (List.mem_append_left _ (List.mem_of_getElem? (i := 195) rfl))) rfl
theorem mi_yX1_accept : Cond.instanceMethod yX1_accept ∈ TB := tb_T (List.mem_append_right _ (List.mem_append_left _ (List.mem_of_getElem? (i := 196) rfl))) rfl
theorem me_yX1_accept : Cond.selects RX1 yX1_accept yX1_accept ∈ TB := tb_T (List.mem_append_right _ (List.mem_append_left _ (List.mem_of_getElem? (i := 197) rfl))) rfl
theorem mkX1_96 : Cond.methodLink RX1 96 yX1_trainAt ∈ TB := tb_T (List.mem_append_right _ (List.mem_append_left _ (List.mem_of_getElem? (i := 199) rfl))) rfl
theorem mkX1_207 : Cond.methodLink RX1 207 yX0_boxAhead ∈ TB := tb_T (List.mem_append_right _ (List.mem_append_left _ (List.mem_of_getElem? (i := 200) rfl))) rfl
theorem mi_yX0_boxAhead : Cond.instanceMethod yX0_boxAhead ∈ TB := tb_T (List.mem_append_right _ (List.mem_append_left _ (List.mem_of_getElem? (i := 201) rfl))) rfl
theorem me_yX0_boxAhead : Cond.selects RX0 yX0_boxAhead yX0_boxAhead ∈ TB := tb_T (List.mem_append_right _ (List.mem_append_left _ (List.mem_of_getElem? (i := 202) rfl))) rfl
theorem mkX1_221 : Cond.methodLink RX1 221 yX1_isTokenReady ∈ TB := tb_T (List.mem_append_right _ (List.mem_append_left _ (List.mem_of_getElem? (i := 204) rfl))) rfl
theorem mi_yX1_isTokenReady : Cond.instanceMethod yX1_isTokenReady ∈ TB := tb_T (List.mem_append_right _ (List.mem_append_left _ (List.mem_of_getElem? (i := 206) rfl))) rfl
theorem mkX1_234 : Cond.methodLink RX1 234 yX0_rearEnd ∈ TB := tb_T (List.mem_append_right _ (List.mem_append_left _ (List.mem_of_getElem? (i := 208) rfl))) rfl
theorem mi_yX0_rearEnd : Cond.instanceMethod yX0_rearEnd ∈ TB := tb_T (List.mem_append_right _ (List.mem_append_left _ (List.mem_of_getElem? (i := 209) rfl))) rfl
theorem me_yX0_rearEnd : Cond.selects RX0 yX0_rearEnd yX0_rearEnd ∈ TB := tb_T (List.mem_append_right _ (List.mem_append_left _ (List.mem_of_getElem? (i := 210) rfl))) rfl
theorem mkX1_237 : Cond.methodLink RX1 237 yX4_hasToken ∈ TB := tb_T (List.mem_append_right _ (List.mem_append_left _ (List.mem_of_getElem? (i := 212) rfl))) rfl
theorem mi_yX4_hasToken : Cond.instanceMethod yX4_hasToken ∈ TB := tb_T (List.mem_append_right _ (List.mem_append_left _ (List.mem_of_getElem? (i := 213) rfl))) rfl
theorem me_yX4_hasToken : Cond.selects RX4 yX4_hasToken yX4_hasToken ∈ TB := tb_T (List.mem_append_right _ (List.mem_append_left _ (List.mem_of_getElem? (i := 214) rfl))) rfl
theorem mkX1_225 : Cond.methodLink RX1 225 yX0_makeClear ∈ TB := tb_T (List.mem_append_right _ (List.mem_append_left _ (List.mem_of_getElem? (i := 216) rfl))) rfl
theorem mi_yX0_makeClear : Cond.instanceMethod yX0_makeClear ∈ TB := tb_T (List.mem_append_right _ (List.mem_append_left _ (List.mem_of_getElem? (i := 217) rfl))) rfl
theorem me_yX0_makeClear : Cond.selects RX0 yX0_makeClear yX0_makeClear ∈ TB := tb_T (List.mem_append_right _ (List.mem_append_left _ (List.mem_of_getElem? (i := 218) rfl))) rfl
theorem mkX0_40 : Cond.methodLink RX0 40 yX0_rearEnd ∈ TB := tb_T (List.mem_append_right _ (List.mem_append_left _ (List.mem_of_getElem? (i := 220) rfl))) rfl
theorem mkX0_44 : Cond.methodLink RX0 44 yX4_takeToken ∈ TB := tb_T (List.mem_append_right _ (List.mem_append_left _ (List.mem_of_getElem? (i := 221) rfl))) rfl
theorem mi_yX4_takeToken : Cond.instanceMethod yX4_takeToken ∈ TB := tb_T (List.mem_append_right _ (List.mem_append_left _ (List.mem_of_getElem? (i := 222) rfl))) rfl
theorem me_yX4_takeToken : Cond.selects RX4 yX4_takeToken yX4_takeToken ∈ TB := tb_T (List.mem_append_right _ (List.mem_append_left _ (List.mem_of_getElem? (i := 223) rfl))) rfl
theorem mkX4_31 : Cond.methodLink RX4 31 yX4_addTokens ∈ TB := tb_T (List.mem_append_right _ (List.mem_append_left _ (List.mem_of_getElem? (i := 225) rfl))) rfl
theorem mi_yX4_addTokens : Cond.instanceMethod yX4_addTokens ∈ TB := tb_T (List.mem_append_right _ (List.mem_append_left _ (List.mem_of_getElem? (i := 227) rfl))) rfl
theorem mkX1_228 : Cond.methodLink RX1 228 yX1_ringAhead ∈ TB := tb_T (List.mem_append_right _ (List.mem_append_left _ (List.mem_of_getElem? (i := 229) rfl))) rfl
theorem mi_yX1_ringAhead : Cond.instanceMethod yX1_ringAhead ∈ TB := tb_T (List.mem_append_right _ (List.mem_append_left _ (List.mem_of_getElem? (i := 231) rfl))) rfl
theorem mkX6_107 : Cond.methodLink RX6 107 yX1_refuse ∈ TB := tb_T (List.mem_append_right _ (List.mem_append_left _ (List.mem_of_getElem? (i := 233) rfl))) rfl
theorem mi_yX1_refuse : Cond.instanceMethod yX1_refuse ∈ TB := tb_T (List.mem_append_right _ (List.mem_append_left _ (List.mem_of_getElem? (i := 234) rfl))) rfl
theorem me_yX1_refuse : Cond.selects RX1 yX1_refuse yX1_refuse ∈ TB := tb_T (List.mem_append_right _ (List.mem_append_left _ (List.mem_of_getElem? (i := 235) rfl))) rfl
theorem mkL_69 : Cond.methodLink RL 69 yX6_cancel ∈ TB := tb_T (List.mem_append_right _ (List.mem_append_left _ (List.mem_of_getElem? (i := 237) rfl))) rfl
theorem mi_yX6_cancel : Cond.instanceMethod yX6_cancel ∈ TB := tb_T (List.mem_append_right _ (List.mem_append_left _ (List.mem_of_getElem? (i := 238) rfl))) rfl
theorem me_yX6_cancel : Cond.selects RX6 yX6_cancel yX6_cancel ∈ TB := tb_T (List.mem_append_right _ (List.mem_append_left _ (List.mem_of_getElem? (i := 239) rfl))) rfl
theorem mkX6_110 : Cond.methodLink RX6 110 yX1_cancelBlock ∈ TB := tb_T (List.mem_append_right _ (List.mem_append_right _ (List.mem_append_left _ (List.mem_of_getElem? (i := 1) rfl)))) rfl
theorem mi_yX1_cancelBlock : Cond.instanceMethod yX1_cancelBlock ∈ TB := tb_T (List.mem_append_right _ (List.mem_append_right _ (List.mem_append_left _ (List.mem_of_getElem? (i := 2) rfl)))) rfl
theorem me_yX1_cancelBlock : Cond.selects RX1 yX1_cancelBlock yX1_cancelBlock ∈ TB := tb_T (List.mem_append_right _ (List.mem_append_right _ (List.mem_append_left _ (List.mem_of_getElem? (i := 3) rfl)))) rfl
theorem mkX1_240 : Cond.methodLink RX1 240 yX0_takeBack ∈ TB := tb_T (List.mem_append_right _ (List.mem_append_right _ (List.mem_append_left _ (List.mem_of_getElem? (i := 5) rfl)))) rfl
theorem mi_yX0_takeBack : Cond.instanceMethod yX0_takeBack ∈ TB := tb_T (List.mem_append_right _ (List.mem_append_right _ (List.mem_append_left _ (List.mem_of_getElem? (i := 6) rfl)))) rfl
theorem me_yX0_takeBack : Cond.selects RX0 yX0_takeBack yX0_takeBack ∈ TB := tb_T (List.mem_append_right _ (List.mem_append_right _ (List.mem_append_left _ (List.mem_of_getElem? (i := 7) rfl)))) rfl
theorem mkX0_48 : Cond.methodLink RX0 48 yX4_putToken ∈ TB := tb_T (List.mem_append_right _ (List.mem_append_right _ (List.mem_append_left _ (List.mem_of_getElem? (i := 9) rfl)))) rfl
theorem mi_yX4_putToken : Cond.instanceMethod yX4_putToken ∈ TB := tb_T (List.mem_append_right _ (List.mem_append_right _ (List.mem_append_left _ (List.mem_of_getElem? (i := 10) rfl)))) rfl
theorem me_yX4_putToken : Cond.selects RX4 yX4_putToken yX4_putToken ∈ TB := tb_T (List.mem_append_right _ (List.mem_append_right _ (List.mem_append_left _ (List.mem_of_getElem? (i := 11) rfl)))) rfl
theorem mkL_73 : Cond.methodLink RL 73 yX6_depart ∈ TB := tb_T (List.mem_append_right _ (List.mem_append_right _ (List.mem_append_left _ (List.mem_of_getElem? (i := 13) rfl)))) rfl
theorem mi_yX6_depart : Cond.instanceMethod yX6_depart ∈ TB := tb_T (List.mem_append_right _ (List.mem_append_right _ (List.mem_append_left _ (List.mem_of_getElem? (i := 14) rfl)))) rfl
theorem me_yX6_depart : Cond.selects RX6 yX6_depart yX6_depart ∈ TB := tb_T (List.mem_append_right _ (List.mem_append_right _ (List.mem_append_left _ (List.mem_of_getElem? (i := 15) rfl)))) rfl
theorem mkX6_113 : Cond.methodLink RX6 113 yX1_letDepart ∈ TB := tb_T (List.mem_append_right _ (List.mem_append_right _ (List.mem_append_left _ (List.mem_of_getElem? (i := 17) rfl)))) rfl
theorem mi_yX1_letDepart : Cond.instanceMethod yX1_letDepart ∈ TB := tb_T (List.mem_append_right _ (List.mem_append_right _ (List.mem_append_left _ (List.mem_of_getElem? (i := 18) rfl)))) rfl
theorem me_yX1_letDepart : Cond.selects RX1 yX1_letDepart yX1_letDepart ∈ TB := tb_T (List.mem_append_right _ (List.mem_append_right _ (List.mem_append_left _ (List.mem_of_getElem? (i := 19) rfl)))) rfl
theorem mkX1_243 : Cond.methodLink RX1 243 yX5_enter ∈ TB := tb_T (List.mem_append_right _ (List.mem_append_right _ (List.mem_append_left _ (List.mem_of_getElem? (i := 21) rfl)))) rfl
theorem mi_yX5_enter : Cond.instanceMethod yX5_enter ∈ TB := tb_T (List.mem_append_right _ (List.mem_append_right _ (List.mem_append_left _ (List.mem_of_getElem? (i := 22) rfl)))) rfl
theorem me_yX5_enter : Cond.selects RX5 yX5_enter yX5_enter ∈ TB := tb_T (List.mem_append_right _ (List.mem_append_right _ (List.mem_append_left _ (List.mem_of_getElem? (i := 23) rfl)))) rfl
theorem mkL_77 : Cond.methodLink RL 77 yX6_admit ∈ TB := tb_T (List.mem_append_right _ (List.mem_append_right _ (List.mem_append_left _ (List.mem_of_getElem? (i := 25) rfl)))) rfl
theorem mi_yX6_admit : Cond.instanceMethod yX6_admit ∈ TB := tb_T (List.mem_append_right _ (List.mem_append_right _ (List.mem_append_left _ (List.mem_of_getElem? (i := 26) rfl)))) rfl
theorem me_yX6_admit : Cond.selects RX6 yX6_admit yX6_admit ∈ TB := tb_T (List.mem_append_right _ (List.mem_append_right _ (List.mem_append_left _ (List.mem_of_getElem? (i := 27) rfl)))) rfl
theorem mkX6_116 : Cond.methodLink RX6 116 yX1_admitTrain ∈ TB := tb_T (List.mem_append_right _ (List.mem_append_right _ (List.mem_append_left _ (List.mem_of_getElem? (i := 29) rfl)))) rfl
theorem mi_yX1_admitTrain : Cond.instanceMethod yX1_admitTrain ∈ TB := tb_T (List.mem_append_right _ (List.mem_append_right _ (List.mem_append_left _ (List.mem_of_getElem? (i := 30) rfl)))) rfl
theorem me_yX1_admitTrain : Cond.selects RX1 yX1_admitTrain yX1_admitTrain ∈ TB := tb_T (List.mem_append_right _ (List.mem_append_right _ (List.mem_append_left _ (List.mem_of_getElem? (i := 31) rfl)))) rfl
theorem mkX1_249 : Cond.methodLink RX1 249 yX1_trainInside ∈ TB := tb_T (List.mem_append_right _ (List.mem_append_right _ (List.mem_append_left _ (List.mem_of_getElem? (i := 33) rfl)))) rfl
theorem mi_yX1_trainInside : Cond.instanceMethod yX1_trainInside ∈ TB := tb_T (List.mem_append_right _ (List.mem_append_right _ (List.mem_append_left _ (List.mem_of_getElem? (i := 34) rfl)))) rfl
theorem me_yX1_trainInside : Cond.selects RX1 yX1_trainInside yX1_trainInside ∈ TB := tb_T (List.mem_append_right _ (List.mem_append_right _ (List.mem_append_left _ (List.mem_of_getElem? (i := 35) rfl)))) rfl
theorem mkL_81 : Cond.methodLink RL 81 yX6_out ∈ TB := tb_T (List.mem_append_right _ (List.mem_append_right _ (List.mem_append_left _ (List.mem_of_getElem? (i := 37) rfl)))) rfl
theorem mi_yX6_out : Cond.instanceMethod yX6_out ∈ TB := tb_T (List.mem_append_right _ (List.mem_append_right _ (List.mem_append_left _ (List.mem_of_getElem? (i := 38) rfl)))) rfl
theorem me_yX6_out : Cond.selects RX6 yX6_out yX6_out ∈ TB := tb_T (List.mem_append_right _ (List.mem_append_right _ (List.mem_append_left _ (List.mem_of_getElem? (i := 39) rfl)))) rfl
theorem mkX6_119 : Cond.methodLink RX6 119 yX1_reportOut ∈ TB := tb_T (List.mem_append_right _ (List.mem_append_right _ (List.mem_append_left _ (List.mem_of_getElem? (i := 41) rfl)))) rfl
theorem mi_yX1_reportOut : Cond.instanceMethod yX1_reportOut ∈ TB := tb_T (List.mem_append_right _ (List.mem_append_right _ (List.mem_append_left _ (List.mem_of_getElem? (i := 42) rfl)))) rfl
theorem me_yX1_reportOut : Cond.selects RX1 yX1_reportOut yX1_reportOut ∈ TB := tb_T (List.mem_append_right _ (List.mem_append_right _ (List.mem_append_left _ (List.mem_of_getElem? (i := 43) rfl)))) rfl
theorem mkX1_253 : Cond.methodLink RX1 253 yX0_makeFree ∈ TB := tb_T (List.mem_append_right _ (List.mem_append_right _ (List.mem_append_left _ (List.mem_of_getElem? (i := 45) rfl)))) rfl
theorem mi_yX0_makeFree : Cond.instanceMethod yX0_makeFree ∈ TB := tb_T (List.mem_append_right _ (List.mem_append_right _ (List.mem_append_left _ (List.mem_of_getElem? (i := 46) rfl)))) rfl
theorem me_yX0_makeFree : Cond.selects RX0 yX0_makeFree yX0_makeFree ∈ TB := tb_T (List.mem_append_right _ (List.mem_append_right _ (List.mem_append_left _ (List.mem_of_getElem? (i := 47) rfl)))) rfl
theorem mkX0_51 : Cond.methodLink RX0 51 yX0_endAhead ∈ TB := tb_T (List.mem_append_right _ (List.mem_append_right _ (List.mem_append_left _ (List.mem_of_getElem? (i := 49) rfl)))) rfl
theorem mi_yX0_endAhead : Cond.instanceMethod yX0_endAhead ∈ TB := tb_T (List.mem_append_right _ (List.mem_append_right _ (List.mem_append_left _ (List.mem_of_getElem? (i := 50) rfl)))) rfl
theorem me_yX0_endAhead : Cond.selects RX0 yX0_endAhead yX0_endAhead ∈ TB := tb_T (List.mem_append_right _ (List.mem_append_right _ (List.mem_append_left _ (List.mem_of_getElem? (i := 51) rfl)))) rfl
theorem mkL_85 : Cond.methodLink RL 85 yX6_assist ∈ TB := tb_T (List.mem_append_right _ (List.mem_append_right _ (List.mem_append_left _ (List.mem_of_getElem? (i := 53) rfl)))) rfl
theorem mi_yX6_assist : Cond.instanceMethod yX6_assist ∈ TB := tb_T (List.mem_append_right _ (List.mem_append_right _ (List.mem_append_left _ (List.mem_of_getElem? (i := 54) rfl)))) rfl
theorem me_yX6_assist : Cond.selects RX6 yX6_assist yX6_assist ∈ TB := tb_T (List.mem_append_right _ (List.mem_append_right _ (List.mem_append_left _ (List.mem_of_getElem? (i := 55) rfl)))) rfl
theorem mkX6_122 : Cond.methodLink RX6 122 yX1_sendEngine ∈ TB := tb_T (List.mem_append_right _ (List.mem_append_right _ (List.mem_append_left _ (List.mem_of_getElem? (i := 57) rfl)))) rfl
theorem mi_yX1_sendEngine : Cond.instanceMethod yX1_sendEngine ∈ TB := tb_T (List.mem_append_right _ (List.mem_append_right _ (List.mem_append_left _ (List.mem_of_getElem? (i := 58) rfl)))) rfl
theorem me_yX1_sendEngine : Cond.selects RX1 yX1_sendEngine yX1_sendEngine ∈ TB := tb_T (List.mem_append_right _ (List.mem_append_right _ (List.mem_append_left _ (List.mem_of_getElem? (i := 59) rfl)))) rfl
theorem mkL_89 : Cond.methodLink RL 89 yX6_obstruct ∈ TB := tb_T (List.mem_append_right _ (List.mem_append_right _ (List.mem_append_left _ (List.mem_of_getElem? (i := 61) rfl)))) rfl
theorem mi_yX6_obstruct : Cond.instanceMethod yX6_obstruct ∈ TB := tb_T (List.mem_append_right _ (List.mem_append_right _ (List.mem_append_left _ (List.mem_of_getElem? (i := 62) rfl)))) rfl
theorem me_yX6_obstruct : Cond.selects RX6 yX6_obstruct yX6_obstruct ∈ TB := tb_T (List.mem_append_right _ (List.mem_append_right _ (List.mem_append_left _ (List.mem_of_getElem? (i := 63) rfl)))) rfl
theorem mkX6_125 : Cond.methodLink RX6 125 yX1_obstructBlock ∈ TB := tb_T (List.mem_append_right _ (List.mem_append_right _ (List.mem_append_left _ (List.mem_of_getElem? (i := 65) rfl)))) rfl
theorem mi_yX1_obstructBlock : Cond.instanceMethod yX1_obstructBlock ∈ TB := tb_T (List.mem_append_right _ (List.mem_append_right _ (List.mem_append_left _ (List.mem_of_getElem? (i := 66) rfl)))) rfl
theorem me_yX1_obstructBlock : Cond.selects RX1 yX1_obstructBlock yX1_obstructBlock ∈ TB := tb_T (List.mem_append_right _ (List.mem_append_right _ (List.mem_append_left _ (List.mem_of_getElem? (i := 67) rfl)))) rfl
theorem mkL_93 : Cond.methodLink RL 93 yX6_lift ∈ TB := tb_T (List.mem_append_right _ (List.mem_append_right _ (List.mem_append_left _ (List.mem_of_getElem? (i := 69) rfl)))) rfl
theorem mi_yX6_lift : Cond.instanceMethod yX6_lift ∈ TB := tb_T (List.mem_append_right _ (List.mem_append_right _ (List.mem_append_left _ (List.mem_of_getElem? (i := 70) rfl)))) rfl
theorem me_yX6_lift : Cond.selects RX6 yX6_lift yX6_lift ∈ TB := tb_T (List.mem_append_right _ (List.mem_append_right _ (List.mem_append_left _ (List.mem_of_getElem? (i := 71) rfl)))) rfl
theorem mkX6_128 : Cond.methodLink RX6 128 yX1_liftBlock ∈ TB := tb_T (List.mem_append_right _ (List.mem_append_right _ (List.mem_append_left _ (List.mem_of_getElem? (i := 73) rfl)))) rfl
theorem mi_yX1_liftBlock : Cond.instanceMethod yX1_liftBlock ∈ TB := tb_T (List.mem_append_right _ (List.mem_append_right _ (List.mem_append_left _ (List.mem_of_getElem? (i := 74) rfl)))) rfl
theorem me_yX1_liftBlock : Cond.selects RX1 yX1_liftBlock yX1_liftBlock ∈ TB := tb_T (List.mem_append_right _ (List.mem_append_right _ (List.mem_append_left _ (List.mem_of_getElem? (i := 75) rfl)))) rfl
theorem mkL_97 : Cond.methodLink RL 97 yX6_pass ∈ TB := tb_T (List.mem_append_right _ (List.mem_append_right _ (List.mem_append_left _ (List.mem_of_getElem? (i := 77) rfl)))) rfl
theorem mi_yX6_pass : Cond.instanceMethod yX6_pass ∈ TB := tb_T (List.mem_append_right _ (List.mem_append_right _ (List.mem_append_left _ (List.mem_of_getElem? (i := 78) rfl)))) rfl
theorem me_yX6_pass : Cond.selects RX6 yX6_pass yX6_pass ∈ TB := tb_T (List.mem_append_right _ (List.mem_append_right _ (List.mem_append_left _ (List.mem_of_getElem? (i := 79) rfl)))) rfl
theorem knX6_134 : Cond.constant RX6 134 (1000000) ∈ TB := tb_T (List.mem_append_right _ (List.mem_append_right _ (List.mem_append_left _ (List.mem_of_getElem? (i := 81) rfl)))) rfl
theorem mkX6_135 : Cond.methodLink RX6 135 yX1_letPass ∈ TB := tb_T (List.mem_append_right _ (List.mem_append_right _ (List.mem_append_left _ (List.mem_of_getElem? (i := 82) rfl)))) rfl
theorem mi_yX1_letPass : Cond.instanceMethod yX1_letPass ∈ TB := tb_T (List.mem_append_right _ (List.mem_append_right _ (List.mem_append_left _ (List.mem_of_getElem? (i := 83) rfl)))) rfl
theorem me_yX1_letPass : Cond.selects RX1 yX1_letPass yX1_letPass ∈ TB := tb_T (List.mem_append_right _ (List.mem_append_right _ (List.mem_append_left _ (List.mem_of_getElem? (i := 84) rfl)))) rfl
theorem mkX1_262 : Cond.methodLink RX1 262 yX5_letPass ∈ TB := tb_T (List.mem_append_right _ (List.mem_append_right _ (List.mem_append_left _ (List.mem_of_getElem? (i := 86) rfl)))) rfl
theorem mi_yX5_letPass : Cond.instanceMethod yX5_letPass ∈ TB := tb_T (List.mem_append_right _ (List.mem_append_right _ (List.mem_append_left _ (List.mem_of_getElem? (i := 87) rfl)))) rfl
theorem me_yX5_letPass : Cond.selects RX5 yX5_letPass yX5_letPass ∈ TB := tb_T (List.mem_append_right _ (List.mem_append_right _ (List.mem_append_left _ (List.mem_of_getElem? (i := 88) rfl)))) rfl
theorem mkX5_50 : Cond.methodLink RX5 50 Lib.Math.max.name ∈ TB := tb_T (List.mem_append_right _ (List.mem_append_right _ (List.mem_append_left _ (List.mem_of_getElem? (i := 90) rfl)))) rfl
theorem ms_Lib_Math_max_name : Cond.static Lib.Math.max.name ∈ TB := tb_T (List.mem_append_right _ (List.mem_append_right _ (List.mem_append_left _ (List.mem_of_getElem? (i := 91) rfl)))) rfl
theorem mkX1_138 : Cond.methodLink RX1 138 yX1_blockCount ∈ TB := tb_T (List.mem_append_right _ (List.mem_append_right _ (List.mem_append_left _ (List.mem_of_getElem? (i := 93) rfl)))) rfl
theorem mi_yX1_blockCount : Cond.instanceMethod yX1_blockCount ∈ TB := tb_T (List.mem_append_right _ (List.mem_append_right _ (List.mem_append_left _ (List.mem_of_getElem? (i := 94) rfl)))) rfl
theorem me_yX1_blockCount : Cond.selects RX1 yX1_blockCount yX1_blockCount ∈ TB := tb_T (List.mem_append_right _ (List.mem_append_right _ (List.mem_append_left _ (List.mem_of_getElem? (i := 95) rfl)))) rfl
theorem mkX1_265 : Cond.methodLink RX1 265 yX0_letPass ∈ TB := tb_T (List.mem_append_right _ (List.mem_append_right _ (List.mem_append_left _ (List.mem_of_getElem? (i := 97) rfl)))) rfl
theorem mi_yX0_letPass : Cond.instanceMethod yX0_letPass ∈ TB := tb_T (List.mem_append_right _ (List.mem_append_right _ (List.mem_append_left _ (List.mem_of_getElem? (i := 98) rfl)))) rfl
theorem me_yX0_letPass : Cond.selects RX0 yX0_letPass yX0_letPass ∈ TB := tb_T (List.mem_append_right _ (List.mem_append_right _ (List.mem_append_left _ (List.mem_of_getElem? (i := 99) rfl)))) rfl
theorem mkX0_54 : Cond.methodLink RX0 54 Lib.Math.max.name ∈ TB := tb_T (List.mem_append_right _ (List.mem_append_right _ (List.mem_append_left _ (List.mem_of_getElem? (i := 101) rfl)))) rfl
theorem mkL_101 : Cond.methodLink RL 101 yX6_signal ∈ TB := tb_T (List.mem_append_right _ (List.mem_append_right _ (List.mem_append_left _ (List.mem_of_getElem? (i := 102) rfl)))) rfl
theorem mi_yX6_signal : Cond.instanceMethod yX6_signal ∈ TB := tb_T (List.mem_append_right _ (List.mem_append_right _ (List.mem_append_left _ (List.mem_of_getElem? (i := 103) rfl)))) rfl
theorem me_yX6_signal : Cond.selects RX6 yX6_signal yX6_signal ∈ TB := tb_T (List.mem_append_right _ (List.mem_append_right _ (List.mem_append_left _ (List.mem_of_getElem? (i := 104) rfl)))) rfl
theorem mkX6_143 : Cond.methodLink RX6 143 yX3_property ∈ TB := tb_T (List.mem_append_right _ (List.mem_append_right _ (List.mem_append_left _ (List.mem_of_getElem? (i := 106) rfl)))) rfl
theorem mi_yX3_property : Cond.instanceMethod yX3_property ∈ TB := tb_T (List.mem_append_right _ (List.mem_append_right _ (List.mem_append_left _ (List.mem_of_getElem? (i := 107) rfl)))) rfl
theorem me_yX3_property : Cond.selects RX3 yX3_property yX3_property ∈ TB := tb_T (List.mem_append_right _ (List.mem_append_right _ (List.mem_append_left _ (List.mem_of_getElem? (i := 108) rfl)))) rfl
theorem mkX3_43 : Cond.methodLink RX3 43 yX3_oldest ∈ TB := tb_T (List.mem_append_right _ (List.mem_append_right _ (List.mem_append_left _ (List.mem_of_getElem? (i := 110) rfl)))) rfl
theorem mi_yX3_oldest : Cond.instanceMethod yX3_oldest ∈ TB := tb_T (List.mem_append_right _ (List.mem_append_right _ (List.mem_append_left _ (List.mem_of_getElem? (i := 112) rfl)))) rfl
theorem mkX3_47 : Cond.methodLink RX3 47 Lib.Math.max.name ∈ TB := tb_T (List.mem_append_right _ (List.mem_append_right _ (List.mem_append_left _ (List.mem_of_getElem? (i := 114) rfl)))) rfl
theorem mkL_105 : Cond.methodLink RL 105 yX6_rung ∈ TB := tb_T (List.mem_append_right _ (List.mem_append_right _ (List.mem_append_left _ (List.mem_of_getElem? (i := 115) rfl)))) rfl
theorem mi_yX6_rung : Cond.instanceMethod yX6_rung ∈ TB := tb_T (List.mem_append_right _ (List.mem_append_right _ (List.mem_append_left _ (List.mem_of_getElem? (i := 116) rfl)))) rfl
theorem me_yX6_rung : Cond.selects RX6 yX6_rung yX6_rung ∈ TB := tb_T (List.mem_append_right _ (List.mem_append_right _ (List.mem_append_left _ (List.mem_of_getElem? (i := 117) rfl)))) rfl
theorem mkX6_147 : Cond.methodLink RX6 147 yX3_countOf ∈ TB := tb_T (List.mem_append_right _ (List.mem_append_right _ (List.mem_append_left _ (List.mem_of_getElem? (i := 119) rfl)))) rfl
theorem mi_yX3_countOf : Cond.instanceMethod yX3_countOf ∈ TB := tb_T (List.mem_append_right _ (List.mem_append_right _ (List.mem_append_left _ (List.mem_of_getElem? (i := 120) rfl)))) rfl
theorem me_yX3_countOf : Cond.selects RX3 yX3_countOf yX3_countOf ∈ TB := tb_T (List.mem_append_right _ (List.mem_append_right _ (List.mem_append_left _ (List.mem_of_getElem? (i := 121) rfl)))) rfl
theorem mkL_109 : Cond.methodLink RL 109 yX6_work ∈ TB := tb_T (List.mem_append_right _ (List.mem_append_right _ (List.mem_append_left _ (List.mem_of_getElem? (i := 123) rfl)))) rfl
theorem mi_yX6_work : Cond.instanceMethod yX6_work ∈ TB := tb_T (List.mem_append_right _ (List.mem_append_right _ (List.mem_append_left _ (List.mem_of_getElem? (i := 124) rfl)))) rfl
theorem me_yX6_work : Cond.selects RX6 yX6_work yX6_work ∈ TB := tb_T (List.mem_append_right _ (List.mem_append_right _ (List.mem_append_left _ (List.mem_of_getElem? (i := 125) rfl)))) rfl
theorem mkX6_150 : Cond.methodLink RX6 150 yX1_workTick ∈ TB := tb_T (List.mem_append_right _ (List.mem_append_right _ (List.mem_append_left _ (List.mem_of_getElem? (i := 127) rfl)))) rfl
theorem mi_yX1_workTick : Cond.instanceMethod yX1_workTick ∈ TB := tb_T (List.mem_append_right _ (List.mem_append_right _ (List.mem_append_left _ (List.mem_of_getElem? (i := 128) rfl)))) rfl
theorem me_yX1_workTick : Cond.selects RX1 yX1_workTick yX1_workTick ∈ TB := tb_T (List.mem_append_right _ (List.mem_append_right _ (List.mem_append_left _ (List.mem_of_getElem? (i := 129) rfl)))) rfl
theorem mkX1_266 : Cond.methodLink RX1 266 yX1_clearSections ∈ TB := tb_T (List.mem_append_right _ (List.mem_append_right _ (List.mem_append_left _ (List.mem_of_getElem? (i := 131) rfl)))) rfl
theorem mi_yX1_clearSections : Cond.instanceMethod yX1_clearSections ∈ TB := tb_T (List.mem_append_right _ (List.mem_append_right _ (List.mem_append_left _ (List.mem_of_getElem? (i := 133) rfl)))) rfl
theorem mkX1_282 : Cond.methodLink RX1 282 yX1_reportOut ∈ TB := tb_T (List.mem_append_right _ (List.mem_append_right _ (List.mem_append_left _ (List.mem_of_getElem? (i := 135) rfl)))) rfl
theorem mkX1_286 : Cond.methodLink RX1 286 yX1_sendEngine ∈ TB := tb_T (List.mem_append_right _ (List.mem_append_right _ (List.mem_append_left _ (List.mem_of_getElem? (i := 136) rfl)))) rfl
theorem mkX1_289 : Cond.methodLink RX1 289 yX1_admitTrain ∈ TB := tb_T (List.mem_append_right _ (List.mem_append_right _ (List.mem_append_left _ (List.mem_of_getElem? (i := 137) rfl)))) rfl
theorem mkX1_269 : Cond.methodLink RX1 269 yX1_leaveAll ∈ TB := tb_T (List.mem_append_right _ (List.mem_append_right _ (List.mem_append_left _ (List.mem_of_getElem? (i := 138) rfl)))) rfl
theorem mi_yX1_leaveAll : Cond.instanceMethod yX1_leaveAll ∈ TB := tb_T (List.mem_append_right _ (List.mem_append_right _ (List.mem_append_left _ (List.mem_of_getElem? (i := 140) rfl)))) rfl
theorem mkX1_292 : Cond.methodLink RX1 292 yX1_letLeave ∈ TB := tb_T (List.mem_append_right _ (List.mem_append_right _ (List.mem_append_left _ (List.mem_of_getElem? (i := 142) rfl)))) rfl
theorem mkX1_272 : Cond.methodLink RX1 272 yX1_offerAll ∈ TB := tb_T (List.mem_append_right _ (List.mem_append_right _ (List.mem_append_left _ (List.mem_of_getElem? (i := 143) rfl)))) rfl
theorem mi_yX1_offerAll : Cond.instanceMethod yX1_offerAll ∈ TB := tb_T (List.mem_append_right _ (List.mem_append_right _ (List.mem_append_left _ (List.mem_of_getElem? (i := 145) rfl)))) rfl
theorem mkX1_295 : Cond.methodLink RX1 295 yX1_offerTrain ∈ TB := tb_T (List.mem_append_right _ (List.mem_append_right _ (List.mem_append_left _ (List.mem_of_getElem? (i := 147) rfl)))) rfl
theorem mkX1_275 : Cond.methodLink RX1 275 yX1_answerAll ∈ TB := tb_T (List.mem_append_right _ (List.mem_append_right _ (List.mem_append_left _ (List.mem_of_getElem? (i := 148) rfl)))) rfl
theorem mi_yX1_answerAll : Cond.instanceMethod yX1_answerAll ∈ TB := tb_T (List.mem_append_right _ (List.mem_append_right _ (List.mem_append_left _ (List.mem_of_getElem? (i := 150) rfl)))) rfl
theorem mkX1_298 : Cond.methodLink RX1 298 yX1_accept ∈ TB := tb_T (List.mem_append_right _ (List.mem_append_right _ (List.mem_append_left _ (List.mem_of_getElem? (i := 152) rfl)))) rfl
theorem mkX1_301 : Cond.methodLink RX1 301 yX1_refuse ∈ TB := tb_T (List.mem_append_right _ (List.mem_append_right _ (List.mem_append_left _ (List.mem_of_getElem? (i := 153) rfl)))) rfl
theorem mkX1_278 : Cond.methodLink RX1 278 yX1_departAll ∈ TB := tb_T (List.mem_append_right _ (List.mem_append_right _ (List.mem_append_left _ (List.mem_of_getElem? (i := 154) rfl)))) rfl
theorem mi_yX1_departAll : Cond.instanceMethod yX1_departAll ∈ TB := tb_T (List.mem_append_right _ (List.mem_append_right _ (List.mem_append_left _ (List.mem_of_getElem? (i := 156) rfl)))) rfl
theorem mkX1_304 : Cond.methodLink RX1 304 yX1_letDepart ∈ TB := tb_T (List.mem_append_right _ (List.mem_append_right _ (List.mem_append_left _ (List.mem_of_getElem? (i := 158) rfl)))) rfl
theorem mkX1_281 : Cond.methodLink RX1 281 yX1_letPass ∈ TB := tb_T (List.mem_append_right _ (List.mem_append_right _ (List.mem_append_left _ (List.mem_of_getElem? (i := 159) rfl)))) rfl
theorem mkL_113 : Cond.methodLink RL 113 yX6_forecast ∈ TB := tb_T (List.mem_append_right _ (List.mem_append_right _ (List.mem_append_left _ (List.mem_of_getElem? (i := 160) rfl)))) rfl
theorem mi_yX6_forecast : Cond.instanceMethod yX6_forecast ∈ TB := tb_T (List.mem_append_right _ (List.mem_append_right _ (List.mem_append_left _ (List.mem_of_getElem? (i := 161) rfl)))) rfl
theorem me_yX6_forecast : Cond.selects RX6 yX6_forecast yX6_forecast ∈ TB := tb_T (List.mem_append_right _ (List.mem_append_right _ (List.mem_append_left _ (List.mem_of_getElem? (i := 162) rfl)))) rfl
theorem mkX6_154 : Cond.methodLink RX6 154 yX1_copyFrom ∈ TB := tb_T (List.mem_append_right _ (List.mem_append_right _ (List.mem_append_left _ (List.mem_of_getElem? (i := 164) rfl)))) rfl
theorem mi_yX1_copyFrom : Cond.instanceMethod yX1_copyFrom ∈ TB := tb_T (List.mem_append_right _ (List.mem_append_right _ (List.mem_append_left _ (List.mem_of_getElem? (i := 165) rfl)))) rfl
theorem me_yX1_copyFrom : Cond.selects RX1 yX1_copyFrom yX1_copyFrom ∈ TB := tb_T (List.mem_append_right _ (List.mem_append_right _ (List.mem_append_left _ (List.mem_of_getElem? (i := 166) rfl)))) rfl
theorem mkX1_77 : Cond.methodLink RX1 77 yX4_copyFrom ∈ TB := tb_T (List.mem_append_right _ (List.mem_append_right _ (List.mem_append_left _ (List.mem_of_getElem? (i := 168) rfl)))) rfl
theorem mi_yX4_copyFrom : Cond.instanceMethod yX4_copyFrom ∈ TB := tb_T (List.mem_append_right _ (List.mem_append_right _ (List.mem_append_left _ (List.mem_of_getElem? (i := 169) rfl)))) rfl
theorem me_yX4_copyFrom : Cond.selects RX4 yX4_copyFrom yX4_copyFrom ∈ TB := tb_T (List.mem_append_right _ (List.mem_append_right _ (List.mem_append_left _ (List.mem_of_getElem? (i := 170) rfl)))) rfl
theorem mkX1_81 : Cond.methodLink RX1 81 yX0_copyFrom ∈ TB := tb_T (List.mem_append_right _ (List.mem_append_right _ (List.mem_append_left _ (List.mem_of_getElem? (i := 172) rfl)))) rfl
theorem mi_yX0_copyFrom : Cond.instanceMethod yX0_copyFrom ∈ TB := tb_T (List.mem_append_right _ (List.mem_append_right _ (List.mem_append_left _ (List.mem_of_getElem? (i := 173) rfl)))) rfl
theorem me_yX0_copyFrom : Cond.selects RX0 yX0_copyFrom yX0_copyFrom ∈ TB := tb_T (List.mem_append_right _ (List.mem_append_right _ (List.mem_append_left _ (List.mem_of_getElem? (i := 174) rfl)))) rfl
theorem mkX1_84 : Cond.methodLink RX1 84 yX5_copyFrom ∈ TB := tb_T (List.mem_append_right _ (List.mem_append_right _ (List.mem_append_left _ (List.mem_of_getElem? (i := 176) rfl)))) rfl
theorem mi_yX5_copyFrom : Cond.instanceMethod yX5_copyFrom ∈ TB := tb_T (List.mem_append_right _ (List.mem_append_right _ (List.mem_append_left _ (List.mem_of_getElem? (i := 177) rfl)))) rfl
theorem me_yX5_copyFrom : Cond.selects RX5 yX5_copyFrom yX5_copyFrom ∈ TB := tb_T (List.mem_append_right _ (List.mem_append_right _ (List.mem_append_left _ (List.mem_of_getElem? (i := 178) rfl)))) rfl
theorem mkX1_87 : Cond.methodLink RX1 87 arraycopyName ∈ TB := tb_T (List.mem_append_right _ (List.mem_append_right _ (List.mem_append_left _ (List.mem_of_getElem? (i := 180) rfl)))) rfl
theorem ms_arraycopyName : Cond.static arraycopyName ∈ TB := tb_T (List.mem_append_right _ (List.mem_append_right _ (List.mem_append_left _ (List.mem_of_getElem? (i := 181) rfl)))) rfl
theorem mn_arraycopyName : Cond.native arraycopyName ∈ TB := tb_T (List.mem_append_right _ (List.mem_append_right _ (List.mem_append_left _ (List.mem_of_getElem? (i := 182) rfl)))) rfl
theorem mkX1_93 : Cond.methodLink RX1 93 yX3_copyFrom ∈ TB := tb_T (List.mem_append_right _ (List.mem_append_right _ (List.mem_append_left _ (List.mem_of_getElem? (i := 183) rfl)))) rfl
theorem mi_yX3_copyFrom : Cond.instanceMethod yX3_copyFrom ∈ TB := tb_T (List.mem_append_right _ (List.mem_append_right _ (List.mem_append_left _ (List.mem_of_getElem? (i := 184) rfl)))) rfl
theorem me_yX3_copyFrom : Cond.selects RX3 yX3_copyFrom yX3_copyFrom ∈ TB := tb_T (List.mem_append_right _ (List.mem_append_right _ (List.mem_append_left _ (List.mem_of_getElem? (i := 185) rfl)))) rfl
theorem mkX3_15 : Cond.methodLink RX3 15 arraycopyName ∈ TB := tb_T (List.mem_append_right _ (List.mem_append_right _ (List.mem_append_left _ (List.mem_of_getElem? (i := 187) rfl)))) rfl
theorem mkX6_158 : Cond.methodLink RX6 158 yX1_isGone ∈ TB := tb_T (List.mem_append_right _ (List.mem_append_right _ (List.mem_append_left _ (List.mem_of_getElem? (i := 188) rfl)))) rfl
theorem mi_yX1_isGone : Cond.instanceMethod yX1_isGone ∈ TB := tb_T (List.mem_append_right _ (List.mem_append_right _ (List.mem_append_left _ (List.mem_of_getElem? (i := 189) rfl)))) rfl
theorem me_yX1_isGone : Cond.selects RX1 yX1_isGone yX1_isGone ∈ TB := tb_T (List.mem_append_right _ (List.mem_append_right _ (List.mem_append_left _ (List.mem_of_getElem? (i := 190) rfl)))) rfl
theorem mkL_117 : Cond.methodLink RL 117 yX6_capacity ∈ TB := tb_T (List.mem_append_right _ (List.mem_append_right _ (List.mem_append_left _ (List.mem_of_getElem? (i := 192) rfl)))) rfl
theorem mi_yX6_capacity : Cond.instanceMethod yX6_capacity ∈ TB := tb_T (List.mem_append_right _ (List.mem_append_right _ (List.mem_append_left _ (List.mem_of_getElem? (i := 193) rfl)))) rfl
theorem me_yX6_capacity : Cond.selects RX6 yX6_capacity yX6_capacity ∈ TB := tb_T (List.mem_append_right _ (List.mem_append_right _ (List.mem_append_left _ (List.mem_of_getElem? (i := 194) rfl)))) rfl
theorem mkX6_161 : Cond.methodLink RX6 161 yX1_clearTraffic ∈ TB := tb_T (List.mem_append_right _ (List.mem_append_right _ (List.mem_append_left _ (List.mem_of_getElem? (i := 196) rfl)))) rfl
theorem mkX6_164 : Cond.methodLink RX6 164 yX1_bringSpare ∈ TB := tb_T (List.mem_append_right _ (List.mem_append_right _ (List.mem_append_left _ (List.mem_of_getElem? (i := 197) rfl)))) rfl
theorem mi_yX1_bringSpare : Cond.instanceMethod yX1_bringSpare ∈ TB := tb_T (List.mem_append_right _ (List.mem_append_right _ (List.mem_append_left _ (List.mem_of_getElem? (i := 198) rfl)))) rfl
theorem me_yX1_bringSpare : Cond.selects RX1 yX1_bringSpare yX1_bringSpare ∈ TB := tb_T (List.mem_append_right _ (List.mem_append_right _ (List.mem_append_left _ (List.mem_of_getElem? (i := 199) rfl)))) rfl
theorem mkX1_154 : Cond.methodLink RX1 154 yX1_bringNew ∈ TB := tb_T (List.mem_append_right _ (List.mem_append_right _ (List.mem_append_left _ (List.mem_of_getElem? (i := 201) rfl)))) rfl
theorem mkL_121 : Cond.methodLink RL 121 yX6_say ∈ TB := tb_T (List.mem_append_right _ (List.mem_append_right _ (List.mem_append_left _ (List.mem_of_getElem? (i := 202) rfl)))) rfl
theorem mi_yX6_say : Cond.instanceMethod yX6_say ∈ TB := tb_T (List.mem_append_right _ (List.mem_append_right _ (List.mem_append_left _ (List.mem_of_getElem? (i := 203) rfl)))) rfl
theorem me_yX6_say : Cond.selects RX6 yX6_say yX6_say ∈ TB := tb_T (List.mem_append_right _ (List.mem_append_right _ (List.mem_append_left _ (List.mem_of_getElem? (i := 204) rfl)))) rfl
theorem mkX6_167 : Cond.methodLink RX6 167 yX2_append ∈ TB := tb_T (List.mem_append_right _ (List.mem_append_right _ (List.mem_append_left _ (List.mem_of_getElem? (i := 206) rfl)))) rfl
theorem mi_yX2_append : Cond.instanceMethod yX2_append ∈ TB := tb_T (List.mem_append_right _ (List.mem_append_right _ (List.mem_append_left _ (List.mem_of_getElem? (i := 207) rfl)))) rfl
theorem me_yX2_append : Cond.selects RX2 yX2_append yX2_append ∈ TB := tb_T (List.mem_append_right _ (List.mem_append_right _ (List.mem_append_left _ (List.mem_of_getElem? (i := 208) rfl)))) rfl
theorem mkL_125 : Cond.methodLink RL 125 yX6_wipe ∈ TB := tb_T (List.mem_append_right _ (List.mem_append_right _ (List.mem_append_left _ (List.mem_of_getElem? (i := 210) rfl)))) rfl
theorem mi_yX6_wipe : Cond.instanceMethod yX6_wipe ∈ TB := tb_T (List.mem_append_right _ (List.mem_append_right _ (List.mem_append_left _ (List.mem_of_getElem? (i := 211) rfl)))) rfl
theorem me_yX6_wipe : Cond.selects RX6 yX6_wipe yX6_wipe ∈ TB := tb_T (List.mem_append_right _ (List.mem_append_right _ (List.mem_append_left _ (List.mem_of_getElem? (i := 212) rfl)))) rfl
theorem mkX6_170 : Cond.methodLink RX6 170 yX2_empty ∈ TB := tb_T (List.mem_append_right _ (List.mem_append_right _ (List.mem_append_left _ (List.mem_of_getElem? (i := 214) rfl)))) rfl
theorem mi_yX2_empty : Cond.instanceMethod yX2_empty ∈ TB := tb_T (List.mem_append_right _ (List.mem_append_right _ (List.mem_append_left _ (List.mem_of_getElem? (i := 215) rfl)))) rfl
theorem me_yX2_empty : Cond.selects RX2 yX2_empty yX2_empty ∈ TB := tb_T (List.mem_append_right _ (List.mem_append_right _ (List.mem_append_left _ (List.mem_of_getElem? (i := 216) rfl)))) rfl
theorem mkL_130 : Cond.methodLink RL 130 yX6_fault ∈ TB := tb_T (List.mem_append_right _ (List.mem_append_right _ (List.mem_append_left _ (List.mem_of_getElem? (i := 218) rfl)))) rfl
theorem mi_yX6_fault : Cond.instanceMethod yX6_fault ∈ TB := tb_T (List.mem_append_right _ (List.mem_append_right _ (List.mem_append_left _ (List.mem_of_getElem? (i := 219) rfl)))) rfl
theorem me_yX6_fault : Cond.selects RX6 yX6_fault yX6_fault ∈ TB := tb_T (List.mem_append_right _ (List.mem_append_right _ (List.mem_append_left _ (List.mem_of_getElem? (i := 220) rfl)))) rfl
theorem mkX6_173 : Cond.methodLink RX6 173 yX2_firstFault ∈ TB := tb_T (List.mem_append_right _ (List.mem_append_right _ (List.mem_append_left _ (List.mem_of_getElem? (i := 222) rfl)))) rfl
theorem mi_yX2_firstFault : Cond.instanceMethod yX2_firstFault ∈ TB := tb_T (List.mem_append_right _ (List.mem_append_right _ (List.mem_append_left _ (List.mem_of_getElem? (i := 223) rfl)))) rfl
theorem me_yX2_firstFault : Cond.selects RX2 yX2_firstFault yX2_firstFault ∈ TB := tb_T (List.mem_append_right _ (List.mem_append_right _ (List.mem_append_left _ (List.mem_of_getElem? (i := 224) rfl)))) rfl
theorem mkX2_19 : Cond.methodLink RX2 19 yX2_after ∈ TB := tb_T (List.mem_append_right _ (List.mem_append_right _ (List.mem_append_left _ (List.mem_of_getElem? (i := 226) rfl)))) rfl
theorem ms_yX2_after : Cond.static yX2_after ∈ TB := tb_T (List.mem_append_right _ (List.mem_append_right _ (List.mem_append_left _ (List.mem_of_getElem? (i := 227) rfl)))) rfl
theorem mkX2_23 : Cond.methodLink RX2 23 yX2_afterLetter ∈ TB := tb_T (List.mem_append_right _ (List.mem_append_right _ (List.mem_append_left _ (List.mem_of_getElem? (i := 229) rfl)))) rfl
theorem ms_yX2_afterLetter : Cond.static yX2_afterLetter ∈ TB := tb_T (List.mem_append_right _ (List.mem_append_right _ (List.mem_append_left _ (List.mem_of_getElem? (i := 230) rfl)))) rfl
theorem mkX2_27 : Cond.methodLink RX2 27 yX2_isBetween ∈ TB := tb_T (List.mem_append_right _ (List.mem_append_right _ (List.mem_append_left _ (List.mem_of_getElem? (i := 232) rfl)))) rfl
theorem ms_yX2_isBetween : Cond.static yX2_isBetween ∈ TB := tb_T (List.mem_append_right _ (List.mem_append_right _ (List.mem_append_left _ (List.mem_of_getElem? (i := 233) rfl)))) rfl
theorem mkX2_31 : Cond.methodLink RX2 31 yX2_afterOrder ∈ TB := tb_T (List.mem_append_right _ (List.mem_append_right _ (List.mem_append_left _ (List.mem_of_getElem? (i := 235) rfl)))) rfl
theorem ms_yX2_afterOrder : Cond.static yX2_afterOrder ∈ TB := tb_T (List.mem_append_right _ (List.mem_append_right _ (List.mem_append_left _ (List.mem_of_getElem? (i := 236) rfl)))) rfl
theorem mkL_134 : Cond.methodLink RL 134 yX6_carryOut ∈ TB := tb_T (List.mem_append_right _ (List.mem_append_right _ (List.mem_append_left _ (List.mem_of_getElem? (i := 238) rfl)))) rfl
theorem mi_yX6_carryOut : Cond.instanceMethod yX6_carryOut ∈ TB := tb_T (List.mem_append_right _ (List.mem_append_right _ (List.mem_append_left _ (List.mem_of_getElem? (i := 239) rfl)))) rfl
theorem me_yX6_carryOut : Cond.selects RX6 yX6_carryOut yX6_carryOut ∈ TB := tb_T (List.mem_append_right _ (List.mem_append_right _ (List.mem_append_right _ (List.mem_append_left _ (List.mem_of_getElem? (i := 0) rfl))))) rfl
theorem mkX6_176 : Cond.methodLink RX6 176 yX2_rewind ∈ TB := tb_T (List.mem_append_right _ (List.mem_append_right _ (List.mem_append_right _ (List.mem_append_left _ (List.mem_of_getElem? (i := 2) rfl))))) rfl
theorem mi_yX2_rewind : Cond.instanceMethod yX2_rewind ∈ TB := tb_T (List.mem_append_right _ (List.mem_append_right _ (List.mem_append_right _ (List.mem_append_left _ (List.mem_of_getElem? (i := 3) rfl))))) rfl
theorem me_yX2_rewind : Cond.selects RX2 yX2_rewind yX2_rewind ∈ TB := tb_T (List.mem_append_right _ (List.mem_append_right _ (List.mem_append_right _ (List.mem_append_left _ (List.mem_of_getElem? (i := 4) rfl))))) rfl
theorem mkX6_179 : Cond.methodLink RX6 179 yX2_readOrder ∈ TB := tb_T (List.mem_append_right _ (List.mem_append_right _ (List.mem_append_right _ (List.mem_append_left _ (List.mem_of_getElem? (i := 6) rfl))))) rfl
theorem mi_yX2_readOrder : Cond.instanceMethod yX2_readOrder ∈ TB := tb_T (List.mem_append_right _ (List.mem_append_right _ (List.mem_append_right _ (List.mem_append_left _ (List.mem_of_getElem? (i := 7) rfl))))) rfl
theorem me_yX2_readOrder : Cond.selects RX2 yX2_readOrder yX2_readOrder ∈ TB := tb_T (List.mem_append_right _ (List.mem_append_right _ (List.mem_append_right _ (List.mem_append_left _ (List.mem_of_getElem? (i := 8) rfl))))) rfl
theorem mkX2_46 : Cond.methodLink RX2 46 yX2_readSign ∈ TB := tb_T (List.mem_append_right _ (List.mem_append_right _ (List.mem_append_right _ (List.mem_append_left _ (List.mem_of_getElem? (i := 10) rfl))))) rfl
theorem mi_yX2_readSign : Cond.instanceMethod yX2_readSign ∈ TB := tb_T (List.mem_append_right _ (List.mem_append_right _ (List.mem_append_right _ (List.mem_append_left _ (List.mem_of_getElem? (i := 12) rfl))))) rfl
theorem mkX6_192 : Cond.methodLink RX6 192 yX6_obey ∈ TB := tb_T (List.mem_append_right _ (List.mem_append_right _ (List.mem_append_right _ (List.mem_append_left _ (List.mem_of_getElem? (i := 14) rfl))))) rfl
theorem mi_yX6_obey : Cond.instanceMethod yX6_obey ∈ TB := tb_T (List.mem_append_right _ (List.mem_append_right _ (List.mem_append_right _ (List.mem_append_left _ (List.mem_of_getElem? (i := 16) rfl))))) rfl
theorem mkX6_195 : Cond.methodLink RX6 195 yX6_offer ∈ TB := tb_T (List.mem_append_right _ (List.mem_append_right _ (List.mem_append_right _ (List.mem_append_left _ (List.mem_of_getElem? (i := 18) rfl))))) rfl
theorem mkX6_198 : Cond.methodLink RX6 198 yX6_depart ∈ TB := tb_T (List.mem_append_right _ (List.mem_append_right _ (List.mem_append_right _ (List.mem_append_left _ (List.mem_of_getElem? (i := 19) rfl))))) rfl
theorem mkX6_201 : Cond.methodLink RX6 201 yX6_shunt ∈ TB := tb_T (List.mem_append_right _ (List.mem_append_right _ (List.mem_append_right _ (List.mem_append_left _ (List.mem_of_getElem? (i := 20) rfl))))) rfl
theorem mkX6_204 : Cond.methodLink RX6 204 yX6_leave ∈ TB := tb_T (List.mem_append_right _ (List.mem_append_right _ (List.mem_append_right _ (List.mem_append_left _ (List.mem_of_getElem? (i := 21) rfl))))) rfl
theorem mkX6_207 : Cond.methodLink RX6 207 yX6_answer ∈ TB := tb_T (List.mem_append_right _ (List.mem_append_right _ (List.mem_append_right _ (List.mem_append_left _ (List.mem_of_getElem? (i := 22) rfl))))) rfl
theorem mkX6_211 : Cond.methodLink RX6 211 yX6_cancel ∈ TB := tb_T (List.mem_append_right _ (List.mem_append_right _ (List.mem_append_right _ (List.mem_append_left _ (List.mem_of_getElem? (i := 23) rfl))))) rfl
theorem mkX6_214 : Cond.methodLink RX6 214 yX6_admit ∈ TB := tb_T (List.mem_append_right _ (List.mem_append_right _ (List.mem_append_right _ (List.mem_append_left _ (List.mem_of_getElem? (i := 24) rfl))))) rfl
theorem mkX6_217 : Cond.methodLink RX6 217 yX6_out ∈ TB := tb_T (List.mem_append_right _ (List.mem_append_right _ (List.mem_append_right _ (List.mem_append_left _ (List.mem_of_getElem? (i := 25) rfl))))) rfl
theorem mkX6_220 : Cond.methodLink RX6 220 yX6_assist ∈ TB := tb_T (List.mem_append_right _ (List.mem_append_right _ (List.mem_append_right _ (List.mem_append_left _ (List.mem_of_getElem? (i := 26) rfl))))) rfl
theorem mkX6_223 : Cond.methodLink RX6 223 yX6_pass ∈ TB := tb_T (List.mem_append_right _ (List.mem_append_right _ (List.mem_append_right _ (List.mem_append_left _ (List.mem_of_getElem? (i := 27) rfl))))) rfl
theorem mkL_138 : Cond.methodLink RL 138 yX6_count ∈ TB := tb_T (List.mem_append_right _ (List.mem_append_right _ (List.mem_append_right _ (List.mem_append_left _ (List.mem_of_getElem? (i := 28) rfl))))) rfl
theorem mi_yX6_count : Cond.instanceMethod yX6_count ∈ TB := tb_T (List.mem_append_right _ (List.mem_append_right _ (List.mem_append_right _ (List.mem_append_left _ (List.mem_of_getElem? (i := 29) rfl))))) rfl
theorem me_yX6_count : Cond.selects RX6 yX6_count yX6_count ∈ TB := tb_T (List.mem_append_right _ (List.mem_append_right _ (List.mem_append_right _ (List.mem_append_left _ (List.mem_of_getElem? (i := 30) rfl))))) rfl
theorem mkX6_226 : Cond.methodLink RX6 226 yX1_trainsThatAre ∈ TB := tb_T (List.mem_append_right _ (List.mem_append_right _ (List.mem_append_right _ (List.mem_append_left _ (List.mem_of_getElem? (i := 32) rfl))))) rfl
theorem mi_yX1_trainsThatAre : Cond.instanceMethod yX1_trainsThatAre ∈ TB := tb_T (List.mem_append_right _ (List.mem_append_right _ (List.mem_append_right _ (List.mem_append_left _ (List.mem_of_getElem? (i := 33) rfl))))) rfl
theorem me_yX1_trainsThatAre : Cond.selects RX1 yX1_trainsThatAre yX1_trainsThatAre ∈ TB := tb_T (List.mem_append_right _ (List.mem_append_right _ (List.mem_append_right _ (List.mem_append_left _ (List.mem_of_getElem? (i := 34) rfl))))) rfl
theorem mkX6_232 : Cond.methodLink RX6 232 yX1_blocksOtherThan ∈ TB := tb_T (List.mem_append_right _ (List.mem_append_right _ (List.mem_append_right _ (List.mem_append_left _ (List.mem_of_getElem? (i := 36) rfl))))) rfl
theorem mi_yX1_blocksOtherThan : Cond.instanceMethod yX1_blocksOtherThan ∈ TB := tb_T (List.mem_append_right _ (List.mem_append_right _ (List.mem_append_right _ (List.mem_append_left _ (List.mem_of_getElem? (i := 37) rfl))))) rfl
theorem me_yX1_blocksOtherThan : Cond.selects RX1 yX1_blocksOtherThan yX1_blocksOtherThan ∈ TB := tb_T (List.mem_append_right _ (List.mem_append_right _ (List.mem_append_right _ (List.mem_append_left _ (List.mem_of_getElem? (i := 38) rfl))))) rfl
theorem mkX1_142 : Cond.methodLink RX1 142 yX0_property ∈ TB := tb_T (List.mem_append_right _ (List.mem_append_right _ (List.mem_append_right _ (List.mem_append_left _ (List.mem_of_getElem? (i := 40) rfl))))) rfl
theorem mkL_142 : Cond.methodLink RL 142 yX6_save ∈ TB := tb_T (List.mem_append_right _ (List.mem_append_right _ (List.mem_append_right _ (List.mem_append_left _ (List.mem_of_getElem? (i := 41) rfl))))) rfl
theorem mi_yX6_save : Cond.instanceMethod yX6_save ∈ TB := tb_T (List.mem_append_right _ (List.mem_append_right _ (List.mem_append_right _ (List.mem_append_left _ (List.mem_of_getElem? (i := 42) rfl))))) rfl
theorem me_yX6_save : Cond.selects RX6 yX6_save yX6_save ∈ TB := tb_T (List.mem_append_right _ (List.mem_append_right _ (List.mem_append_right _ (List.mem_append_left _ (List.mem_of_getElem? (i := 43) rfl))))) rfl
theorem mkL_146 : Cond.methodLink RL 146 yX6_restore ∈ TB := tb_T (List.mem_append_right _ (List.mem_append_right _ (List.mem_append_right _ (List.mem_append_left _ (List.mem_of_getElem? (i := 45) rfl))))) rfl
theorem mi_yX6_restore : Cond.instanceMethod yX6_restore ∈ TB := tb_T (List.mem_append_right _ (List.mem_append_right _ (List.mem_append_right _ (List.mem_append_left _ (List.mem_of_getElem? (i := 46) rfl))))) rfl
theorem me_yX6_restore : Cond.selects RX6 yX6_restore yX6_restore ∈ TB := tb_T (List.mem_append_right _ (List.mem_append_right _ (List.mem_append_right _ (List.mem_append_left _ (List.mem_of_getElem? (i := 47) rfl))))) rfl
theorem clL_10 : Cond.classLink RL 10 RX7 ∈ TB := tb_T (List.mem_append_right _ (List.mem_append_right _ (List.mem_append_right _ (List.mem_append_left _ (List.mem_of_getElem? (i := 49) rfl))))) rfl
theorem nwX7 : Cond.instantiable RX7 10 ∈ TB := tb_T (List.mem_append_right _ (List.mem_append_right _ (List.mem_append_right _ (List.mem_append_left _ (List.mem_of_getElem? (i := 50) rfl))))) rfl
theorem mkL_12 : Cond.methodLink RL 12 yX7_init ∈ TB := tb_T (List.mem_append_right _ (List.mem_append_right _ (List.mem_append_right _ (List.mem_append_left _ (List.mem_of_getElem? (i := 51) rfl))))) rfl
theorem mi_yX7_init : Cond.instanceMethod yX7_init ∈ TB := tb_T (List.mem_append_right _ (List.mem_append_right _ (List.mem_append_right _ (List.mem_append_left _ (List.mem_of_getElem? (i := 52) rfl))))) rfl
theorem mkX7_1 : Cond.methodLink RX7 1 objectInit ∈ TB := tb_T (List.mem_append_right _ (List.mem_append_right _ (List.mem_append_right _ (List.mem_append_left _ (List.mem_of_getElem? (i := 54) rfl))))) rfl
theorem mkX7_29 : Cond.methodLink RX7 29 yX7_lay ∈ TB := tb_T (List.mem_append_right _ (List.mem_append_right _ (List.mem_append_right _ (List.mem_append_left _ (List.mem_of_getElem? (i := 55) rfl))))) rfl
theorem mi_yX7_lay : Cond.instanceMethod yX7_lay ∈ TB := tb_T (List.mem_append_right _ (List.mem_append_right _ (List.mem_append_right _ (List.mem_append_left _ (List.mem_of_getElem? (i := 57) rfl))))) rfl
theorem mkX7_33 : Cond.methodLink RX7 33 yX7_layBlocks ∈ TB := tb_T (List.mem_append_right _ (List.mem_append_right _ (List.mem_append_right _ (List.mem_append_left _ (List.mem_of_getElem? (i := 59) rfl))))) rfl
theorem mi_yX7_layBlocks : Cond.instanceMethod yX7_layBlocks ∈ TB := tb_T (List.mem_append_right _ (List.mem_append_right _ (List.mem_append_right _ (List.mem_append_left _ (List.mem_of_getElem? (i := 61) rfl))))) rfl
theorem lkX7_7 : Cond.fieldLink RX7 7 "BlockBellsModel" "at" "[I" ∈ TB := tb_T (List.mem_append_right _ (List.mem_append_right _ (List.mem_append_right _ (List.mem_append_left _ (List.mem_of_getElem? (i := 63) rfl))))) rfl
theorem lkX7_13 : Cond.fieldLink RX7 13 "BlockBellsModel" "aside" "[I" ∈ TB := tb_T (List.mem_append_right _ (List.mem_append_right _ (List.mem_append_right _ (List.mem_append_left _ (List.mem_of_getElem? (i := 64) rfl))))) rfl
theorem lkX7_16 : Cond.fieldLink RX7 16 "BlockBellsModel" "slots" "[I" ∈ TB := tb_T (List.mem_append_right _ (List.mem_append_right _ (List.mem_append_right _ (List.mem_append_left _ (List.mem_of_getElem? (i := 65) rfl))))) rfl
theorem lkX7_19 : Cond.fieldLink RX7 19 "BlockBellsModel" "isSaved" "[Z" ∈ TB := tb_T (List.mem_append_right _ (List.mem_append_right _ (List.mem_append_right _ (List.mem_append_left _ (List.mem_of_getElem? (i := 66) rfl))))) rfl
theorem lkX7_23 : Cond.fieldLink RX7 23 "BlockBellsModel" "pad" "[I" ∈ TB := tb_T (List.mem_append_right _ (List.mem_append_right _ (List.mem_append_right _ (List.mem_append_left _ (List.mem_of_getElem? (i := 67) rfl))))) rfl
theorem lkX7_177 : Cond.fieldLink RX7 177 "BlockBellsModel" "padMany" "I" ∈ TB := tb_T (List.mem_append_right _ (List.mem_append_right _ (List.mem_append_right _ (List.mem_append_left _ (List.mem_of_getElem? (i := 68) rfl))))) rfl
theorem lkX7_181 : Cond.fieldLink RX7 181 "BlockBellsModel" "reading" "I" ∈ TB := tb_T (List.mem_append_right _ (List.mem_append_right _ (List.mem_append_right _ (List.mem_append_left _ (List.mem_of_getElem? (i := 69) rfl))))) rfl
theorem lkX7_187 : Cond.fieldLink RX7 187 "BlockBellsModel" "isWrong" "Z" ∈ TB := tb_T (List.mem_append_right _ (List.mem_append_right _ (List.mem_append_right _ (List.mem_append_left _ (List.mem_of_getElem? (i := 70) rfl))))) rfl
theorem lkX7_26 : Cond.fieldLink RX7 26 "BlockBellsModel" "orders" "[I" ∈ TB := tb_T (List.mem_append_right _ (List.mem_append_right _ (List.mem_append_right _ (List.mem_append_left _ (List.mem_of_getElem? (i := 71) rfl))))) rfl
theorem lkX7_197 : Cond.fieldLink RX7 197 "BlockBellsModel" "orderMany" "I" ∈ TB := tb_T (List.mem_append_right _ (List.mem_append_right _ (List.mem_append_right _ (List.mem_append_left _ (List.mem_of_getElem? (i := 72) rfl))))) rfl
theorem mkL_17 : Cond.methodLink RL 17 yX7_setUp ∈ TB := tb_T (List.mem_append_right _ (List.mem_append_right _ (List.mem_append_right _ (List.mem_append_left _ (List.mem_of_getElem? (i := 94) rfl))))) rfl
theorem mi_yX7_setUp : Cond.instanceMethod yX7_setUp ∈ TB := tb_T (List.mem_append_right _ (List.mem_append_right _ (List.mem_append_right _ (List.mem_append_left _ (List.mem_of_getElem? (i := 95) rfl))))) rfl
theorem me_yX7_setUp : Cond.selects RX7 yX7_setUp yX7_setUp ∈ TB := tb_T (List.mem_append_right _ (List.mem_append_right _ (List.mem_append_right _ (List.mem_append_left _ (List.mem_of_getElem? (i := 96) rfl))))) rfl
theorem mkX7_40 : Cond.methodLink RX7 40 yX7_in ∈ TB := tb_T (List.mem_append_right _ (List.mem_append_right _ (List.mem_append_right _ (List.mem_append_left _ (List.mem_of_getElem? (i := 98) rfl))))) rfl
theorem ms_yX7_in : Cond.static yX7_in ∈ TB := tb_T (List.mem_append_right _ (List.mem_append_right _ (List.mem_append_right _ (List.mem_append_left _ (List.mem_of_getElem? (i := 99) rfl))))) rfl
theorem mkL_21 : Cond.methodLink RL 21 yX7_setTime ∈ TB := tb_T (List.mem_append_right _ (List.mem_append_right _ (List.mem_append_right _ (List.mem_append_left _ (List.mem_of_getElem? (i := 101) rfl))))) rfl
theorem mi_yX7_setTime : Cond.instanceMethod yX7_setTime ∈ TB := tb_T (List.mem_append_right _ (List.mem_append_right _ (List.mem_append_right _ (List.mem_append_left _ (List.mem_of_getElem? (i := 102) rfl))))) rfl
theorem me_yX7_setTime : Cond.selects RX7 yX7_setTime yX7_setTime ∈ TB := tb_T (List.mem_append_right _ (List.mem_append_right _ (List.mem_append_right _ (List.mem_append_left _ (List.mem_of_getElem? (i := 103) rfl))))) rfl
theorem mkX7_44 : Cond.methodLink RX7 44 yX7_isSection ∈ TB := tb_T (List.mem_append_right _ (List.mem_append_right _ (List.mem_append_right _ (List.mem_append_left _ (List.mem_of_getElem? (i := 105) rfl))))) rfl
theorem mi_yX7_isSection : Cond.instanceMethod yX7_isSection ∈ TB := tb_T (List.mem_append_right _ (List.mem_append_right _ (List.mem_append_right _ (List.mem_append_left _ (List.mem_of_getElem? (i := 107) rfl))))) rfl
theorem mkX7_36 : Cond.methodLink RX7 36 yX7_sections ∈ TB := tb_T (List.mem_append_right _ (List.mem_append_right _ (List.mem_append_right _ (List.mem_append_left _ (List.mem_of_getElem? (i := 109) rfl))))) rfl
theorem mi_yX7_sections : Cond.instanceMethod yX7_sections ∈ TB := tb_T (List.mem_append_right _ (List.mem_append_right _ (List.mem_append_right _ (List.mem_append_left _ (List.mem_of_getElem? (i := 111) rfl))))) rfl
theorem mkL_26 : Cond.methodLink RL 26 yX7_setLoops ∈ TB := tb_T (List.mem_append_right _ (List.mem_append_right _ (List.mem_append_right _ (List.mem_append_left _ (List.mem_of_getElem? (i := 113) rfl))))) rfl
theorem mi_yX7_setLoops : Cond.instanceMethod yX7_setLoops ∈ TB := tb_T (List.mem_append_right _ (List.mem_append_right _ (List.mem_append_right _ (List.mem_append_left _ (List.mem_of_getElem? (i := 114) rfl))))) rfl
theorem me_yX7_setLoops : Cond.selects RX7 yX7_setLoops yX7_setLoops ∈ TB := tb_T (List.mem_append_right _ (List.mem_append_right _ (List.mem_append_right _ (List.mem_append_left _ (List.mem_of_getElem? (i := 115) rfl))))) rfl
theorem mkX7_48 : Cond.methodLink RX7 48 yX7_isWay ∈ TB := tb_T (List.mem_append_right _ (List.mem_append_right _ (List.mem_append_right _ (List.mem_append_left _ (List.mem_of_getElem? (i := 117) rfl))))) rfl
theorem ms_yX7_isWay : Cond.static yX7_isWay ∈ TB := tb_T (List.mem_append_right _ (List.mem_append_right _ (List.mem_append_right _ (List.mem_append_left _ (List.mem_of_getElem? (i := 118) rfl))))) rfl
theorem mkX7_65 : Cond.methodLink RX7 65 yX7_many ∈ TB := tb_T (List.mem_append_right _ (List.mem_append_right _ (List.mem_append_right _ (List.mem_append_left _ (List.mem_of_getElem? (i := 120) rfl))))) rfl
theorem mi_yX7_many : Cond.instanceMethod yX7_many ∈ TB := tb_T (List.mem_append_right _ (List.mem_append_right _ (List.mem_append_right _ (List.mem_append_left _ (List.mem_of_getElem? (i := 122) rfl))))) rfl
theorem mkX7_61 : Cond.methodLink RX7 61 yX7_ofTrain ∈ TB := tb_T (List.mem_append_right _ (List.mem_append_right _ (List.mem_append_right _ (List.mem_append_left _ (List.mem_of_getElem? (i := 124) rfl))))) rfl
theorem mi_yX7_ofTrain : Cond.instanceMethod yX7_ofTrain ∈ TB := tb_T (List.mem_append_right _ (List.mem_append_right _ (List.mem_append_right _ (List.mem_append_left _ (List.mem_of_getElem? (i := 126) rfl))))) rfl
theorem mkL_30 : Cond.methodLink RL 30 yX7_moveTokens ∈ TB := tb_T (List.mem_append_right _ (List.mem_append_right _ (List.mem_append_right _ (List.mem_append_left _ (List.mem_of_getElem? (i := 128) rfl))))) rfl
theorem mi_yX7_moveTokens : Cond.instanceMethod yX7_moveTokens ∈ TB := tb_T (List.mem_append_right _ (List.mem_append_right _ (List.mem_append_right _ (List.mem_append_left _ (List.mem_of_getElem? (i := 129) rfl))))) rfl
theorem me_yX7_moveTokens : Cond.selects RX7 yX7_moveTokens yX7_moveTokens ∈ TB := tb_T (List.mem_append_right _ (List.mem_append_right _ (List.mem_append_right _ (List.mem_append_left _ (List.mem_of_getElem? (i := 130) rfl))))) rfl
theorem mkX7_58 : Cond.methodLink RX7 58 yX7_isSingle ∈ TB := tb_T (List.mem_append_right _ (List.mem_append_right _ (List.mem_append_right _ (List.mem_append_left _ (List.mem_of_getElem? (i := 132) rfl))))) rfl
theorem mi_yX7_isSingle : Cond.instanceMethod yX7_isSingle ∈ TB := tb_T (List.mem_append_right _ (List.mem_append_right _ (List.mem_append_right _ (List.mem_append_left _ (List.mem_of_getElem? (i := 134) rfl))))) rfl
theorem mkL_34 : Cond.methodLink RL 34 yX7_section ∈ TB := tb_T (List.mem_append_right _ (List.mem_append_right _ (List.mem_append_right _ (List.mem_append_left _ (List.mem_of_getElem? (i := 136) rfl))))) rfl
theorem mi_yX7_section : Cond.instanceMethod yX7_section ∈ TB := tb_T (List.mem_append_right _ (List.mem_append_right _ (List.mem_append_right _ (List.mem_append_left _ (List.mem_of_getElem? (i := 137) rfl))))) rfl
theorem me_yX7_section : Cond.selects RX7 yX7_section yX7_section ∈ TB := tb_T (List.mem_append_right _ (List.mem_append_right _ (List.mem_append_right _ (List.mem_append_left _ (List.mem_of_getElem? (i := 138) rfl))))) rfl
theorem mkX7_68 : Cond.methodLink RX7 68 yX7_isTokenOut ∈ TB := tb_T (List.mem_append_right _ (List.mem_append_right _ (List.mem_append_right _ (List.mem_append_left _ (List.mem_of_getElem? (i := 140) rfl))))) rfl
theorem mi_yX7_isTokenOut : Cond.instanceMethod yX7_isTokenOut ∈ TB := tb_T (List.mem_append_right _ (List.mem_append_right _ (List.mem_append_right _ (List.mem_append_left _ (List.mem_of_getElem? (i := 142) rfl))))) rfl
theorem mkX7_55 : Cond.methodLink RX7 55 yX7_ofBlock ∈ TB := tb_T (List.mem_append_right _ (List.mem_append_right _ (List.mem_append_right _ (List.mem_append_left _ (List.mem_of_getElem? (i := 144) rfl))))) rfl
theorem mi_yX7_ofBlock : Cond.instanceMethod yX7_ofBlock ∈ TB := tb_T (List.mem_append_right _ (List.mem_append_right _ (List.mem_append_right _ (List.mem_append_left _ (List.mem_of_getElem? (i := 146) rfl))))) rfl
theorem mkX7_51 : Cond.methodLink RX7 51 yX7_place ∈ TB := tb_T (List.mem_append_right _ (List.mem_append_right _ (List.mem_append_right _ (List.mem_append_left _ (List.mem_of_getElem? (i := 148) rfl))))) rfl
theorem ms_yX7_place : Cond.static yX7_place ∈ TB := tb_T (List.mem_append_right _ (List.mem_append_right _ (List.mem_append_right _ (List.mem_append_left _ (List.mem_of_getElem? (i := 149) rfl))))) rfl
theorem mkL_38 : Cond.methodLink RL 38 yX7_block ∈ TB := tb_T (List.mem_append_right _ (List.mem_append_right _ (List.mem_append_right _ (List.mem_append_left _ (List.mem_of_getElem? (i := 151) rfl))))) rfl
theorem mi_yX7_block : Cond.instanceMethod yX7_block ∈ TB := tb_T (List.mem_append_right _ (List.mem_append_right _ (List.mem_append_right _ (List.mem_append_left _ (List.mem_of_getElem? (i := 152) rfl))))) rfl
theorem me_yX7_block : Cond.selects RX7 yX7_block yX7_block ∈ TB := tb_T (List.mem_append_right _ (List.mem_append_right _ (List.mem_append_right _ (List.mem_append_left _ (List.mem_of_getElem? (i := 153) rfl))))) rfl
theorem mkX7_71 : Cond.methodLink RX7 71 yX7_isBlock ∈ TB := tb_T (List.mem_append_right _ (List.mem_append_right _ (List.mem_append_right _ (List.mem_append_left _ (List.mem_of_getElem? (i := 155) rfl))))) rfl
theorem mi_yX7_isBlock : Cond.instanceMethod yX7_isBlock ∈ TB := tb_T (List.mem_append_right _ (List.mem_append_right _ (List.mem_append_right _ (List.mem_append_left _ (List.mem_of_getElem? (i := 157) rfl))))) rfl
theorem mkL_42 : Cond.methodLink RL 42 yX7_appear ∈ TB := tb_T (List.mem_append_right _ (List.mem_append_right _ (List.mem_append_right _ (List.mem_append_left _ (List.mem_of_getElem? (i := 159) rfl))))) rfl
theorem mi_yX7_appear : Cond.instanceMethod yX7_appear ∈ TB := tb_T (List.mem_append_right _ (List.mem_append_right _ (List.mem_append_right _ (List.mem_append_left _ (List.mem_of_getElem? (i := 160) rfl))))) rfl
theorem me_yX7_appear : Cond.selects RX7 yX7_appear yX7_appear ∈ TB := tb_T (List.mem_append_right _ (List.mem_append_right _ (List.mem_append_right _ (List.mem_append_left _ (List.mem_of_getElem? (i := 161) rfl))))) rfl
theorem mkX7_79 : Cond.methodLink RX7 79 yX7_firstBox ∈ TB := tb_T (List.mem_append_right _ (List.mem_append_right _ (List.mem_append_right _ (List.mem_append_left _ (List.mem_of_getElem? (i := 163) rfl))))) rfl
theorem mi_yX7_firstBox : Cond.instanceMethod yX7_firstBox ∈ TB := tb_T (List.mem_append_right _ (List.mem_append_right _ (List.mem_append_right _ (List.mem_append_left _ (List.mem_of_getElem? (i := 165) rfl))))) rfl
theorem mkX7_83 : Cond.methodLink RX7 83 yX7_isFree ∈ TB := tb_T (List.mem_append_right _ (List.mem_append_right _ (List.mem_append_right _ (List.mem_append_left _ (List.mem_of_getElem? (i := 167) rfl))))) rfl
theorem mi_yX7_isFree : Cond.instanceMethod yX7_isFree ∈ TB := tb_T (List.mem_append_right _ (List.mem_append_right _ (List.mem_append_right _ (List.mem_append_left _ (List.mem_of_getElem? (i := 169) rfl))))) rfl
theorem mkX7_86 : Cond.methodLink RX7 86 yX7_add ∈ TB := tb_T (List.mem_append_right _ (List.mem_append_right _ (List.mem_append_right _ (List.mem_append_left _ (List.mem_of_getElem? (i := 171) rfl))))) rfl
theorem mi_yX7_add : Cond.instanceMethod yX7_add ∈ TB := tb_T (List.mem_append_right _ (List.mem_append_right _ (List.mem_append_right _ (List.mem_append_left _ (List.mem_of_getElem? (i := 173) rfl))))) rfl
theorem mkX7_75 : Cond.methodLink RX7 75 yX7_layTrain ∈ TB := tb_T (List.mem_append_right _ (List.mem_append_right _ (List.mem_append_right _ (List.mem_append_left _ (List.mem_of_getElem? (i := 175) rfl))))) rfl
theorem mi_yX7_layTrain : Cond.instanceMethod yX7_layTrain ∈ TB := tb_T (List.mem_append_right _ (List.mem_append_right _ (List.mem_append_right _ (List.mem_append_left _ (List.mem_of_getElem? (i := 177) rfl))))) rfl
theorem mkL_46 : Cond.methodLink RL 46 yX7_train ∈ TB := tb_T (List.mem_append_right _ (List.mem_append_right _ (List.mem_append_right _ (List.mem_append_left _ (List.mem_of_getElem? (i := 179) rfl))))) rfl
theorem mi_yX7_train : Cond.instanceMethod yX7_train ∈ TB := tb_T (List.mem_append_right _ (List.mem_append_right _ (List.mem_append_right _ (List.mem_append_left _ (List.mem_of_getElem? (i := 180) rfl))))) rfl
theorem me_yX7_train : Cond.selects RX7 yX7_train yX7_train ∈ TB := tb_T (List.mem_append_right _ (List.mem_append_right _ (List.mem_append_right _ (List.mem_append_left _ (List.mem_of_getElem? (i := 181) rfl))))) rfl
theorem mkX7_89 : Cond.methodLink RX7 89 yX7_isTrain ∈ TB := tb_T (List.mem_append_right _ (List.mem_append_right _ (List.mem_append_right _ (List.mem_append_left _ (List.mem_of_getElem? (i := 183) rfl))))) rfl
theorem mi_yX7_isTrain : Cond.instanceMethod yX7_isTrain ∈ TB := tb_T (List.mem_append_right _ (List.mem_append_right _ (List.mem_append_right _ (List.mem_append_left _ (List.mem_of_getElem? (i := 185) rfl))))) rfl
theorem mkL_51 : Cond.methodLink RL 51 yX7_shunt ∈ TB := tb_T (List.mem_append_right _ (List.mem_append_right _ (List.mem_append_right _ (List.mem_append_left _ (List.mem_of_getElem? (i := 187) rfl))))) rfl
theorem mi_yX7_shunt : Cond.instanceMethod yX7_shunt ∈ TB := tb_T (List.mem_append_right _ (List.mem_append_right _ (List.mem_append_right _ (List.mem_append_left _ (List.mem_of_getElem? (i := 188) rfl))))) rfl
theorem me_yX7_shunt : Cond.selects RX7 yX7_shunt yX7_shunt ∈ TB := tb_T (List.mem_append_right _ (List.mem_append_right _ (List.mem_append_right _ (List.mem_append_left _ (List.mem_of_getElem? (i := 189) rfl))))) rfl
theorem mkX7_101 : Cond.methodLink RX7 101 yX7_canGoIn ∈ TB := tb_T (List.mem_append_right _ (List.mem_append_right _ (List.mem_append_right _ (List.mem_append_left _ (List.mem_of_getElem? (i := 191) rfl))))) rfl
theorem mi_yX7_canGoIn : Cond.instanceMethod yX7_canGoIn ∈ TB := tb_T (List.mem_append_right _ (List.mem_append_right _ (List.mem_append_right _ (List.mem_append_left _ (List.mem_of_getElem? (i := 193) rfl))))) rfl
theorem mkX7_95 : Cond.methodLink RX7 95 yX7_isOffered ∈ TB := tb_T (List.mem_append_right _ (List.mem_append_right _ (List.mem_append_right _ (List.mem_append_left _ (List.mem_of_getElem? (i := 195) rfl))))) rfl
theorem mi_yX7_isOffered : Cond.instanceMethod yX7_isOffered ∈ TB := tb_T (List.mem_append_right _ (List.mem_append_right _ (List.mem_append_right _ (List.mem_append_left _ (List.mem_of_getElem? (i := 197) rfl))))) rfl
theorem mkX7_92 : Cond.methodLink RX7 92 yX7_nextSection ∈ TB := tb_T (List.mem_append_right _ (List.mem_append_right _ (List.mem_append_right _ (List.mem_append_left _ (List.mem_of_getElem? (i := 199) rfl))))) rfl
theorem mi_yX7_nextSection : Cond.instanceMethod yX7_nextSection ∈ TB := tb_T (List.mem_append_right _ (List.mem_append_right _ (List.mem_append_right _ (List.mem_append_left _ (List.mem_of_getElem? (i := 201) rfl))))) rfl
theorem mkX7_98 : Cond.methodLink RX7 98 yX7_isClearFor ∈ TB := tb_T (List.mem_append_right _ (List.mem_append_right _ (List.mem_append_right _ (List.mem_append_left _ (List.mem_of_getElem? (i := 203) rfl))))) rfl
theorem mi_yX7_isClearFor : Cond.instanceMethod yX7_isClearFor ∈ TB := tb_T (List.mem_append_right _ (List.mem_append_right _ (List.mem_append_right _ (List.mem_append_left _ (List.mem_of_getElem? (i := 205) rfl))))) rfl
theorem mkX7_104 : Cond.methodLink RX7 104 yX7_isCalmBehind ∈ TB := tb_T (List.mem_append_right _ (List.mem_append_right _ (List.mem_append_right _ (List.mem_append_left _ (List.mem_of_getElem? (i := 207) rfl))))) rfl
theorem mi_yX7_isCalmBehind : Cond.instanceMethod yX7_isCalmBehind ∈ TB := tb_T (List.mem_append_right _ (List.mem_append_right _ (List.mem_append_right _ (List.mem_append_left _ (List.mem_of_getElem? (i := 209) rfl))))) rfl
theorem mkL_55 : Cond.methodLink RL 55 yX7_leave ∈ TB := tb_T (List.mem_append_right _ (List.mem_append_right _ (List.mem_append_right _ (List.mem_append_left _ (List.mem_of_getElem? (i := 211) rfl))))) rfl
theorem mi_yX7_leave : Cond.instanceMethod yX7_leave ∈ TB := tb_T (List.mem_append_right _ (List.mem_append_right _ (List.mem_append_right _ (List.mem_append_left _ (List.mem_of_getElem? (i := 212) rfl))))) rfl
theorem me_yX7_leave : Cond.selects RX7 yX7_leave yX7_leave ∈ TB := tb_T (List.mem_append_right _ (List.mem_append_right _ (List.mem_append_right _ (List.mem_append_left _ (List.mem_of_getElem? (i := 213) rfl))))) rfl
theorem mkL_59 : Cond.methodLink RL 59 yX7_divide ∈ TB := tb_T (List.mem_append_right _ (List.mem_append_right _ (List.mem_append_right _ (List.mem_append_left _ (List.mem_of_getElem? (i := 215) rfl))))) rfl
theorem mi_yX7_divide : Cond.instanceMethod yX7_divide ∈ TB := tb_T (List.mem_append_right _ (List.mem_append_right _ (List.mem_append_right _ (List.mem_append_left _ (List.mem_of_getElem? (i := 216) rfl))))) rfl
theorem me_yX7_divide : Cond.selects RX7 yX7_divide yX7_divide ∈ TB := tb_T (List.mem_append_right _ (List.mem_append_right _ (List.mem_append_right _ (List.mem_append_left _ (List.mem_of_getElem? (i := 217) rfl))))) rfl
theorem mkL_63 : Cond.methodLink RL 63 yX7_offer ∈ TB := tb_T (List.mem_append_right _ (List.mem_append_right _ (List.mem_append_right _ (List.mem_append_left _ (List.mem_of_getElem? (i := 219) rfl))))) rfl
theorem mi_yX7_offer : Cond.instanceMethod yX7_offer ∈ TB := tb_T (List.mem_append_right _ (List.mem_append_right _ (List.mem_append_right _ (List.mem_append_left _ (List.mem_of_getElem? (i := 220) rfl))))) rfl
theorem me_yX7_offer : Cond.selects RX7 yX7_offer yX7_offer ∈ TB := tb_T (List.mem_append_right _ (List.mem_append_right _ (List.mem_append_right _ (List.mem_append_left _ (List.mem_of_getElem? (i := 221) rfl))))) rfl
theorem mkX7_107 : Cond.methodLink RX7 107 yX7_rear ∈ TB := tb_T (List.mem_append_right _ (List.mem_append_right _ (List.mem_append_right _ (List.mem_append_left _ (List.mem_of_getElem? (i := 223) rfl))))) rfl
theorem ms_yX7_rear : Cond.static yX7_rear ∈ TB := tb_T (List.mem_append_right _ (List.mem_append_right _ (List.mem_append_right _ (List.mem_append_left _ (List.mem_of_getElem? (i := 224) rfl))))) rfl
theorem mkX7_110 : Cond.methodLink RX7 110 yX7_codeOf ∈ TB := tb_T (List.mem_append_right _ (List.mem_append_right _ (List.mem_append_right _ (List.mem_append_left _ (List.mem_of_getElem? (i := 226) rfl))))) rfl
theorem ms_yX7_codeOf : Cond.static yX7_codeOf ∈ TB := tb_T (List.mem_append_right _ (List.mem_append_right _ (List.mem_append_right _ (List.mem_append_left _ (List.mem_of_getElem? (i := 227) rfl))))) rfl
theorem mkX7_113 : Cond.methodLink RX7 113 yX7_ring ∈ TB := tb_T (List.mem_append_right _ (List.mem_append_right _ (List.mem_append_right _ (List.mem_append_left _ (List.mem_of_getElem? (i := 229) rfl))))) rfl
theorem mi_yX7_ring : Cond.instanceMethod yX7_ring ∈ TB := tb_T (List.mem_append_right _ (List.mem_append_right _ (List.mem_append_right _ (List.mem_append_left _ (List.mem_of_getElem? (i := 231) rfl))))) rfl
theorem mkL_68 : Cond.methodLink RL 68 yX7_answer ∈ TB := tb_T (List.mem_append_right _ (List.mem_append_right _ (List.mem_append_right _ (List.mem_append_left _ (List.mem_of_getElem? (i := 233) rfl))))) rfl
theorem mi_yX7_answer : Cond.instanceMethod yX7_answer ∈ TB := tb_T (List.mem_append_right _ (List.mem_append_right _ (List.mem_append_right _ (List.mem_append_left _ (List.mem_of_getElem? (i := 234) rfl))))) rfl
theorem me_yX7_answer : Cond.selects RX7 yX7_answer yX7_answer ∈ TB := tb_T (List.mem_append_right _ (List.mem_append_right _ (List.mem_append_right _ (List.mem_append_left _ (List.mem_of_getElem? (i := 235) rfl))))) rfl
theorem mkX7_123 : Cond.methodLink RX7 123 yX7_canAccept ∈ TB := tb_T (List.mem_append_right _ (List.mem_append_right _ (List.mem_append_right _ (List.mem_append_left _ (List.mem_of_getElem? (i := 237) rfl))))) rfl
theorem mi_yX7_canAccept : Cond.instanceMethod yX7_canAccept ∈ TB := tb_T (List.mem_append_right _ (List.mem_append_right _ (List.mem_append_right _ (List.mem_append_left _ (List.mem_of_getElem? (i := 239) rfl))))) rfl
theorem mkX7_117 : Cond.methodLink RX7 117 yX7_tokensAt ∈ TB := tb_T (List.mem_append_right _ (List.mem_append_right _ (List.mem_append_right _ (List.mem_append_right _ (List.mem_of_getElem? (i := 1) rfl))))) rfl
theorem ms_yX7_tokensAt : Cond.static yX7_tokensAt ∈ TB := tb_T (List.mem_append_right _ (List.mem_append_right _ (List.mem_append_right _ (List.mem_append_right _ (List.mem_of_getElem? (i := 2) rfl))))) rfl
theorem mkX7_120 : Cond.methodLink RX7 120 yX7_ahead ∈ TB := tb_T (List.mem_append_right _ (List.mem_append_right _ (List.mem_append_right _ (List.mem_append_right _ (List.mem_of_getElem? (i := 4) rfl))))) rfl
theorem ms_yX7_ahead : Cond.static yX7_ahead ∈ TB := tb_T (List.mem_append_right _ (List.mem_append_right _ (List.mem_append_right _ (List.mem_append_right _ (List.mem_of_getElem? (i := 5) rfl))))) rfl
theorem mkL_72 : Cond.methodLink RL 72 yX7_cancel ∈ TB := tb_T (List.mem_append_right _ (List.mem_append_right _ (List.mem_append_right _ (List.mem_append_right _ (List.mem_of_getElem? (i := 7) rfl))))) rfl
theorem mi_yX7_cancel : Cond.instanceMethod yX7_cancel ∈ TB := tb_T (List.mem_append_right _ (List.mem_append_right _ (List.mem_append_right _ (List.mem_append_right _ (List.mem_of_getElem? (i := 8) rfl))))) rfl
theorem me_yX7_cancel : Cond.selects RX7 yX7_cancel yX7_cancel ∈ TB := tb_T (List.mem_append_right _ (List.mem_append_right _ (List.mem_append_right _ (List.mem_append_right _ (List.mem_of_getElem? (i := 9) rfl))))) rfl
theorem mkX7_126 : Cond.methodLink RX7 126 yX7_unclear ∈ TB := tb_T (List.mem_append_right _ (List.mem_append_right _ (List.mem_append_right _ (List.mem_append_right _ (List.mem_of_getElem? (i := 11) rfl))))) rfl
theorem mi_yX7_unclear : Cond.instanceMethod yX7_unclear ∈ TB := tb_T (List.mem_append_right _ (List.mem_append_right _ (List.mem_append_right _ (List.mem_append_right _ (List.mem_of_getElem? (i := 13) rfl))))) rfl
theorem mkL_76 : Cond.methodLink RL 76 yX7_depart ∈ TB := tb_T (List.mem_append_right _ (List.mem_append_right _ (List.mem_append_right _ (List.mem_append_right _ (List.mem_of_getElem? (i := 15) rfl))))) rfl
theorem mi_yX7_depart : Cond.instanceMethod yX7_depart ∈ TB := tb_T (List.mem_append_right _ (List.mem_append_right _ (List.mem_append_right _ (List.mem_append_right _ (List.mem_of_getElem? (i := 16) rfl))))) rfl
theorem me_yX7_depart : Cond.selects RX7 yX7_depart yX7_depart ∈ TB := tb_T (List.mem_append_right _ (List.mem_append_right _ (List.mem_append_right _ (List.mem_append_right _ (List.mem_of_getElem? (i := 17) rfl))))) rfl
theorem mkL_80 : Cond.methodLink RL 80 yX7_admit ∈ TB := tb_T (List.mem_append_right _ (List.mem_append_right _ (List.mem_append_right _ (List.mem_append_right _ (List.mem_of_getElem? (i := 19) rfl))))) rfl
theorem mi_yX7_admit : Cond.instanceMethod yX7_admit ∈ TB := tb_T (List.mem_append_right _ (List.mem_append_right _ (List.mem_append_right _ (List.mem_append_right _ (List.mem_of_getElem? (i := 20) rfl))))) rfl
theorem me_yX7_admit : Cond.selects RX7 yX7_admit yX7_admit ∈ TB := tb_T (List.mem_append_right _ (List.mem_append_right _ (List.mem_append_right _ (List.mem_append_right _ (List.mem_of_getElem? (i := 21) rfl))))) rfl
theorem mkX7_129 : Cond.methodLink RX7 129 yX7_isInside ∈ TB := tb_T (List.mem_append_right _ (List.mem_append_right _ (List.mem_append_right _ (List.mem_append_right _ (List.mem_of_getElem? (i := 23) rfl))))) rfl
theorem mi_yX7_isInside : Cond.instanceMethod yX7_isInside ∈ TB := tb_T (List.mem_append_right _ (List.mem_append_right _ (List.mem_append_right _ (List.mem_append_right _ (List.mem_of_getElem? (i := 25) rfl))))) rfl
theorem mkL_84 : Cond.methodLink RL 84 yX7_out ∈ TB := tb_T (List.mem_append_right _ (List.mem_append_right _ (List.mem_append_right _ (List.mem_append_right _ (List.mem_of_getElem? (i := 27) rfl))))) rfl
theorem mi_yX7_out : Cond.instanceMethod yX7_out ∈ TB := tb_T (List.mem_append_right _ (List.mem_append_right _ (List.mem_append_right _ (List.mem_append_right _ (List.mem_of_getElem? (i := 28) rfl))))) rfl
theorem me_yX7_out : Cond.selects RX7 yX7_out yX7_out ∈ TB := tb_T (List.mem_append_right _ (List.mem_append_right _ (List.mem_append_right _ (List.mem_append_right _ (List.mem_of_getElem? (i := 29) rfl))))) rfl
theorem mkL_88 : Cond.methodLink RL 88 yX7_assist ∈ TB := tb_T (List.mem_append_right _ (List.mem_append_right _ (List.mem_append_right _ (List.mem_append_right _ (List.mem_of_getElem? (i := 31) rfl))))) rfl
theorem mi_yX7_assist : Cond.instanceMethod yX7_assist ∈ TB := tb_T (List.mem_append_right _ (List.mem_append_right _ (List.mem_append_right _ (List.mem_append_right _ (List.mem_of_getElem? (i := 32) rfl))))) rfl
theorem me_yX7_assist : Cond.selects RX7 yX7_assist yX7_assist ∈ TB := tb_T (List.mem_append_right _ (List.mem_append_right _ (List.mem_append_right _ (List.mem_append_right _ (List.mem_of_getElem? (i := 33) rfl))))) rfl
theorem mkL_92 : Cond.methodLink RL 92 yX7_obstruct ∈ TB := tb_T (List.mem_append_right _ (List.mem_append_right _ (List.mem_append_right _ (List.mem_append_right _ (List.mem_of_getElem? (i := 35) rfl))))) rfl
theorem mi_yX7_obstruct : Cond.instanceMethod yX7_obstruct ∈ TB := tb_T (List.mem_append_right _ (List.mem_append_right _ (List.mem_append_right _ (List.mem_append_right _ (List.mem_of_getElem? (i := 36) rfl))))) rfl
theorem me_yX7_obstruct : Cond.selects RX7 yX7_obstruct yX7_obstruct ∈ TB := tb_T (List.mem_append_right _ (List.mem_append_right _ (List.mem_append_right _ (List.mem_append_right _ (List.mem_of_getElem? (i := 37) rfl))))) rfl
theorem mkL_96 : Cond.methodLink RL 96 yX7_lift ∈ TB := tb_T (List.mem_append_right _ (List.mem_append_right _ (List.mem_append_right _ (List.mem_append_right _ (List.mem_of_getElem? (i := 39) rfl))))) rfl
theorem mi_yX7_lift : Cond.instanceMethod yX7_lift ∈ TB := tb_T (List.mem_append_right _ (List.mem_append_right _ (List.mem_append_right _ (List.mem_append_right _ (List.mem_of_getElem? (i := 40) rfl))))) rfl
theorem me_yX7_lift : Cond.selects RX7 yX7_lift yX7_lift ∈ TB := tb_T (List.mem_append_right _ (List.mem_append_right _ (List.mem_append_right _ (List.mem_append_right _ (List.mem_of_getElem? (i := 41) rfl))))) rfl
theorem mkL_100 : Cond.methodLink RL 100 yX7_pass ∈ TB := tb_T (List.mem_append_right _ (List.mem_append_right _ (List.mem_append_right _ (List.mem_append_right _ (List.mem_of_getElem? (i := 43) rfl))))) rfl
theorem mi_yX7_pass : Cond.instanceMethod yX7_pass ∈ TB := tb_T (List.mem_append_right _ (List.mem_append_right _ (List.mem_append_right _ (List.mem_append_right _ (List.mem_of_getElem? (i := 44) rfl))))) rfl
theorem me_yX7_pass : Cond.selects RX7 yX7_pass yX7_pass ∈ TB := tb_T (List.mem_append_right _ (List.mem_append_right _ (List.mem_append_right _ (List.mem_append_right _ (List.mem_of_getElem? (i := 45) rfl))))) rfl
theorem knX7_132 : Cond.constant RX7 132 (1000000) ∈ TB := tb_T (List.mem_append_right _ (List.mem_append_right _ (List.mem_append_right _ (List.mem_append_right _ (List.mem_of_getElem? (i := 47) rfl))))) rfl
theorem mkX7_133 : Cond.methodLink RX7 133 yX7_tick ∈ TB := tb_T (List.mem_append_right _ (List.mem_append_right _ (List.mem_append_right _ (List.mem_append_right _ (List.mem_of_getElem? (i := 48) rfl))))) rfl
theorem mi_yX7_tick : Cond.instanceMethod yX7_tick ∈ TB := tb_T (List.mem_append_right _ (List.mem_append_right _ (List.mem_append_right _ (List.mem_append_right _ (List.mem_of_getElem? (i := 50) rfl))))) rfl
theorem mkL_104 : Cond.methodLink RL 104 yX7_signal ∈ TB := tb_T (List.mem_append_right _ (List.mem_append_right _ (List.mem_append_right _ (List.mem_append_right _ (List.mem_of_getElem? (i := 52) rfl))))) rfl
theorem mi_yX7_signal : Cond.instanceMethod yX7_signal ∈ TB := tb_T (List.mem_append_right _ (List.mem_append_right _ (List.mem_append_right _ (List.mem_append_right _ (List.mem_of_getElem? (i := 53) rfl))))) rfl
theorem me_yX7_signal : Cond.selects RX7 yX7_signal yX7_signal ∈ TB := tb_T (List.mem_append_right _ (List.mem_append_right _ (List.mem_append_right _ (List.mem_append_right _ (List.mem_of_getElem? (i := 54) rfl))))) rfl
theorem mkL_108 : Cond.methodLink RL 108 yX7_rung ∈ TB := tb_T (List.mem_append_right _ (List.mem_append_right _ (List.mem_append_right _ (List.mem_append_right _ (List.mem_of_getElem? (i := 56) rfl))))) rfl
theorem mi_yX7_rung : Cond.instanceMethod yX7_rung ∈ TB := tb_T (List.mem_append_right _ (List.mem_append_right _ (List.mem_append_right _ (List.mem_append_right _ (List.mem_of_getElem? (i := 57) rfl))))) rfl
theorem me_yX7_rung : Cond.selects RX7 yX7_rung yX7_rung ∈ TB := tb_T (List.mem_append_right _ (List.mem_append_right _ (List.mem_append_right _ (List.mem_append_right _ (List.mem_of_getElem? (i := 58) rfl))))) rfl
theorem mkL_112 : Cond.methodLink RL 112 yX7_work ∈ TB := tb_T (List.mem_append_right _ (List.mem_append_right _ (List.mem_append_right _ (List.mem_append_right _ (List.mem_of_getElem? (i := 60) rfl))))) rfl
theorem mi_yX7_work : Cond.instanceMethod yX7_work ∈ TB := tb_T (List.mem_append_right _ (List.mem_append_right _ (List.mem_append_right _ (List.mem_append_right _ (List.mem_of_getElem? (i := 61) rfl))))) rfl
theorem me_yX7_work : Cond.selects RX7 yX7_work yX7_work ∈ TB := tb_T (List.mem_append_right _ (List.mem_append_right _ (List.mem_append_right _ (List.mem_append_right _ (List.mem_of_getElem? (i := 62) rfl))))) rfl
theorem mkX7_165 : Cond.methodLink RX7 165 yX7_trainsAt ∈ TB := tb_T (List.mem_append_right _ (List.mem_append_right _ (List.mem_append_right _ (List.mem_append_right _ (List.mem_of_getElem? (i := 64) rfl))))) rfl
theorem mi_yX7_trainsAt : Cond.instanceMethod yX7_trainsAt ∈ TB := tb_T (List.mem_append_right _ (List.mem_append_right _ (List.mem_append_right _ (List.mem_append_right _ (List.mem_of_getElem? (i := 66) rfl))))) rfl
theorem mkX7_168 : Cond.methodLink RX7 168 yX7_workTick ∈ TB := tb_T (List.mem_append_right _ (List.mem_append_right _ (List.mem_append_right _ (List.mem_append_right _ (List.mem_of_getElem? (i := 68) rfl))))) rfl
theorem mi_yX7_workTick : Cond.instanceMethod yX7_workTick ∈ TB := tb_T (List.mem_append_right _ (List.mem_append_right _ (List.mem_append_right _ (List.mem_append_right _ (List.mem_of_getElem? (i := 70) rfl))))) rfl
theorem mkX7_158 : Cond.methodLink RX7 158 yX7_workBlocks ∈ TB := tb_T (List.mem_append_right _ (List.mem_append_right _ (List.mem_append_right _ (List.mem_append_right _ (List.mem_of_getElem? (i := 72) rfl))))) rfl
theorem mi_yX7_workBlocks : Cond.instanceMethod yX7_workBlocks ∈ TB := tb_T (List.mem_append_right _ (List.mem_append_right _ (List.mem_append_right _ (List.mem_append_right _ (List.mem_of_getElem? (i := 74) rfl))))) rfl
theorem mkX7_136 : Cond.methodLink RX7 136 yX7_out ∈ TB := tb_T (List.mem_append_right _ (List.mem_append_right _ (List.mem_append_right _ (List.mem_append_right _ (List.mem_of_getElem? (i := 76) rfl))))) rfl
theorem mkX7_139 : Cond.methodLink RX7 139 yX7_assist ∈ TB := tb_T (List.mem_append_right _ (List.mem_append_right _ (List.mem_append_right _ (List.mem_append_right _ (List.mem_of_getElem? (i := 77) rfl))))) rfl
theorem mkX7_142 : Cond.methodLink RX7 142 yX7_admit ∈ TB := tb_T (List.mem_append_right _ (List.mem_append_right _ (List.mem_append_right _ (List.mem_append_right _ (List.mem_of_getElem? (i := 78) rfl))))) rfl
theorem mkX7_145 : Cond.methodLink RX7 145 yX7_answer ∈ TB := tb_T (List.mem_append_right _ (List.mem_append_right _ (List.mem_append_right _ (List.mem_append_right _ (List.mem_of_getElem? (i := 79) rfl))))) rfl
theorem mkX7_162 : Cond.methodLink RX7 162 yX7_workTrains ∈ TB := tb_T (List.mem_append_right _ (List.mem_append_right _ (List.mem_append_right _ (List.mem_append_right _ (List.mem_of_getElem? (i := 80) rfl))))) rfl
theorem mi_yX7_workTrains : Cond.instanceMethod yX7_workTrains ∈ TB := tb_T (List.mem_append_right _ (List.mem_append_right _ (List.mem_append_right _ (List.mem_append_right _ (List.mem_of_getElem? (i := 82) rfl))))) rfl
theorem mkX7_149 : Cond.methodLink RX7 149 yX7_leave ∈ TB := tb_T (List.mem_append_right _ (List.mem_append_right _ (List.mem_append_right _ (List.mem_append_right _ (List.mem_of_getElem? (i := 84) rfl))))) rfl
theorem mkX7_152 : Cond.methodLink RX7 152 yX7_offer ∈ TB := tb_T (List.mem_append_right _ (List.mem_append_right _ (List.mem_append_right _ (List.mem_append_right _ (List.mem_of_getElem? (i := 85) rfl))))) rfl
theorem mkX7_155 : Cond.methodLink RX7 155 yX7_depart ∈ TB := tb_T (List.mem_append_right _ (List.mem_append_right _ (List.mem_append_right _ (List.mem_append_right _ (List.mem_of_getElem? (i := 86) rfl))))) rfl
theorem mkL_116 : Cond.methodLink RL 116 yX7_forecast ∈ TB := tb_T (List.mem_append_right _ (List.mem_append_right _ (List.mem_append_right _ (List.mem_append_right _ (List.mem_of_getElem? (i := 87) rfl))))) rfl
theorem mi_yX7_forecast : Cond.instanceMethod yX7_forecast ∈ TB := tb_T (List.mem_append_right _ (List.mem_append_right _ (List.mem_append_right _ (List.mem_append_right _ (List.mem_of_getElem? (i := 88) rfl))))) rfl
theorem me_yX7_forecast : Cond.selects RX7 yX7_forecast yX7_forecast ∈ TB := tb_T (List.mem_append_right _ (List.mem_append_right _ (List.mem_append_right _ (List.mem_append_right _ (List.mem_of_getElem? (i := 89) rfl))))) rfl
theorem mkX7_171 : Cond.methodLink RX7 171 yX7_putAside ∈ TB := tb_T (List.mem_append_right _ (List.mem_append_right _ (List.mem_append_right _ (List.mem_append_right _ (List.mem_of_getElem? (i := 91) rfl))))) rfl
theorem mi_yX7_putAside : Cond.instanceMethod yX7_putAside ∈ TB := tb_T (List.mem_append_right _ (List.mem_append_right _ (List.mem_append_right _ (List.mem_append_right _ (List.mem_of_getElem? (i := 93) rfl))))) rfl
theorem mkX7_174 : Cond.methodLink RX7 174 yX7_putBack ∈ TB := tb_T (List.mem_append_right _ (List.mem_append_right _ (List.mem_append_right _ (List.mem_append_right _ (List.mem_of_getElem? (i := 95) rfl))))) rfl
theorem mi_yX7_putBack : Cond.instanceMethod yX7_putBack ∈ TB := tb_T (List.mem_append_right _ (List.mem_append_right _ (List.mem_append_right _ (List.mem_append_right _ (List.mem_of_getElem? (i := 97) rfl))))) rfl
theorem mkL_120 : Cond.methodLink RL 120 yX7_capacity ∈ TB := tb_T (List.mem_append_right _ (List.mem_append_right _ (List.mem_append_right _ (List.mem_append_right _ (List.mem_of_getElem? (i := 99) rfl))))) rfl
theorem mi_yX7_capacity : Cond.instanceMethod yX7_capacity ∈ TB := tb_T (List.mem_append_right _ (List.mem_append_right _ (List.mem_append_right _ (List.mem_append_right _ (List.mem_of_getElem? (i := 100) rfl))))) rfl
theorem me_yX7_capacity : Cond.selects RX7 yX7_capacity yX7_capacity ∈ TB := tb_T (List.mem_append_right _ (List.mem_append_right _ (List.mem_append_right _ (List.mem_append_right _ (List.mem_of_getElem? (i := 101) rfl))))) rfl
theorem mkL_124 : Cond.methodLink RL 124 yX7_say ∈ TB := tb_T (List.mem_append_right _ (List.mem_append_right _ (List.mem_append_right _ (List.mem_append_right _ (List.mem_of_getElem? (i := 103) rfl))))) rfl
theorem mi_yX7_say : Cond.instanceMethod yX7_say ∈ TB := tb_T (List.mem_append_right _ (List.mem_append_right _ (List.mem_append_right _ (List.mem_append_right _ (List.mem_of_getElem? (i := 104) rfl))))) rfl
theorem me_yX7_say : Cond.selects RX7 yX7_say yX7_say ∈ TB := tb_T (List.mem_append_right _ (List.mem_append_right _ (List.mem_append_right _ (List.mem_append_right _ (List.mem_of_getElem? (i := 105) rfl))))) rfl
theorem mkL_129 : Cond.methodLink RL 129 yX7_wipe ∈ TB := tb_T (List.mem_append_right _ (List.mem_append_right _ (List.mem_append_right _ (List.mem_append_right _ (List.mem_of_getElem? (i := 107) rfl))))) rfl
theorem mi_yX7_wipe : Cond.instanceMethod yX7_wipe ∈ TB := tb_T (List.mem_append_right _ (List.mem_append_right _ (List.mem_append_right _ (List.mem_append_right _ (List.mem_of_getElem? (i := 108) rfl))))) rfl
theorem me_yX7_wipe : Cond.selects RX7 yX7_wipe yX7_wipe ∈ TB := tb_T (List.mem_append_right _ (List.mem_append_right _ (List.mem_append_right _ (List.mem_append_right _ (List.mem_of_getElem? (i := 109) rfl))))) rfl
theorem mkL_133 : Cond.methodLink RL 133 yX7_fault ∈ TB := tb_T (List.mem_append_right _ (List.mem_append_right _ (List.mem_append_right _ (List.mem_append_right _ (List.mem_of_getElem? (i := 111) rfl))))) rfl
theorem mi_yX7_fault : Cond.instanceMethod yX7_fault ∈ TB := tb_T (List.mem_append_right _ (List.mem_append_right _ (List.mem_append_right _ (List.mem_append_right _ (List.mem_of_getElem? (i := 112) rfl))))) rfl
theorem me_yX7_fault : Cond.selects RX7 yX7_fault yX7_fault ∈ TB := tb_T (List.mem_append_right _ (List.mem_append_right _ (List.mem_append_right _ (List.mem_append_right _ (List.mem_of_getElem? (i := 113) rfl))))) rfl
theorem mkX7_206 : Cond.methodLink RX7 206 yX7_readOrder ∈ TB := tb_T (List.mem_append_right _ (List.mem_append_right _ (List.mem_append_right _ (List.mem_append_right _ (List.mem_of_getElem? (i := 115) rfl))))) rfl
theorem mi_yX7_readOrder : Cond.instanceMethod yX7_readOrder ∈ TB := tb_T (List.mem_append_right _ (List.mem_append_right _ (List.mem_append_right _ (List.mem_append_right _ (List.mem_of_getElem? (i := 117) rfl))))) rfl
theorem mkX7_184 : Cond.methodLink RX7 184 yX7_nextSign ∈ TB := tb_T (List.mem_append_right _ (List.mem_append_right _ (List.mem_append_right _ (List.mem_append_right _ (List.mem_of_getElem? (i := 119) rfl))))) rfl
theorem mi_yX7_nextSign : Cond.instanceMethod yX7_nextSign ∈ TB := tb_T (List.mem_append_right _ (List.mem_append_right _ (List.mem_append_right _ (List.mem_append_right _ (List.mem_of_getElem? (i := 121) rfl))))) rfl
theorem mkX7_191 : Cond.methodLink RX7 191 yX7_isForTrain ∈ TB := tb_T (List.mem_append_right _ (List.mem_append_right _ (List.mem_append_right _ (List.mem_append_right _ (List.mem_of_getElem? (i := 123) rfl))))) rfl
theorem ms_yX7_isForTrain : Cond.static yX7_isForTrain ∈ TB := tb_T (List.mem_append_right _ (List.mem_append_right _ (List.mem_append_right _ (List.mem_append_right _ (List.mem_of_getElem? (i := 124) rfl))))) rfl
theorem mkX7_194 : Cond.methodLink RX7 194 yX7_isForBlock ∈ TB := tb_T (List.mem_append_right _ (List.mem_append_right _ (List.mem_append_right _ (List.mem_append_right _ (List.mem_of_getElem? (i := 126) rfl))))) rfl
theorem ms_yX7_isForBlock : Cond.static yX7_isForBlock ∈ TB := tb_T (List.mem_append_right _ (List.mem_append_right _ (List.mem_append_right _ (List.mem_append_right _ (List.mem_of_getElem? (i := 127) rfl))))) rfl
theorem mkX7_200 : Cond.methodLink RX7 200 yX7_takeNumber ∈ TB := tb_T (List.mem_append_right _ (List.mem_append_right _ (List.mem_append_right _ (List.mem_append_right _ (List.mem_of_getElem? (i := 129) rfl))))) rfl
theorem mi_yX7_takeNumber : Cond.instanceMethod yX7_takeNumber ∈ TB := tb_T (List.mem_append_right _ (List.mem_append_right _ (List.mem_append_right _ (List.mem_append_right _ (List.mem_of_getElem? (i := 131) rfl))))) rfl
theorem mkX7_203 : Cond.methodLink RX7 203 yX7_takeSide ∈ TB := tb_T (List.mem_append_right _ (List.mem_append_right _ (List.mem_append_right _ (List.mem_append_right _ (List.mem_of_getElem? (i := 133) rfl))))) rfl
theorem mi_yX7_takeSide : Cond.instanceMethod yX7_takeSide ∈ TB := tb_T (List.mem_append_right _ (List.mem_append_right _ (List.mem_append_right _ (List.mem_append_right _ (List.mem_of_getElem? (i := 135) rfl))))) rfl
theorem mkL_137 : Cond.methodLink RL 137 yX7_carryOut ∈ TB := tb_T (List.mem_append_right _ (List.mem_append_right _ (List.mem_append_right _ (List.mem_append_right _ (List.mem_of_getElem? (i := 137) rfl))))) rfl
theorem mi_yX7_carryOut : Cond.instanceMethod yX7_carryOut ∈ TB := tb_T (List.mem_append_right _ (List.mem_append_right _ (List.mem_append_right _ (List.mem_append_right _ (List.mem_of_getElem? (i := 138) rfl))))) rfl
theorem me_yX7_carryOut : Cond.selects RX7 yX7_carryOut yX7_carryOut ∈ TB := tb_T (List.mem_append_right _ (List.mem_append_right _ (List.mem_append_right _ (List.mem_append_right _ (List.mem_of_getElem? (i := 139) rfl))))) rfl
theorem mkX7_218 : Cond.methodLink RX7 218 yX7_fault ∈ TB := tb_T (List.mem_append_right _ (List.mem_append_right _ (List.mem_append_right _ (List.mem_append_right _ (List.mem_of_getElem? (i := 141) rfl))))) rfl
theorem mkX7_221 : Cond.methodLink RX7 221 yX7_carryOutOne ∈ TB := tb_T (List.mem_append_right _ (List.mem_append_right _ (List.mem_append_right _ (List.mem_append_right _ (List.mem_of_getElem? (i := 142) rfl))))) rfl
theorem mi_yX7_carryOutOne : Cond.instanceMethod yX7_carryOutOne ∈ TB := tb_T (List.mem_append_right _ (List.mem_append_right _ (List.mem_append_right _ (List.mem_append_right _ (List.mem_of_getElem? (i := 144) rfl))))) rfl
theorem mkX7_209 : Cond.methodLink RX7 209 yX7_shunt ∈ TB := tb_T (List.mem_append_right _ (List.mem_append_right _ (List.mem_append_right _ (List.mem_append_right _ (List.mem_of_getElem? (i := 146) rfl))))) rfl
theorem mkX7_212 : Cond.methodLink RX7 212 yX7_cancel ∈ TB := tb_T (List.mem_append_right _ (List.mem_append_right _ (List.mem_append_right _ (List.mem_append_right _ (List.mem_of_getElem? (i := 147) rfl))))) rfl
theorem mkX7_215 : Cond.methodLink RX7 215 yX7_pass ∈ TB := tb_T (List.mem_append_right _ (List.mem_append_right _ (List.mem_append_right _ (List.mem_append_right _ (List.mem_of_getElem? (i := 148) rfl))))) rfl
theorem mkL_141 : Cond.methodLink RL 141 yX7_count ∈ TB := tb_T (List.mem_append_right _ (List.mem_append_right _ (List.mem_append_right _ (List.mem_append_right _ (List.mem_of_getElem? (i := 149) rfl))))) rfl
theorem mi_yX7_count : Cond.instanceMethod yX7_count ∈ TB := tb_T (List.mem_append_right _ (List.mem_append_right _ (List.mem_append_right _ (List.mem_append_right _ (List.mem_of_getElem? (i := 150) rfl))))) rfl
theorem me_yX7_count : Cond.selects RX7 yX7_count yX7_count ∈ TB := tb_T (List.mem_append_right _ (List.mem_append_right _ (List.mem_append_right _ (List.mem_append_right _ (List.mem_of_getElem? (i := 151) rfl))))) rfl
theorem mkX7_224 : Cond.methodLink RX7 224 yX7_blocksWith ∈ TB := tb_T (List.mem_append_right _ (List.mem_append_right _ (List.mem_append_right _ (List.mem_append_right _ (List.mem_of_getElem? (i := 153) rfl))))) rfl
theorem mi_yX7_blocksWith : Cond.instanceMethod yX7_blocksWith ∈ TB := tb_T (List.mem_append_right _ (List.mem_append_right _ (List.mem_append_right _ (List.mem_append_right _ (List.mem_of_getElem? (i := 155) rfl))))) rfl
theorem mkL_145 : Cond.methodLink RL 145 yX7_save ∈ TB := tb_T (List.mem_append_right _ (List.mem_append_right _ (List.mem_append_right _ (List.mem_append_right _ (List.mem_of_getElem? (i := 157) rfl))))) rfl
theorem mi_yX7_save : Cond.instanceMethod yX7_save ∈ TB := tb_T (List.mem_append_right _ (List.mem_append_right _ (List.mem_append_right _ (List.mem_append_right _ (List.mem_of_getElem? (i := 158) rfl))))) rfl
theorem me_yX7_save : Cond.selects RX7 yX7_save yX7_save ∈ TB := tb_T (List.mem_append_right _ (List.mem_append_right _ (List.mem_append_right _ (List.mem_append_right _ (List.mem_of_getElem? (i := 159) rfl))))) rfl
theorem mkL_149 : Cond.methodLink RL 149 yX7_restore ∈ TB := tb_T (List.mem_append_right _ (List.mem_append_right _ (List.mem_append_right _ (List.mem_append_right _ (List.mem_of_getElem? (i := 161) rfl))))) rfl
theorem mi_yX7_restore : Cond.instanceMethod yX7_restore ∈ TB := tb_T (List.mem_append_right _ (List.mem_append_right _ (List.mem_append_right _ (List.mem_append_right _ (List.mem_of_getElem? (i := 162) rfl))))) rfl
theorem me_yX7_restore : Cond.selects RX7 yX7_restore yX7_restore ∈ TB := tb_T (List.mem_append_right _ (List.mem_append_right _ (List.mem_append_right _ (List.mem_append_right _ (List.mem_of_getElem? (i := 163) rfl))))) rfl
theorem me_yX1_shuntToLoop : Cond.selects RX1 yX1_shuntToLoop yX1_shuntToLoop ∈ TB := tb_S (List.mem_append_left _ (List.mem_of_getElem? (i := 0) rfl)) rfl
theorem me_yX1_shuntBack : Cond.selects RX1 yX1_shuntBack yX1_shuntBack ∈ TB := tb_S (List.mem_append_left _ (List.mem_of_getElem? (i := 1) rfl)) rfl
theorem me_yX1_ringRear : Cond.selects RX1 yX1_ringRear yX1_ringRear ∈ TB := tb_S (List.mem_append_left _ (List.mem_of_getElem? (i := 2) rfl)) rfl
theorem me_yX1_isTokenReady : Cond.selects RX1 yX1_isTokenReady yX1_isTokenReady ∈ TB := tb_S (List.mem_append_left _ (List.mem_of_getElem? (i := 3) rfl)) rfl
theorem me_yX4_addTokens : Cond.selects RX4 yX4_addTokens yX4_addTokens ∈ TB := tb_S (List.mem_append_left _ (List.mem_of_getElem? (i := 4) rfl)) rfl
theorem me_yX1_ringAhead : Cond.selects RX1 yX1_ringAhead yX1_ringAhead ∈ TB := tb_S (List.mem_append_left _ (List.mem_of_getElem? (i := 5) rfl)) rfl
theorem me_yX3_oldest : Cond.selects RX3 yX3_oldest yX3_oldest ∈ TB := tb_S (List.mem_append_left _ (List.mem_of_getElem? (i := 6) rfl)) rfl
theorem me_yX1_clearSections : Cond.selects RX1 yX1_clearSections yX1_clearSections ∈ TB := tb_S (List.mem_append_left _ (List.mem_of_getElem? (i := 7) rfl)) rfl
theorem me_yX1_leaveAll : Cond.selects RX1 yX1_leaveAll yX1_leaveAll ∈ TB := tb_S (List.mem_append_left _ (List.mem_of_getElem? (i := 8) rfl)) rfl
theorem me_yX1_offerAll : Cond.selects RX1 yX1_offerAll yX1_offerAll ∈ TB := tb_S (List.mem_append_left _ (List.mem_of_getElem? (i := 9) rfl)) rfl
theorem me_yX1_answerAll : Cond.selects RX1 yX1_answerAll yX1_answerAll ∈ TB := tb_S (List.mem_append_left _ (List.mem_of_getElem? (i := 10) rfl)) rfl
theorem me_yX1_departAll : Cond.selects RX1 yX1_departAll yX1_departAll ∈ TB := tb_S (List.mem_append_left _ (List.mem_of_getElem? (i := 11) rfl)) rfl
theorem me_yX2_readSign : Cond.selects RX2 yX2_readSign yX2_readSign ∈ TB := tb_S (List.mem_append_left _ (List.mem_of_getElem? (i := 12) rfl)) rfl
theorem me_yX6_obey : Cond.selects RX6 yX6_obey yX6_obey ∈ TB := tb_S (List.mem_append_left _ (List.mem_of_getElem? (i := 13) rfl)) rfl
theorem me_yX7_lay : Cond.selects RX7 yX7_lay yX7_lay ∈ TB := tb_S (List.mem_append_left _ (List.mem_of_getElem? (i := 14) rfl)) rfl
theorem me_yX7_layBlocks : Cond.selects RX7 yX7_layBlocks yX7_layBlocks ∈ TB := tb_S (List.mem_append_left _ (List.mem_of_getElem? (i := 15) rfl)) rfl
theorem me_yX7_isSection : Cond.selects RX7 yX7_isSection yX7_isSection ∈ TB := tb_S (List.mem_append_right _ (List.mem_append_left _ (List.mem_of_getElem? (i := 0) rfl))) rfl
theorem me_yX7_sections : Cond.selects RX7 yX7_sections yX7_sections ∈ TB := tb_S (List.mem_append_right _ (List.mem_append_left _ (List.mem_of_getElem? (i := 1) rfl))) rfl
theorem me_yX7_many : Cond.selects RX7 yX7_many yX7_many ∈ TB := tb_S (List.mem_append_right _ (List.mem_append_left _ (List.mem_of_getElem? (i := 2) rfl))) rfl
theorem me_yX7_ofTrain : Cond.selects RX7 yX7_ofTrain yX7_ofTrain ∈ TB := tb_S (List.mem_append_right _ (List.mem_append_left _ (List.mem_of_getElem? (i := 3) rfl))) rfl
theorem me_yX7_isSingle : Cond.selects RX7 yX7_isSingle yX7_isSingle ∈ TB := tb_S (List.mem_append_right _ (List.mem_append_left _ (List.mem_of_getElem? (i := 4) rfl))) rfl
theorem me_yX7_isTokenOut : Cond.selects RX7 yX7_isTokenOut yX7_isTokenOut ∈ TB := tb_S (List.mem_append_right _ (List.mem_append_left _ (List.mem_of_getElem? (i := 5) rfl))) rfl
theorem me_yX7_ofBlock : Cond.selects RX7 yX7_ofBlock yX7_ofBlock ∈ TB := tb_S (List.mem_append_right _ (List.mem_append_left _ (List.mem_of_getElem? (i := 6) rfl))) rfl
theorem me_yX7_isBlock : Cond.selects RX7 yX7_isBlock yX7_isBlock ∈ TB := tb_S (List.mem_append_right _ (List.mem_append_left _ (List.mem_of_getElem? (i := 7) rfl))) rfl
theorem me_yX7_firstBox : Cond.selects RX7 yX7_firstBox yX7_firstBox ∈ TB := tb_S (List.mem_append_right _ (List.mem_append_left _ (List.mem_of_getElem? (i := 8) rfl))) rfl
theorem me_yX7_isFree : Cond.selects RX7 yX7_isFree yX7_isFree ∈ TB := tb_S (List.mem_append_right _ (List.mem_append_left _ (List.mem_of_getElem? (i := 9) rfl))) rfl
theorem me_yX7_add : Cond.selects RX7 yX7_add yX7_add ∈ TB := tb_S (List.mem_append_right _ (List.mem_append_left _ (List.mem_of_getElem? (i := 10) rfl))) rfl
theorem me_yX7_layTrain : Cond.selects RX7 yX7_layTrain yX7_layTrain ∈ TB := tb_S (List.mem_append_right _ (List.mem_append_left _ (List.mem_of_getElem? (i := 11) rfl))) rfl
theorem me_yX7_isTrain : Cond.selects RX7 yX7_isTrain yX7_isTrain ∈ TB := tb_S (List.mem_append_right _ (List.mem_append_left _ (List.mem_of_getElem? (i := 12) rfl))) rfl
theorem me_yX7_canGoIn : Cond.selects RX7 yX7_canGoIn yX7_canGoIn ∈ TB := tb_S (List.mem_append_right _ (List.mem_append_left _ (List.mem_of_getElem? (i := 13) rfl))) rfl
theorem me_yX7_isOffered : Cond.selects RX7 yX7_isOffered yX7_isOffered ∈ TB := tb_S (List.mem_append_right _ (List.mem_append_left _ (List.mem_of_getElem? (i := 14) rfl))) rfl
theorem me_yX7_nextSection : Cond.selects RX7 yX7_nextSection yX7_nextSection ∈ TB := tb_S (List.mem_append_right _ (List.mem_append_left _ (List.mem_of_getElem? (i := 15) rfl))) rfl
theorem me_yX7_isClearFor : Cond.selects RX7 yX7_isClearFor yX7_isClearFor ∈ TB := tb_S (List.mem_append_right _ (List.mem_append_right _ (List.mem_append_left _ (List.mem_of_getElem? (i := 0) rfl)))) rfl
theorem me_yX7_isCalmBehind : Cond.selects RX7 yX7_isCalmBehind yX7_isCalmBehind ∈ TB := tb_S (List.mem_append_right _ (List.mem_append_right _ (List.mem_append_left _ (List.mem_of_getElem? (i := 1) rfl)))) rfl
theorem me_yX7_ring : Cond.selects RX7 yX7_ring yX7_ring ∈ TB := tb_S (List.mem_append_right _ (List.mem_append_right _ (List.mem_append_left _ (List.mem_of_getElem? (i := 2) rfl)))) rfl
theorem me_yX7_canAccept : Cond.selects RX7 yX7_canAccept yX7_canAccept ∈ TB := tb_S (List.mem_append_right _ (List.mem_append_right _ (List.mem_append_left _ (List.mem_of_getElem? (i := 3) rfl)))) rfl
theorem me_yX7_unclear : Cond.selects RX7 yX7_unclear yX7_unclear ∈ TB := tb_S (List.mem_append_right _ (List.mem_append_right _ (List.mem_append_left _ (List.mem_of_getElem? (i := 4) rfl)))) rfl
theorem me_yX7_isInside : Cond.selects RX7 yX7_isInside yX7_isInside ∈ TB := tb_S (List.mem_append_right _ (List.mem_append_right _ (List.mem_append_left _ (List.mem_of_getElem? (i := 5) rfl)))) rfl
theorem me_yX7_tick : Cond.selects RX7 yX7_tick yX7_tick ∈ TB := tb_S (List.mem_append_right _ (List.mem_append_right _ (List.mem_append_left _ (List.mem_of_getElem? (i := 6) rfl)))) rfl
theorem me_yX7_trainsAt : Cond.selects RX7 yX7_trainsAt yX7_trainsAt ∈ TB := tb_S (List.mem_append_right _ (List.mem_append_right _ (List.mem_append_left _ (List.mem_of_getElem? (i := 7) rfl)))) rfl
theorem me_yX7_workTick : Cond.selects RX7 yX7_workTick yX7_workTick ∈ TB := tb_S (List.mem_append_right _ (List.mem_append_right _ (List.mem_append_left _ (List.mem_of_getElem? (i := 8) rfl)))) rfl
theorem me_yX7_workBlocks : Cond.selects RX7 yX7_workBlocks yX7_workBlocks ∈ TB := tb_S (List.mem_append_right _ (List.mem_append_right _ (List.mem_append_left _ (List.mem_of_getElem? (i := 9) rfl)))) rfl
theorem me_yX7_workTrains : Cond.selects RX7 yX7_workTrains yX7_workTrains ∈ TB := tb_S (List.mem_append_right _ (List.mem_append_right _ (List.mem_append_left _ (List.mem_of_getElem? (i := 10) rfl)))) rfl
theorem me_yX7_putAside : Cond.selects RX7 yX7_putAside yX7_putAside ∈ TB := tb_S (List.mem_append_right _ (List.mem_append_right _ (List.mem_append_left _ (List.mem_of_getElem? (i := 11) rfl)))) rfl
theorem me_yX7_putBack : Cond.selects RX7 yX7_putBack yX7_putBack ∈ TB := tb_S (List.mem_append_right _ (List.mem_append_right _ (List.mem_append_left _ (List.mem_of_getElem? (i := 12) rfl)))) rfl
theorem me_yX7_readOrder : Cond.selects RX7 yX7_readOrder yX7_readOrder ∈ TB := tb_S (List.mem_append_right _ (List.mem_append_right _ (List.mem_append_left _ (List.mem_of_getElem? (i := 13) rfl)))) rfl
theorem me_yX7_nextSign : Cond.selects RX7 yX7_nextSign yX7_nextSign ∈ TB := tb_S (List.mem_append_right _ (List.mem_append_right _ (List.mem_append_left _ (List.mem_of_getElem? (i := 14) rfl)))) rfl
theorem me_yX7_takeNumber : Cond.selects RX7 yX7_takeNumber yX7_takeNumber ∈ TB := tb_S (List.mem_append_right _ (List.mem_append_right _ (List.mem_append_left _ (List.mem_of_getElem? (i := 15) rfl)))) rfl
theorem me_yX7_takeSide : Cond.selects RX7 yX7_takeSide yX7_takeSide ∈ TB := tb_S (List.mem_append_right _ (List.mem_append_right _ (List.mem_append_right _ (List.mem_of_getElem? (i := 0) rfl)))) rfl
theorem me_yX7_carryOutOne : Cond.selects RX7 yX7_carryOutOne yX7_carryOutOne ∈ TB := tb_S (List.mem_append_right _ (List.mem_append_right _ (List.mem_append_right _ (List.mem_of_getElem? (i := 1) rfl)))) rfl
theorem me_yX7_blocksWith : Cond.selects RX7 yX7_blocksWith yX7_blocksWith ∈ TB := tb_S (List.mem_append_right _ (List.mem_append_right _ (List.mem_append_right _ (List.mem_of_getElem? (i := 2) rfl)))) rfl
theorem mc_yX6_init : gm_M yX6_init cX6_init 2 none 0 := ⟨tb_T (List.mem_append_left _ (List.mem_of_getElem? (i := 15) rfl)) rfl, in_BlockBells, ⟨by decide +kernel, by decide +kernel, by decide +kernel⟩, by decide⟩
theorem mcx_objectInit : Cond.code objectInit ⟨#[0xb1]⟩ 1 none ∈ TB := tb_T (List.mem_append_left _ (List.mem_of_getElem? (i := 18) rfl)) rfl
theorem mc_yX1_init : gm_M yX1_init cX1_init 2 none 0 := ⟨tb_T (List.mem_append_left _ (List.mem_of_getElem? (i := 23) rfl)) rfl, in_BlockBells_Line, ⟨by decide +kernel, by decide +kernel, by decide +kernel⟩, by decide⟩
theorem mc_yX4_init : gm_M yX4_init cX4_init 2 none 1 := ⟨tb_T (List.mem_append_left _ (List.mem_of_getElem? (i := 32) rfl)) rfl, in_BlockBells_Section, ⟨by decide +kernel, by decide +kernel, by decide +kernel⟩, by decide⟩
theorem mc_yX0_init : gm_M yX0_init cX0_init 3 none 2 := ⟨tb_T (List.mem_append_left _ (List.mem_of_getElem? (i := 65) rfl)) rfl, in_BlockBells_Block, ⟨by decide +kernel, by decide +kernel, by decide +kernel⟩, by decide⟩
theorem mc_yX5_init : gm_M yX5_init cX5_init 2 none 1 := ⟨tb_T (List.mem_append_left _ (List.mem_of_getElem? (i := 103) rfl)) rfl, in_BlockBells_Train, ⟨by decide +kernel, by decide +kernel, by decide +kernel⟩, by decide⟩
theorem mc_yX3_init : gm_M yX3_init cX3_init 1 none 0 := ⟨tb_T (List.mem_append_left _ (List.mem_of_getElem? (i := 145) rfl)) rfl, in_BlockBells_Register, ⟨by decide +kernel, by decide +kernel, by decide +kernel⟩, by decide⟩
theorem mc_yX1_layOut : gm_M yX1_layOut cX1_layOut 4 none 2 := ⟨tb_T (List.mem_append_left _ (List.mem_of_getElem? (i := 160) rfl)) rfl, in_BlockBells_Line, ⟨by decide +kernel, by decide +kernel, by decide +kernel⟩, by decide⟩
theorem mc_yX4_layOut : gm_M yX4_layOut cX4_layOut 2 none 1 := ⟨tb_T (List.mem_append_left _ (List.mem_of_getElem? (i := 164) rfl)) rfl, in_BlockBells_Section, ⟨by decide +kernel, by decide +kernel, by decide +kernel⟩, by decide⟩
theorem mc_yX1_clearTraffic : gm_M yX1_clearTraffic cX1_clearTraffic 2 none 0 := ⟨tb_T (List.mem_append_left _ (List.mem_of_getElem? (i := 168) rfl)) rfl, in_BlockBells_Line, ⟨by decide +kernel, by decide +kernel, by decide +kernel⟩, by decide⟩
theorem mc_yX0_reset : gm_M yX0_reset cX0_reset 1 none 0 := ⟨tb_T (List.mem_append_left _ (List.mem_of_getElem? (i := 172) rfl)) rfl, in_BlockBells_Block, ⟨by decide +kernel, by decide +kernel, by decide +kernel⟩, by decide⟩
theorem mc_yX2_init : gm_M yX2_init cX2_init 1 none 0 := ⟨tb_T (List.mem_append_left _ (List.mem_of_getElem? (i := 207) rfl)) rfl, in_BlockBells_Pad, ⟨by decide +kernel, by decide +kernel, by decide +kernel⟩, by decide⟩
theorem mc_yX6_setUp : gm_M yX6_setUp cX6_setUp 4 (some .int) 2 := ⟨tb_T (List.mem_append_right _ (List.mem_append_left _ (List.mem_of_getElem? (i := 12) rfl))) rfl, in_BlockBells, ⟨by decide +kernel, by decide +kernel, by decide +kernel⟩, by decide⟩
theorem mc_yX6_setTime : gm_M yX6_setTime cX6_setTime 5 (some .int) 2 := ⟨tb_T (List.mem_append_right _ (List.mem_append_left _ (List.mem_of_getElem? (i := 17) rfl))) rfl, in_BlockBells, ⟨by decide +kernel, by decide +kernel, by decide +kernel⟩, by decide⟩
theorem mc_yX1_sectionAt : gm_M yX1_sectionAt cX1_sectionAt 2 (some (.object "BlockBells$Section")) 1 := ⟨tb_T (List.mem_append_right _ (List.mem_append_left _ (List.mem_of_getElem? (i := 21) rfl))) rfl, in_BlockBells_Line, ⟨by decide +kernel, by decide +kernel, by decide +kernel⟩, by decide⟩
theorem mc_yX6_setLoops : gm_M yX6_setLoops cX6_setLoops 4 (some .int) 3 := ⟨tb_T (List.mem_append_right _ (List.mem_append_left _ (List.mem_of_getElem? (i := 25) rfl))) rfl, in_BlockBells, ⟨by decide +kernel, by decide +kernel, by decide +kernel⟩, by decide⟩
theorem mc_yX1_hasBox : gm_M yX1_hasBox cX1_hasBox 2 (some .boolean) 1 := ⟨tb_T (List.mem_append_right _ (List.mem_append_left _ (List.mem_of_getElem? (i := 29) rfl))) rfl, in_BlockBells_Line, ⟨by decide +kernel, by decide +kernel, by decide +kernel⟩, by decide⟩
theorem mc_yX6_isDirection : gm_M yX6_isDirection cX6_isDirection 1 (some .boolean) 1 := ⟨tb_T (List.mem_append_right _ (List.mem_append_left _ (List.mem_of_getElem? (i := 32) rfl))) rfl, in_BlockBells, ⟨by decide +kernel, by decide +kernel, by decide +kernel⟩, by decide⟩
theorem mc_yX1_changeLoops : gm_M yX1_changeLoops cX1_changeLoops 5 (some .int) 3 := ⟨tb_T (List.mem_append_right _ (List.mem_append_left _ (List.mem_of_getElem? (i := 36) rfl))) rfl, in_BlockBells_Line, ⟨by decide +kernel, by decide +kernel, by decide +kernel⟩, by decide⟩
theorem mc_yX1_trainsStanding : gm_M yX1_trainsStanding cX1_trainsStanding 6 (some .int) 3 := ⟨tb_T (List.mem_append_right _ (List.mem_append_left _ (List.mem_of_getElem? (i := 40) rfl))) rfl, in_BlockBells_Line, ⟨by decide +kernel, by decide +kernel, by decide +kernel⟩, by decide⟩
theorem mc_yX5_stands : gm_M yX5_stands cX5_stands 4 (some .boolean) 3 := ⟨tb_T (List.mem_append_right _ (List.mem_append_left _ (List.mem_of_getElem? (i := 44) rfl))) rfl, in_BlockBells_Train, ⟨by decide +kernel, by decide +kernel, by decide +kernel⟩, by decide⟩
theorem mc_yX6_moveTokens : gm_M yX6_moveTokens cX6_moveTokens 4 (some .int) 2 := ⟨tb_T (List.mem_append_right _ (List.mem_append_left _ (List.mem_of_getElem? (i := 48) rfl))) rfl, in_BlockBells, ⟨by decide +kernel, by decide +kernel, by decide +kernel⟩, by decide⟩
theorem mc_yX4_moveUp : gm_M yX4_moveUp cX4_moveUp 2 (some .int) 1 := ⟨tb_T (List.mem_append_right _ (List.mem_append_left _ (List.mem_of_getElem? (i := 52) rfl))) rfl, in_BlockBells_Section, ⟨by decide +kernel, by decide +kernel, by decide +kernel⟩, by decide⟩
theorem mc_yX6_section : gm_M yX6_section cX6_section 4 (some .int) 2 := ⟨tb_T (List.mem_append_right _ (List.mem_append_left _ (List.mem_of_getElem? (i := 56) rfl))) rfl, in_BlockBells, ⟨by decide +kernel, by decide +kernel, by decide +kernel⟩, by decide⟩
theorem mc_yX4_property : gm_M yX4_property cX4_property 2 (some .int) 1 := ⟨tb_T (List.mem_append_right _ (List.mem_append_left _ (List.mem_of_getElem? (i := 60) rfl))) rfl, in_BlockBells_Section, ⟨by decide +kernel, by decide +kernel, by decide +kernel⟩, by decide⟩
theorem mc_yX6_block : gm_M yX6_block cX6_block 5 (some .int) 3 := ⟨tb_T (List.mem_append_right _ (List.mem_append_left _ (List.mem_of_getElem? (i := 64) rfl))) rfl, in_BlockBells, ⟨by decide +kernel, by decide +kernel, by decide +kernel⟩, by decide⟩
theorem mc_yX1_blockAt : gm_M yX1_blockAt cX1_blockAt 3 (some (.object "BlockBells$Block")) 2 := ⟨tb_T (List.mem_append_right _ (List.mem_append_left _ (List.mem_of_getElem? (i := 68) rfl))) rfl, in_BlockBells_Line, ⟨by decide +kernel, by decide +kernel, by decide +kernel⟩, by decide⟩
theorem mc_yX0_property : gm_M yX0_property cX0_property 2 (some .int) 1 := ⟨tb_T (List.mem_append_right _ (List.mem_append_left _ (List.mem_of_getElem? (i := 72) rfl))) rfl, in_BlockBells_Block, ⟨by decide +kernel, by decide +kernel, by decide +kernel⟩, by decide⟩
theorem mc_yX6_appear : gm_M yX6_appear cX6_appear 3 (some .int) 2 := ⟨tb_T (List.mem_append_right _ (List.mem_append_left _ (List.mem_of_getElem? (i := 76) rfl))) rfl, in_BlockBells, ⟨by decide +kernel, by decide +kernel, by decide +kernel⟩, by decide⟩
theorem mc_yX6_isKind : gm_M yX6_isKind cX6_isKind 1 (some .boolean) 1 := ⟨tb_T (List.mem_append_right _ (List.mem_append_left _ (List.mem_of_getElem? (i := 79) rfl))) rfl, in_BlockBells, ⟨by decide +kernel, by decide +kernel, by decide +kernel⟩, by decide⟩
theorem mc_yX1_bringNew : gm_M yX1_bringNew cX1_bringNew 5 (some .int) 2 := ⟨tb_T (List.mem_append_right _ (List.mem_append_left _ (List.mem_of_getElem? (i := 83) rfl))) rfl, in_BlockBells_Line, ⟨by decide +kernel, by decide +kernel, by decide +kernel⟩, by decide⟩
theorem mc_yX1_firstBox : gm_M yX1_firstBox cX1_firstBox 2 (some .int) 1 := ⟨tb_T (List.mem_append_right _ (List.mem_append_left _ (List.mem_of_getElem? (i := 87) rfl))) rfl, in_BlockBells_Line, ⟨by decide +kernel, by decide +kernel, by decide +kernel⟩, by decide⟩
theorem mc_yX1_isLineFree : gm_M yX1_isLineFree cX1_isLineFree 3 (some .boolean) 2 := ⟨tb_T (List.mem_append_right _ (List.mem_append_left _ (List.mem_of_getElem? (i := 91) rfl))) rfl, in_BlockBells_Line, ⟨by decide +kernel, by decide +kernel, by decide +kernel⟩, by decide⟩
theorem mc_yX5_start : gm_M yX5_start cX5_start 5 none 4 := ⟨tb_T (List.mem_append_right _ (List.mem_append_left _ (List.mem_of_getElem? (i := 95) rfl))) rfl, in_BlockBells_Train, ⟨by decide +kernel, by decide +kernel, by decide +kernel⟩, by decide⟩
theorem mc_yX5_standAt : gm_M yX5_standAt cX5_standAt 3 none 2 := ⟨tb_T (List.mem_append_right _ (List.mem_append_left _ (List.mem_of_getElem? (i := 99) rfl))) rfl, in_BlockBells_Train, ⟨by decide +kernel, by decide +kernel, by decide +kernel⟩, by decide⟩
theorem mc_yX6_train : gm_M yX6_train cX6_train 4 (some .int) 2 := ⟨tb_T (List.mem_append_right _ (List.mem_append_left _ (List.mem_of_getElem? (i := 103) rfl))) rfl, in_BlockBells, ⟨by decide +kernel, by decide +kernel, by decide +kernel⟩, by decide⟩
theorem mc_yX1_trainAt : gm_M yX1_trainAt cX1_trainAt 2 (some (.object "BlockBells$Train")) 1 := ⟨tb_T (List.mem_append_right _ (List.mem_append_left _ (List.mem_of_getElem? (i := 107) rfl))) rfl, in_BlockBells_Line, ⟨by decide +kernel, by decide +kernel, by decide +kernel⟩, by decide⟩
theorem mc_yX5_property : gm_M yX5_property cX5_property 2 (some .int) 1 := ⟨tb_T (List.mem_append_right _ (List.mem_append_left _ (List.mem_of_getElem? (i := 111) rfl))) rfl, in_BlockBells_Train, ⟨by decide +kernel, by decide +kernel, by decide +kernel⟩, by decide⟩
theorem mc_yX6_shunt : gm_M yX6_shunt cX6_shunt 3 (some .int) 1 := ⟨tb_T (List.mem_append_right _ (List.mem_append_left _ (List.mem_of_getElem? (i := 115) rfl))) rfl, in_BlockBells, ⟨by decide +kernel, by decide +kernel, by decide +kernel⟩, by decide⟩
theorem mc_yX1_shuntTrain : gm_M yX1_shuntTrain cX1_shuntTrain 2 (some .int) 1 := ⟨tb_T (List.mem_append_right _ (List.mem_append_left _ (List.mem_of_getElem? (i := 119) rfl))) rfl, in_BlockBells_Line, ⟨by decide +kernel, by decide +kernel, by decide +kernel⟩, by decide⟩
theorem mc_yX1_shuntToLoop : gm_M yX1_shuntToLoop cX1_shuntToLoop 4 (some .int) 1 := ⟨tb_T (List.mem_append_right _ (List.mem_append_left _ (List.mem_of_getElem? (i := 123) rfl))) rfl, in_BlockBells_Line, ⟨by decide +kernel, by decide +kernel, by decide +kernel⟩, by decide⟩
theorem mc_yX1_nextBlock : gm_M yX1_nextBlock cX1_nextBlock 2 (some (.object "BlockBells$Block")) 1 := ⟨tb_T (List.mem_append_right _ (List.mem_append_left _ (List.mem_of_getElem? (i := 127) rfl))) rfl, in_BlockBells_Line, ⟨by decide +kernel, by decide +kernel, by decide +kernel⟩, by decide⟩
theorem mc_yX1_shuntBack : gm_M yX1_shuntBack cX1_shuntBack 4 (some .int) 1 := ⟨tb_T (List.mem_append_right _ (List.mem_append_left _ (List.mem_of_getElem? (i := 135) rfl))) rfl, in_BlockBells_Line, ⟨by decide +kernel, by decide +kernel, by decide +kernel⟩, by decide⟩
theorem mc_yX1_blockTo : gm_M yX1_blockTo cX1_blockTo 3 (some (.object "BlockBells$Block")) 2 := ⟨tb_T (List.mem_append_right _ (List.mem_append_left _ (List.mem_of_getElem? (i := 139) rfl))) rfl, in_BlockBells_Line, ⟨by decide +kernel, by decide +kernel, by decide +kernel⟩, by decide⟩
theorem mc_yX6_leave : gm_M yX6_leave cX6_leave 3 (some .int) 1 := ⟨tb_T (List.mem_append_right _ (List.mem_append_left _ (List.mem_of_getElem? (i := 143) rfl))) rfl, in_BlockBells, ⟨by decide +kernel, by decide +kernel, by decide +kernel⟩, by decide⟩
theorem mc_yX1_letLeave : gm_M yX1_letLeave cX1_letLeave 2 (some .int) 1 := ⟨tb_T (List.mem_append_right _ (List.mem_append_left _ (List.mem_of_getElem? (i := 147) rfl))) rfl, in_BlockBells_Line, ⟨by decide +kernel, by decide +kernel, by decide +kernel⟩, by decide⟩
theorem mc_yX1_lastBox : gm_M yX1_lastBox cX1_lastBox 2 (some .int) 1 := ⟨tb_T (List.mem_append_right _ (List.mem_append_left _ (List.mem_of_getElem? (i := 151) rfl))) rfl, in_BlockBells_Line, ⟨by decide +kernel, by decide +kernel, by decide +kernel⟩, by decide⟩
theorem mc_yX5_go : gm_M yX5_go cX5_go 2 none 1 := ⟨tb_T (List.mem_append_right _ (List.mem_append_left _ (List.mem_of_getElem? (i := 155) rfl))) rfl, in_BlockBells_Train, ⟨by decide +kernel, by decide +kernel, by decide +kernel⟩, by decide⟩
theorem mc_yX6_divide : gm_M yX6_divide cX6_divide 3 (some .int) 1 := ⟨tb_T (List.mem_append_right _ (List.mem_append_left _ (List.mem_of_getElem? (i := 159) rfl))) rfl, in_BlockBells, ⟨by decide +kernel, by decide +kernel, by decide +kernel⟩, by decide⟩
theorem mc_yX1_divideTrain : gm_M yX1_divideTrain cX1_divideTrain 3 (some .int) 1 := ⟨tb_T (List.mem_append_right _ (List.mem_append_left _ (List.mem_of_getElem? (i := 163) rfl))) rfl, in_BlockBells_Line, ⟨by decide +kernel, by decide +kernel, by decide +kernel⟩, by decide⟩
theorem mc_yX6_offer : gm_M yX6_offer cX6_offer 3 (some .int) 1 := ⟨tb_T (List.mem_append_right _ (List.mem_append_left _ (List.mem_of_getElem? (i := 167) rfl))) rfl, in_BlockBells, ⟨by decide +kernel, by decide +kernel, by decide +kernel⟩, by decide⟩
theorem mc_yX1_offerTrain : gm_M yX1_offerTrain cX1_offerTrain 3 (some .int) 1 := ⟨tb_T (List.mem_append_right _ (List.mem_append_left _ (List.mem_of_getElem? (i := 171) rfl))) rfl, in_BlockBells_Line, ⟨by decide +kernel, by decide +kernel, by decide +kernel⟩, by decide⟩
theorem mc_yX6_offerCode : gm_M yX6_offerCode cX6_offerCode 1 (some .int) 1 := ⟨tb_T (List.mem_append_right _ (List.mem_append_left _ (List.mem_of_getElem? (i := 174) rfl))) rfl, in_BlockBells, ⟨by decide +kernel, by decide +kernel, by decide +kernel⟩, by decide⟩
theorem mc_yX1_ringRear : gm_M yX1_ringRear cX1_ringRear 3 (some .int) 2 := ⟨tb_T (List.mem_append_right _ (List.mem_append_left _ (List.mem_of_getElem? (i := 178) rfl))) rfl, in_BlockBells_Line, ⟨by decide +kernel, by decide +kernel, by decide +kernel⟩, by decide⟩
theorem mc_yX0_rearBox : gm_M yX0_rearBox cX0_rearBox 1 (some .int) 0 := ⟨tb_T (List.mem_append_right _ (List.mem_append_left _ (List.mem_of_getElem? (i := 182) rfl))) rfl, in_BlockBells_Block, ⟨by decide +kernel, by decide +kernel, by decide +kernel⟩, by decide⟩
theorem mc_yX3_record : gm_M yX3_record cX3_record 6 none 4 := ⟨tb_T (List.mem_append_right _ (List.mem_append_left _ (List.mem_of_getElem? (i := 186) rfl))) rfl, in_BlockBells_Register, ⟨by decide +kernel, by decide +kernel, by decide +kernel⟩, by decide⟩
theorem mc_yX3_rowOf : gm_M yX3_rowOf cX3_rowOf 1 (some .int) 1 := ⟨tb_T (List.mem_append_right _ (List.mem_append_left _ (List.mem_of_getElem? (i := 189) rfl))) rfl, in_BlockBells_Register, ⟨by decide +kernel, by decide +kernel, by decide +kernel⟩, by decide⟩
theorem mc_yX6_answer : gm_M yX6_answer cX6_answer 5 (some .int) 3 := ⟨tb_T (List.mem_append_right _ (List.mem_append_left _ (List.mem_of_getElem? (i := 194) rfl))) rfl, in_BlockBells, ⟨by decide +kernel, by decide +kernel, by decide +kernel⟩, by decide⟩
theorem mc_yX1_accept : gm_M yX1_accept cX1_accept 3 (some .int) 1 := ⟨tb_T (List.mem_append_right _ (List.mem_append_left _ (List.mem_of_getElem? (i := 198) rfl))) rfl, in_BlockBells_Line, ⟨by decide +kernel, by decide +kernel, by decide +kernel⟩, by decide⟩
theorem mc_yX0_boxAhead : gm_M yX0_boxAhead cX0_boxAhead 1 (some .int) 0 := ⟨tb_T (List.mem_append_right _ (List.mem_append_left _ (List.mem_of_getElem? (i := 203) rfl))) rfl, in_BlockBells_Block, ⟨by decide +kernel, by decide +kernel, by decide +kernel⟩, by decide⟩
theorem mc_yX1_isTokenReady : gm_M yX1_isTokenReady cX1_isTokenReady 5 (some .boolean) 1 := ⟨tb_T (List.mem_append_right _ (List.mem_append_left _ (List.mem_of_getElem? (i := 207) rfl))) rfl, in_BlockBells_Line, ⟨by decide +kernel, by decide +kernel, by decide +kernel⟩, by decide⟩
theorem mc_yX0_rearEnd : gm_M yX0_rearEnd cX0_rearEnd 1 (some .int) 0 := ⟨tb_T (List.mem_append_right _ (List.mem_append_left _ (List.mem_of_getElem? (i := 211) rfl))) rfl, in_BlockBells_Block, ⟨by decide +kernel, by decide +kernel, by decide +kernel⟩, by decide⟩
theorem mc_yX4_hasToken : gm_M yX4_hasToken cX4_hasToken 2 (some .boolean) 1 := ⟨tb_T (List.mem_append_right _ (List.mem_append_left _ (List.mem_of_getElem? (i := 215) rfl))) rfl, in_BlockBells_Section, ⟨by decide +kernel, by decide +kernel, by decide +kernel⟩, by decide⟩
theorem mc_yX0_makeClear : gm_M yX0_makeClear cX0_makeClear 1 none 0 := ⟨tb_T (List.mem_append_right _ (List.mem_append_left _ (List.mem_of_getElem? (i := 219) rfl))) rfl, in_BlockBells_Block, ⟨by decide +kernel, by decide +kernel, by decide +kernel⟩, by decide⟩
theorem mc_yX4_takeToken : gm_M yX4_takeToken cX4_takeToken 2 none 1 := ⟨tb_T (List.mem_append_right _ (List.mem_append_left _ (List.mem_of_getElem? (i := 224) rfl))) rfl, in_BlockBells_Section, ⟨by decide +kernel, by decide +kernel, by decide +kernel⟩, by decide⟩
theorem mc_yX4_addTokens : gm_M yX4_addTokens cX4_addTokens 3 none 2 := ⟨tb_T (List.mem_append_right _ (List.mem_append_left _ (List.mem_of_getElem? (i := 228) rfl))) rfl, in_BlockBells_Section, ⟨by decide +kernel, by decide +kernel, by decide +kernel⟩, by decide⟩
theorem mc_yX1_ringAhead : gm_M yX1_ringAhead cX1_ringAhead 3 (some .int) 2 := ⟨tb_T (List.mem_append_right _ (List.mem_append_left _ (List.mem_of_getElem? (i := 232) rfl))) rfl, in_BlockBells_Line, ⟨by decide +kernel, by decide +kernel, by decide +kernel⟩, by decide⟩
theorem mc_yX1_refuse : gm_M yX1_refuse cX1_refuse 2 (some .int) 1 := ⟨tb_T (List.mem_append_right _ (List.mem_append_left _ (List.mem_of_getElem? (i := 236) rfl))) rfl, in_BlockBells_Line, ⟨by decide +kernel, by decide +kernel, by decide +kernel⟩, by decide⟩
theorem mc_yX6_cancel : gm_M yX6_cancel cX6_cancel 4 (some .int) 2 := ⟨tb_T (List.mem_append_right _ (List.mem_append_right _ (List.mem_append_left _ (List.mem_of_getElem? (i := 0) rfl)))) rfl, in_BlockBells, ⟨by decide +kernel, by decide +kernel, by decide +kernel⟩, by decide⟩
theorem mc_yX1_cancelBlock : gm_M yX1_cancelBlock cX1_cancelBlock 2 (some .int) 1 := ⟨tb_T (List.mem_append_right _ (List.mem_append_right _ (List.mem_append_left _ (List.mem_of_getElem? (i := 4) rfl)))) rfl, in_BlockBells_Line, ⟨by decide +kernel, by decide +kernel, by decide +kernel⟩, by decide⟩
theorem mc_yX0_takeBack : gm_M yX0_takeBack cX0_takeBack 2 none 1 := ⟨tb_T (List.mem_append_right _ (List.mem_append_right _ (List.mem_append_left _ (List.mem_of_getElem? (i := 8) rfl)))) rfl, in_BlockBells_Block, ⟨by decide +kernel, by decide +kernel, by decide +kernel⟩, by decide⟩
theorem mc_yX4_putToken : gm_M yX4_putToken cX4_putToken 2 none 1 := ⟨tb_T (List.mem_append_right _ (List.mem_append_right _ (List.mem_append_left _ (List.mem_of_getElem? (i := 12) rfl)))) rfl, in_BlockBells_Section, ⟨by decide +kernel, by decide +kernel, by decide +kernel⟩, by decide⟩
theorem mc_yX6_depart : gm_M yX6_depart cX6_depart 3 (some .int) 1 := ⟨tb_T (List.mem_append_right _ (List.mem_append_right _ (List.mem_append_left _ (List.mem_of_getElem? (i := 16) rfl)))) rfl, in_BlockBells, ⟨by decide +kernel, by decide +kernel, by decide +kernel⟩, by decide⟩
theorem mc_yX1_letDepart : gm_M yX1_letDepart cX1_letDepart 3 (some .int) 1 := ⟨tb_T (List.mem_append_right _ (List.mem_append_right _ (List.mem_append_left _ (List.mem_of_getElem? (i := 20) rfl)))) rfl, in_BlockBells_Line, ⟨by decide +kernel, by decide +kernel, by decide +kernel⟩, by decide⟩
theorem mc_yX5_enter : gm_M yX5_enter cX5_enter 2 none 1 := ⟨tb_T (List.mem_append_right _ (List.mem_append_right _ (List.mem_append_left _ (List.mem_of_getElem? (i := 24) rfl)))) rfl, in_BlockBells_Train, ⟨by decide +kernel, by decide +kernel, by decide +kernel⟩, by decide⟩
theorem mc_yX6_admit : gm_M yX6_admit cX6_admit 4 (some .int) 2 := ⟨tb_T (List.mem_append_right _ (List.mem_append_right _ (List.mem_append_left _ (List.mem_of_getElem? (i := 28) rfl)))) rfl, in_BlockBells, ⟨by decide +kernel, by decide +kernel, by decide +kernel⟩, by decide⟩
theorem mc_yX1_admitTrain : gm_M yX1_admitTrain cX1_admitTrain 3 (some .int) 1 := ⟨tb_T (List.mem_append_right _ (List.mem_append_right _ (List.mem_append_left _ (List.mem_of_getElem? (i := 32) rfl)))) rfl, in_BlockBells_Line, ⟨by decide +kernel, by decide +kernel, by decide +kernel⟩, by decide⟩
theorem mc_yX1_trainInside : gm_M yX1_trainInside cX1_trainInside 3 (some (.object "BlockBells$Train")) 1 := ⟨tb_T (List.mem_append_right _ (List.mem_append_right _ (List.mem_append_left _ (List.mem_of_getElem? (i := 36) rfl)))) rfl, in_BlockBells_Line, ⟨by decide +kernel, by decide +kernel, by decide +kernel⟩, by decide⟩
theorem mc_yX6_out : gm_M yX6_out cX6_out 4 (some .int) 2 := ⟨tb_T (List.mem_append_right _ (List.mem_append_right _ (List.mem_append_left _ (List.mem_of_getElem? (i := 40) rfl)))) rfl, in_BlockBells, ⟨by decide +kernel, by decide +kernel, by decide +kernel⟩, by decide⟩
theorem mc_yX1_reportOut : gm_M yX1_reportOut cX1_reportOut 2 (some .int) 1 := ⟨tb_T (List.mem_append_right _ (List.mem_append_right _ (List.mem_append_left _ (List.mem_of_getElem? (i := 44) rfl)))) rfl, in_BlockBells_Line, ⟨by decide +kernel, by decide +kernel, by decide +kernel⟩, by decide⟩
theorem mc_yX0_makeFree : gm_M yX0_makeFree cX0_makeFree 1 none 0 := ⟨tb_T (List.mem_append_right _ (List.mem_append_right _ (List.mem_append_left _ (List.mem_of_getElem? (i := 48) rfl)))) rfl, in_BlockBells_Block, ⟨by decide +kernel, by decide +kernel, by decide +kernel⟩, by decide⟩
theorem mc_yX0_endAhead : gm_M yX0_endAhead cX0_endAhead 1 (some .int) 0 := ⟨tb_T (List.mem_append_right _ (List.mem_append_right _ (List.mem_append_left _ (List.mem_of_getElem? (i := 52) rfl)))) rfl, in_BlockBells_Block, ⟨by decide +kernel, by decide +kernel, by decide +kernel⟩, by decide⟩
theorem mc_yX6_assist : gm_M yX6_assist cX6_assist 4 (some .int) 2 := ⟨tb_T (List.mem_append_right _ (List.mem_append_right _ (List.mem_append_left _ (List.mem_of_getElem? (i := 56) rfl)))) rfl, in_BlockBells, ⟨by decide +kernel, by decide +kernel, by decide +kernel⟩, by decide⟩
theorem mc_yX1_sendEngine : gm_M yX1_sendEngine cX1_sendEngine 2 (some .int) 1 := ⟨tb_T (List.mem_append_right _ (List.mem_append_right _ (List.mem_append_left _ (List.mem_of_getElem? (i := 60) rfl)))) rfl, in_BlockBells_Line, ⟨by decide +kernel, by decide +kernel, by decide +kernel⟩, by decide⟩
theorem mc_yX6_obstruct : gm_M yX6_obstruct cX6_obstruct 4 (some .int) 2 := ⟨tb_T (List.mem_append_right _ (List.mem_append_right _ (List.mem_append_left _ (List.mem_of_getElem? (i := 64) rfl)))) rfl, in_BlockBells, ⟨by decide +kernel, by decide +kernel, by decide +kernel⟩, by decide⟩
theorem mc_yX1_obstructBlock : gm_M yX1_obstructBlock cX1_obstructBlock 3 (some .int) 1 := ⟨tb_T (List.mem_append_right _ (List.mem_append_right _ (List.mem_append_left _ (List.mem_of_getElem? (i := 68) rfl)))) rfl, in_BlockBells_Line, ⟨by decide +kernel, by decide +kernel, by decide +kernel⟩, by decide⟩
theorem mc_yX6_lift : gm_M yX6_lift cX6_lift 4 (some .int) 2 := ⟨tb_T (List.mem_append_right _ (List.mem_append_right _ (List.mem_append_left _ (List.mem_of_getElem? (i := 72) rfl)))) rfl, in_BlockBells, ⟨by decide +kernel, by decide +kernel, by decide +kernel⟩, by decide⟩
theorem mc_yX1_liftBlock : gm_M yX1_liftBlock cX1_liftBlock 2 (some .int) 1 := ⟨tb_T (List.mem_append_right _ (List.mem_append_right _ (List.mem_append_left _ (List.mem_of_getElem? (i := 76) rfl)))) rfl, in_BlockBells_Line, ⟨by decide +kernel, by decide +kernel, by decide +kernel⟩, by decide⟩
theorem mc_yX6_pass : gm_M yX6_pass cX6_pass 2 (some .int) 1 := ⟨tb_T (List.mem_append_right _ (List.mem_append_right _ (List.mem_append_left _ (List.mem_of_getElem? (i := 80) rfl)))) rfl, in_BlockBells, ⟨by decide +kernel, by decide +kernel, by decide +kernel⟩, by decide⟩
theorem mc_yX1_letPass : gm_M yX1_letPass cX1_letPass 3 none 1 := ⟨tb_T (List.mem_append_right _ (List.mem_append_right _ (List.mem_append_left _ (List.mem_of_getElem? (i := 85) rfl)))) rfl, in_BlockBells_Line, ⟨by decide +kernel, by decide +kernel, by decide +kernel⟩, by decide⟩
theorem mc_yX5_letPass : gm_M yX5_letPass cX5_letPass 2 none 1 := ⟨tb_T (List.mem_append_right _ (List.mem_append_right _ (List.mem_append_left _ (List.mem_of_getElem? (i := 89) rfl)))) rfl, in_BlockBells_Train, ⟨by decide +kernel, by decide +kernel, by decide +kernel⟩, by decide⟩
theorem mcx_Lib_Math_max_name : Cond.code Lib.Math.max.name Lib.Math.max.code 2 (some .int) ∈ TB := tb_T (List.mem_append_right _ (List.mem_append_right _ (List.mem_append_left _ (List.mem_of_getElem? (i := 92) rfl)))) rfl
theorem mc_yX1_blockCount : gm_M yX1_blockCount cX1_blockCount 1 (some .int) 0 := ⟨tb_T (List.mem_append_right _ (List.mem_append_right _ (List.mem_append_left _ (List.mem_of_getElem? (i := 96) rfl)))) rfl, in_BlockBells_Line, ⟨by decide +kernel, by decide +kernel, by decide +kernel⟩, by decide⟩
theorem mc_yX0_letPass : gm_M yX0_letPass cX0_letPass 2 none 1 := ⟨tb_T (List.mem_append_right _ (List.mem_append_right _ (List.mem_append_left _ (List.mem_of_getElem? (i := 100) rfl)))) rfl, in_BlockBells_Block, ⟨by decide +kernel, by decide +kernel, by decide +kernel⟩, by decide⟩
theorem mc_yX6_signal : gm_M yX6_signal cX6_signal 3 (some .int) 2 := ⟨tb_T (List.mem_append_right _ (List.mem_append_right _ (List.mem_append_left _ (List.mem_of_getElem? (i := 105) rfl)))) rfl, in_BlockBells, ⟨by decide +kernel, by decide +kernel, by decide +kernel⟩, by decide⟩
theorem mc_yX3_property : gm_M yX3_property cX3_property 3 (some .int) 2 := ⟨tb_T (List.mem_append_right _ (List.mem_append_right _ (List.mem_append_left _ (List.mem_of_getElem? (i := 109) rfl)))) rfl, in_BlockBells_Register, ⟨by decide +kernel, by decide +kernel, by decide +kernel⟩, by decide⟩
theorem mc_yX3_oldest : gm_M yX3_oldest cX3_oldest 1 (some .int) 0 := ⟨tb_T (List.mem_append_right _ (List.mem_append_right _ (List.mem_append_left _ (List.mem_of_getElem? (i := 113) rfl)))) rfl, in_BlockBells_Register, ⟨by decide +kernel, by decide +kernel, by decide +kernel⟩, by decide⟩
theorem mc_yX6_rung : gm_M yX6_rung cX6_rung 3 (some .int) 2 := ⟨tb_T (List.mem_append_right _ (List.mem_append_right _ (List.mem_append_left _ (List.mem_of_getElem? (i := 118) rfl)))) rfl, in_BlockBells, ⟨by decide +kernel, by decide +kernel, by decide +kernel⟩, by decide⟩
theorem mc_yX3_countOf : gm_M yX3_countOf cX3_countOf 6 (some .int) 2 := ⟨tb_T (List.mem_append_right _ (List.mem_append_right _ (List.mem_append_left _ (List.mem_of_getElem? (i := 122) rfl)))) rfl, in_BlockBells_Register, ⟨by decide +kernel, by decide +kernel, by decide +kernel⟩, by decide⟩
theorem mc_yX6_work : gm_M yX6_work cX6_work 4 (some .int) 1 := ⟨tb_T (List.mem_append_right _ (List.mem_append_right _ (List.mem_append_left _ (List.mem_of_getElem? (i := 126) rfl)))) rfl, in_BlockBells, ⟨by decide +kernel, by decide +kernel, by decide +kernel⟩, by decide⟩
theorem mc_yX1_workTick : gm_M yX1_workTick cX1_workTick 2 (some .int) 0 := ⟨tb_T (List.mem_append_right _ (List.mem_append_right _ (List.mem_append_left _ (List.mem_of_getElem? (i := 130) rfl)))) rfl, in_BlockBells_Line, ⟨by decide +kernel, by decide +kernel, by decide +kernel⟩, by decide⟩
theorem mc_yX1_clearSections : gm_M yX1_clearSections cX1_clearSections 3 none 0 := ⟨tb_T (List.mem_append_right _ (List.mem_append_right _ (List.mem_append_left _ (List.mem_of_getElem? (i := 134) rfl)))) rfl, in_BlockBells_Line, ⟨by decide +kernel, by decide +kernel, by decide +kernel⟩, by decide⟩
theorem mc_yX1_leaveAll : gm_M yX1_leaveAll cX1_leaveAll 3 (some .int) 0 := ⟨tb_T (List.mem_append_right _ (List.mem_append_right _ (List.mem_append_left _ (List.mem_of_getElem? (i := 141) rfl)))) rfl, in_BlockBells_Line, ⟨by decide +kernel, by decide +kernel, by decide +kernel⟩, by decide⟩
theorem mc_yX1_offerAll : gm_M yX1_offerAll cX1_offerAll 2 none 0 := ⟨tb_T (List.mem_append_right _ (List.mem_append_right _ (List.mem_append_left _ (List.mem_of_getElem? (i := 146) rfl)))) rfl, in_BlockBells_Line, ⟨by decide +kernel, by decide +kernel, by decide +kernel⟩, by decide⟩
theorem mc_yX1_answerAll : gm_M yX1_answerAll cX1_answerAll 2 none 0 := ⟨tb_T (List.mem_append_right _ (List.mem_append_right _ (List.mem_append_left _ (List.mem_of_getElem? (i := 151) rfl)))) rfl, in_BlockBells_Line, ⟨by decide +kernel, by decide +kernel, by decide +kernel⟩, by decide⟩
theorem mc_yX1_departAll : gm_M yX1_departAll cX1_departAll 2 none 0 := ⟨tb_T (List.mem_append_right _ (List.mem_append_right _ (List.mem_append_left _ (List.mem_of_getElem? (i := 157) rfl)))) rfl, in_BlockBells_Line, ⟨by decide +kernel, by decide +kernel, by decide +kernel⟩, by decide⟩
theorem mc_yX6_forecast : gm_M yX6_forecast cX6_forecast 4 (some .int) 2 := ⟨tb_T (List.mem_append_right _ (List.mem_append_right _ (List.mem_append_left _ (List.mem_of_getElem? (i := 163) rfl)))) rfl, in_BlockBells, ⟨by decide +kernel, by decide +kernel, by decide +kernel⟩, by decide⟩
theorem mc_yX1_copyFrom : gm_M yX1_copyFrom cX1_copyFrom 3 none 1 := ⟨tb_T (List.mem_append_right _ (List.mem_append_right _ (List.mem_append_left _ (List.mem_of_getElem? (i := 167) rfl)))) rfl, in_BlockBells_Line, ⟨by decide +kernel, by decide +kernel, by decide +kernel⟩, by decide⟩
theorem mc_yX4_copyFrom : gm_M yX4_copyFrom cX4_copyFrom 2 none 1 := ⟨tb_T (List.mem_append_right _ (List.mem_append_right _ (List.mem_append_left _ (List.mem_of_getElem? (i := 171) rfl)))) rfl, in_BlockBells_Section, ⟨by decide +kernel, by decide +kernel, by decide +kernel⟩, by decide⟩
theorem mc_yX0_copyFrom : gm_M yX0_copyFrom cX0_copyFrom 2 none 1 := ⟨tb_T (List.mem_append_right _ (List.mem_append_right _ (List.mem_append_left _ (List.mem_of_getElem? (i := 175) rfl)))) rfl, in_BlockBells_Block, ⟨by decide +kernel, by decide +kernel, by decide +kernel⟩, by decide⟩
theorem mc_yX5_copyFrom : gm_M yX5_copyFrom cX5_copyFrom 2 none 1 := ⟨tb_T (List.mem_append_right _ (List.mem_append_right _ (List.mem_append_left _ (List.mem_of_getElem? (i := 179) rfl)))) rfl, in_BlockBells_Train, ⟨by decide +kernel, by decide +kernel, by decide +kernel⟩, by decide⟩
theorem mc_yX3_copyFrom : gm_M yX3_copyFrom cX3_copyFrom 2 none 1 := ⟨tb_T (List.mem_append_right _ (List.mem_append_right _ (List.mem_append_left _ (List.mem_of_getElem? (i := 186) rfl)))) rfl, in_BlockBells_Register, ⟨by decide +kernel, by decide +kernel, by decide +kernel⟩, by decide⟩
theorem mc_yX1_isGone : gm_M yX1_isGone cX1_isGone 3 (some .boolean) 1 := ⟨tb_T (List.mem_append_right _ (List.mem_append_right _ (List.mem_append_left _ (List.mem_of_getElem? (i := 191) rfl)))) rfl, in_BlockBells_Line, ⟨by decide +kernel, by decide +kernel, by decide +kernel⟩, by decide⟩
theorem mc_yX6_capacity : gm_M yX6_capacity cX6_capacity 6 (some .int) 3 := ⟨tb_T (List.mem_append_right _ (List.mem_append_right _ (List.mem_append_left _ (List.mem_of_getElem? (i := 195) rfl)))) rfl, in_BlockBells, ⟨by decide +kernel, by decide +kernel, by decide +kernel⟩, by decide⟩
theorem mc_yX1_bringSpare : gm_M yX1_bringSpare cX1_bringSpare 5 none 2 := ⟨tb_T (List.mem_append_right _ (List.mem_append_right _ (List.mem_append_left _ (List.mem_of_getElem? (i := 200) rfl)))) rfl, in_BlockBells_Line, ⟨by decide +kernel, by decide +kernel, by decide +kernel⟩, by decide⟩
theorem mc_yX6_say : gm_M yX6_say cX6_say 2 (some .int) 1 := ⟨tb_T (List.mem_append_right _ (List.mem_append_right _ (List.mem_append_left _ (List.mem_of_getElem? (i := 205) rfl)))) rfl, in_BlockBells, ⟨by decide +kernel, by decide +kernel, by decide +kernel⟩, by decide⟩
theorem mc_yX2_append : gm_M yX2_append cX2_append 2 (some .int) 1 := ⟨tb_T (List.mem_append_right _ (List.mem_append_right _ (List.mem_append_left _ (List.mem_of_getElem? (i := 209) rfl)))) rfl, in_BlockBells_Pad, ⟨by decide +kernel, by decide +kernel, by decide +kernel⟩, by decide⟩
theorem mc_yX6_wipe : gm_M yX6_wipe cX6_wipe 1 (some .int) 0 := ⟨tb_T (List.mem_append_right _ (List.mem_append_right _ (List.mem_append_left _ (List.mem_of_getElem? (i := 213) rfl)))) rfl, in_BlockBells, ⟨by decide +kernel, by decide +kernel, by decide +kernel⟩, by decide⟩
theorem mc_yX2_empty : gm_M yX2_empty cX2_empty 2 (some .int) 0 := ⟨tb_T (List.mem_append_right _ (List.mem_append_right _ (List.mem_append_left _ (List.mem_of_getElem? (i := 217) rfl)))) rfl, in_BlockBells_Pad, ⟨by decide +kernel, by decide +kernel, by decide +kernel⟩, by decide⟩
theorem mc_yX6_fault : gm_M yX6_fault cX6_fault 1 (some .int) 0 := ⟨tb_T (List.mem_append_right _ (List.mem_append_right _ (List.mem_append_left _ (List.mem_of_getElem? (i := 221) rfl)))) rfl, in_BlockBells, ⟨by decide +kernel, by decide +kernel, by decide +kernel⟩, by decide⟩
theorem mc_yX2_firstFault : gm_M yX2_firstFault cX2_firstFault 3 (some .int) 0 := ⟨tb_T (List.mem_append_right _ (List.mem_append_right _ (List.mem_append_left _ (List.mem_of_getElem? (i := 225) rfl)))) rfl, in_BlockBells_Pad, ⟨by decide +kernel, by decide +kernel, by decide +kernel⟩, by decide⟩
theorem mc_yX2_after : gm_M yX2_after cX2_after 2 (some .int) 2 := ⟨tb_T (List.mem_append_right _ (List.mem_append_right _ (List.mem_append_left _ (List.mem_of_getElem? (i := 228) rfl)))) rfl, in_BlockBells_Pad, ⟨by decide +kernel, by decide +kernel, by decide +kernel⟩, by decide⟩
theorem mc_yX2_afterLetter : gm_M yX2_afterLetter cX2_afterLetter 1 (some .int) 1 := ⟨tb_T (List.mem_append_right _ (List.mem_append_right _ (List.mem_append_left _ (List.mem_of_getElem? (i := 231) rfl)))) rfl, in_BlockBells_Pad, ⟨by decide +kernel, by decide +kernel, by decide +kernel⟩, by decide⟩
theorem mc_yX2_isBetween : gm_M yX2_isBetween cX2_isBetween 3 (some .boolean) 3 := ⟨tb_T (List.mem_append_right _ (List.mem_append_right _ (List.mem_append_left _ (List.mem_of_getElem? (i := 234) rfl)))) rfl, in_BlockBells_Pad, ⟨by decide +kernel, by decide +kernel, by decide +kernel⟩, by decide⟩
theorem mc_yX2_afterOrder : gm_M yX2_afterOrder cX2_afterOrder 1 (some .int) 1 := ⟨tb_T (List.mem_append_right _ (List.mem_append_right _ (List.mem_append_left _ (List.mem_of_getElem? (i := 237) rfl)))) rfl, in_BlockBells_Pad, ⟨by decide +kernel, by decide +kernel, by decide +kernel⟩, by decide⟩
theorem mc_yX6_carryOut : gm_M yX6_carryOut cX6_carryOut 3 (some .int) 0 := ⟨tb_T (List.mem_append_right _ (List.mem_append_right _ (List.mem_append_right _ (List.mem_append_left _ (List.mem_of_getElem? (i := 1) rfl))))) rfl, in_BlockBells, ⟨by decide +kernel, by decide +kernel, by decide +kernel⟩, by decide⟩
theorem mc_yX2_rewind : gm_M yX2_rewind cX2_rewind 1 none 0 := ⟨tb_T (List.mem_append_right _ (List.mem_append_right _ (List.mem_append_right _ (List.mem_append_left _ (List.mem_of_getElem? (i := 5) rfl))))) rfl, in_BlockBells_Pad, ⟨by decide +kernel, by decide +kernel, by decide +kernel⟩, by decide⟩
theorem mc_yX2_readOrder : gm_M yX2_readOrder cX2_readOrder 1 (some .boolean) 0 := ⟨tb_T (List.mem_append_right _ (List.mem_append_right _ (List.mem_append_right _ (List.mem_append_left _ (List.mem_of_getElem? (i := 9) rfl))))) rfl, in_BlockBells_Pad, ⟨by decide +kernel, by decide +kernel, by decide +kernel⟩, by decide⟩
theorem mc_yX2_readSign : gm_M yX2_readSign cX2_readSign 2 none 1 := ⟨tb_T (List.mem_append_right _ (List.mem_append_right _ (List.mem_append_right _ (List.mem_append_left _ (List.mem_of_getElem? (i := 13) rfl))))) rfl, in_BlockBells_Pad, ⟨by decide +kernel, by decide +kernel, by decide +kernel⟩, by decide⟩
theorem mc_yX6_obey : gm_M yX6_obey cX6_obey 4 (some .int) 3 := ⟨tb_T (List.mem_append_right _ (List.mem_append_right _ (List.mem_append_right _ (List.mem_append_left _ (List.mem_of_getElem? (i := 17) rfl))))) rfl, in_BlockBells, ⟨by decide +kernel, by decide +kernel, by decide +kernel⟩, by decide⟩
theorem mc_yX6_count : gm_M yX6_count cX6_count 2 (some .int) 1 := ⟨tb_T (List.mem_append_right _ (List.mem_append_right _ (List.mem_append_right _ (List.mem_append_left _ (List.mem_of_getElem? (i := 31) rfl))))) rfl, in_BlockBells, ⟨by decide +kernel, by decide +kernel, by decide +kernel⟩, by decide⟩
theorem mc_yX1_trainsThatAre : gm_M yX1_trainsThatAre cX1_trainsThatAre 4 (some .int) 1 := ⟨tb_T (List.mem_append_right _ (List.mem_append_right _ (List.mem_append_right _ (List.mem_append_left _ (List.mem_of_getElem? (i := 35) rfl))))) rfl, in_BlockBells_Line, ⟨by decide +kernel, by decide +kernel, by decide +kernel⟩, by decide⟩
theorem mc_yX1_blocksOtherThan : gm_M yX1_blocksOtherThan cX1_blocksOtherThan 5 (some .int) 2 := ⟨tb_T (List.mem_append_right _ (List.mem_append_right _ (List.mem_append_right _ (List.mem_append_left _ (List.mem_of_getElem? (i := 39) rfl))))) rfl, in_BlockBells_Line, ⟨by decide +kernel, by decide +kernel, by decide +kernel⟩, by decide⟩
theorem mc_yX6_save : gm_M yX6_save cX6_save 2 (some .int) 1 := ⟨tb_T (List.mem_append_right _ (List.mem_append_right _ (List.mem_append_right _ (List.mem_append_left _ (List.mem_of_getElem? (i := 44) rfl))))) rfl, in_BlockBells, ⟨by decide +kernel, by decide +kernel, by decide +kernel⟩, by decide⟩
theorem mc_yX6_restore : gm_M yX6_restore cX6_restore 2 (some .int) 1 := ⟨tb_T (List.mem_append_right _ (List.mem_append_right _ (List.mem_append_right _ (List.mem_append_left _ (List.mem_of_getElem? (i := 48) rfl))))) rfl, in_BlockBells, ⟨by decide +kernel, by decide +kernel, by decide +kernel⟩, by decide⟩
theorem mc_yX7_init : gm_M yX7_init cX7_init 1 none 0 := ⟨tb_T (List.mem_append_right _ (List.mem_append_right _ (List.mem_append_right _ (List.mem_append_left _ (List.mem_of_getElem? (i := 53) rfl))))) rfl, in_BlockBellsModel, ⟨by decide +kernel, by decide +kernel, by decide +kernel⟩, by decide⟩
theorem mc_yX7_lay : gm_M yX7_lay cX7_lay 4 none 2 := ⟨tb_T (List.mem_append_right _ (List.mem_append_right _ (List.mem_append_right _ (List.mem_append_left _ (List.mem_of_getElem? (i := 58) rfl))))) rfl, in_BlockBellsModel, ⟨by decide +kernel, by decide +kernel, by decide +kernel⟩, by decide⟩
theorem mc_yX7_layBlocks : gm_M yX7_layBlocks cX7_layBlocks 2 none 0 := ⟨tb_T (List.mem_append_right _ (List.mem_append_right _ (List.mem_append_right _ (List.mem_append_left _ (List.mem_of_getElem? (i := 62) rfl))))) rfl, in_BlockBellsModel, ⟨by decide +kernel, by decide +kernel, by decide +kernel⟩, by decide⟩
theorem mc_yX7_setUp : gm_M yX7_setUp cX7_setUp 4 (some .int) 2 := ⟨tb_T (List.mem_append_right _ (List.mem_append_right _ (List.mem_append_right _ (List.mem_append_left _ (List.mem_of_getElem? (i := 97) rfl))))) rfl, in_BlockBellsModel, ⟨by decide +kernel, by decide +kernel, by decide +kernel⟩, by decide⟩
theorem mc_yX7_in : gm_M yX7_in cX7_in 3 (some .boolean) 3 := ⟨tb_T (List.mem_append_right _ (List.mem_append_right _ (List.mem_append_right _ (List.mem_append_left _ (List.mem_of_getElem? (i := 100) rfl))))) rfl, in_BlockBellsModel, ⟨by decide +kernel, by decide +kernel, by decide +kernel⟩, by decide⟩
theorem mc_yX7_setTime : gm_M yX7_setTime cX7_setTime 4 (some .int) 2 := ⟨tb_T (List.mem_append_right _ (List.mem_append_right _ (List.mem_append_right _ (List.mem_append_left _ (List.mem_of_getElem? (i := 104) rfl))))) rfl, in_BlockBellsModel, ⟨by decide +kernel, by decide +kernel, by decide +kernel⟩, by decide⟩
theorem mc_yX7_isSection : gm_M yX7_isSection cX7_isSection 2 (some .boolean) 1 := ⟨tb_T (List.mem_append_right _ (List.mem_append_right _ (List.mem_append_right _ (List.mem_append_left _ (List.mem_of_getElem? (i := 108) rfl))))) rfl, in_BlockBellsModel, ⟨by decide +kernel, by decide +kernel, by decide +kernel⟩, by decide⟩
theorem mc_yX7_sections : gm_M yX7_sections cX7_sections 1 (some .int) 0 := ⟨tb_T (List.mem_append_right _ (List.mem_append_right _ (List.mem_append_right _ (List.mem_append_left _ (List.mem_of_getElem? (i := 112) rfl))))) rfl, in_BlockBellsModel, ⟨by decide +kernel, by decide +kernel, by decide +kernel⟩, by decide⟩
theorem mc_yX7_setLoops : gm_M yX7_setLoops cX7_setLoops 5 (some .int) 3 := ⟨tb_T (List.mem_append_right _ (List.mem_append_right _ (List.mem_append_right _ (List.mem_append_left _ (List.mem_of_getElem? (i := 116) rfl))))) rfl, in_BlockBellsModel, ⟨by decide +kernel, by decide +kernel, by decide +kernel⟩, by decide⟩
theorem mc_yX7_isWay : gm_M yX7_isWay cX7_isWay 1 (some .boolean) 1 := ⟨tb_T (List.mem_append_right _ (List.mem_append_right _ (List.mem_append_right _ (List.mem_append_left _ (List.mem_of_getElem? (i := 119) rfl))))) rfl, in_BlockBellsModel, ⟨by decide +kernel, by decide +kernel, by decide +kernel⟩, by decide⟩
theorem mc_yX7_many : gm_M yX7_many cX7_many 6 (some .int) 3 := ⟨tb_T (List.mem_append_right _ (List.mem_append_right _ (List.mem_append_right _ (List.mem_append_left _ (List.mem_of_getElem? (i := 123) rfl))))) rfl, in_BlockBellsModel, ⟨by decide +kernel, by decide +kernel, by decide +kernel⟩, by decide⟩
theorem mc_yX7_ofTrain : gm_M yX7_ofTrain cX7_ofTrain 3 (some .int) 2 := ⟨tb_T (List.mem_append_right _ (List.mem_append_right _ (List.mem_append_right _ (List.mem_append_left _ (List.mem_of_getElem? (i := 127) rfl))))) rfl, in_BlockBellsModel, ⟨by decide +kernel, by decide +kernel, by decide +kernel⟩, by decide⟩
theorem mc_yX7_moveTokens : gm_M yX7_moveTokens cX7_moveTokens 5 (some .int) 2 := ⟨tb_T (List.mem_append_right _ (List.mem_append_right _ (List.mem_append_right _ (List.mem_append_left _ (List.mem_of_getElem? (i := 131) rfl))))) rfl, in_BlockBellsModel, ⟨by decide +kernel, by decide +kernel, by decide +kernel⟩, by decide⟩
theorem mc_yX7_isSingle : gm_M yX7_isSingle cX7_isSingle 2 (some .boolean) 1 := ⟨tb_T (List.mem_append_right _ (List.mem_append_right _ (List.mem_append_right _ (List.mem_append_left _ (List.mem_of_getElem? (i := 135) rfl))))) rfl, in_BlockBellsModel, ⟨by decide +kernel, by decide +kernel, by decide +kernel⟩, by decide⟩
theorem mc_yX7_section : gm_M yX7_section cX7_section 4 (some .int) 2 := ⟨tb_T (List.mem_append_right _ (List.mem_append_right _ (List.mem_append_right _ (List.mem_append_left _ (List.mem_of_getElem? (i := 139) rfl))))) rfl, in_BlockBellsModel, ⟨by decide +kernel, by decide +kernel, by decide +kernel⟩, by decide⟩
theorem mc_yX7_isTokenOut : gm_M yX7_isTokenOut cX7_isTokenOut 4 (some .boolean) 1 := ⟨tb_T (List.mem_append_right _ (List.mem_append_right _ (List.mem_append_right _ (List.mem_append_left _ (List.mem_of_getElem? (i := 143) rfl))))) rfl, in_BlockBellsModel, ⟨by decide +kernel, by decide +kernel, by decide +kernel⟩, by decide⟩
theorem mc_yX7_ofBlock : gm_M yX7_ofBlock cX7_ofBlock 4 (some .int) 3 := ⟨tb_T (List.mem_append_right _ (List.mem_append_right _ (List.mem_append_right _ (List.mem_append_left _ (List.mem_of_getElem? (i := 147) rfl))))) rfl, in_BlockBellsModel, ⟨by decide +kernel, by decide +kernel, by decide +kernel⟩, by decide⟩
theorem mc_yX7_place : gm_M yX7_place cX7_place 3 (some .int) 3 := ⟨tb_T (List.mem_append_right _ (List.mem_append_right _ (List.mem_append_right _ (List.mem_append_left _ (List.mem_of_getElem? (i := 150) rfl))))) rfl, in_BlockBellsModel, ⟨by decide +kernel, by decide +kernel, by decide +kernel⟩, by decide⟩
theorem mc_yX7_block : gm_M yX7_block cX7_block 4 (some .int) 3 := ⟨tb_T (List.mem_append_right _ (List.mem_append_right _ (List.mem_append_right _ (List.mem_append_left _ (List.mem_of_getElem? (i := 154) rfl))))) rfl, in_BlockBellsModel, ⟨by decide +kernel, by decide +kernel, by decide +kernel⟩, by decide⟩
theorem mc_yX7_isBlock : gm_M yX7_isBlock cX7_isBlock 3 (some .boolean) 2 := ⟨tb_T (List.mem_append_right _ (List.mem_append_right _ (List.mem_append_right _ (List.mem_append_left _ (List.mem_of_getElem? (i := 158) rfl))))) rfl, in_BlockBellsModel, ⟨by decide +kernel, by decide +kernel, by decide +kernel⟩, by decide⟩
theorem mc_yX7_appear : gm_M yX7_appear cX7_appear 3 (some .int) 2 := ⟨tb_T (List.mem_append_right _ (List.mem_append_right _ (List.mem_append_right _ (List.mem_append_left _ (List.mem_of_getElem? (i := 162) rfl))))) rfl, in_BlockBellsModel, ⟨by decide +kernel, by decide +kernel, by decide +kernel⟩, by decide⟩
theorem mc_yX7_firstBox : gm_M yX7_firstBox cX7_firstBox 2 (some .int) 1 := ⟨tb_T (List.mem_append_right _ (List.mem_append_right _ (List.mem_append_right _ (List.mem_append_left _ (List.mem_of_getElem? (i := 166) rfl))))) rfl, in_BlockBellsModel, ⟨by decide +kernel, by decide +kernel, by decide +kernel⟩, by decide⟩
theorem mc_yX7_isFree : gm_M yX7_isFree cX7_isFree 3 (some .boolean) 2 := ⟨tb_T (List.mem_append_right _ (List.mem_append_right _ (List.mem_append_right _ (List.mem_append_left _ (List.mem_of_getElem? (i := 170) rfl))))) rfl, in_BlockBellsModel, ⟨by decide +kernel, by decide +kernel, by decide +kernel⟩, by decide⟩
theorem mc_yX7_add : gm_M yX7_add cX7_add 4 (some .int) 2 := ⟨tb_T (List.mem_append_right _ (List.mem_append_right _ (List.mem_append_right _ (List.mem_append_left _ (List.mem_of_getElem? (i := 174) rfl))))) rfl, in_BlockBellsModel, ⟨by decide +kernel, by decide +kernel, by decide +kernel⟩, by decide⟩
theorem mc_yX7_layTrain : gm_M yX7_layTrain cX7_layTrain 4 none 3 := ⟨tb_T (List.mem_append_right _ (List.mem_append_right _ (List.mem_append_right _ (List.mem_append_left _ (List.mem_of_getElem? (i := 178) rfl))))) rfl, in_BlockBellsModel, ⟨by decide +kernel, by decide +kernel, by decide +kernel⟩, by decide⟩
theorem mc_yX7_train : gm_M yX7_train cX7_train 3 (some .int) 2 := ⟨tb_T (List.mem_append_right _ (List.mem_append_right _ (List.mem_append_right _ (List.mem_append_left _ (List.mem_of_getElem? (i := 182) rfl))))) rfl, in_BlockBellsModel, ⟨by decide +kernel, by decide +kernel, by decide +kernel⟩, by decide⟩
theorem mc_yX7_isTrain : gm_M yX7_isTrain cX7_isTrain 2 (some .boolean) 1 := ⟨tb_T (List.mem_append_right _ (List.mem_append_right _ (List.mem_append_right _ (List.mem_append_left _ (List.mem_of_getElem? (i := 186) rfl))))) rfl, in_BlockBellsModel, ⟨by decide +kernel, by decide +kernel, by decide +kernel⟩, by decide⟩
theorem mc_yX7_shunt : gm_M yX7_shunt cX7_shunt 4 (some .int) 1 := ⟨tb_T (List.mem_append_right _ (List.mem_append_right _ (List.mem_append_right _ (List.mem_append_left _ (List.mem_of_getElem? (i := 190) rfl))))) rfl, in_BlockBellsModel, ⟨by decide +kernel, by decide +kernel, by decide +kernel⟩, by decide⟩
theorem mc_yX7_canGoIn : gm_M yX7_canGoIn cX7_canGoIn 3 (some .boolean) 1 := ⟨tb_T (List.mem_append_right _ (List.mem_append_right _ (List.mem_append_right _ (List.mem_append_left _ (List.mem_of_getElem? (i := 194) rfl))))) rfl, in_BlockBellsModel, ⟨by decide +kernel, by decide +kernel, by decide +kernel⟩, by decide⟩
theorem mc_yX7_isOffered : gm_M yX7_isOffered cX7_isOffered 3 (some .boolean) 1 := ⟨tb_T (List.mem_append_right _ (List.mem_append_right _ (List.mem_append_right _ (List.mem_append_left _ (List.mem_of_getElem? (i := 198) rfl))))) rfl, in_BlockBellsModel, ⟨by decide +kernel, by decide +kernel, by decide +kernel⟩, by decide⟩
theorem mc_yX7_nextSection : gm_M yX7_nextSection cX7_nextSection 3 (some .int) 1 := ⟨tb_T (List.mem_append_right _ (List.mem_append_right _ (List.mem_append_right _ (List.mem_append_left _ (List.mem_of_getElem? (i := 202) rfl))))) rfl, in_BlockBellsModel, ⟨by decide +kernel, by decide +kernel, by decide +kernel⟩, by decide⟩
theorem mc_yX7_isClearFor : gm_M yX7_isClearFor cX7_isClearFor 4 (some .boolean) 1 := ⟨tb_T (List.mem_append_right _ (List.mem_append_right _ (List.mem_append_right _ (List.mem_append_left _ (List.mem_of_getElem? (i := 206) rfl))))) rfl, in_BlockBellsModel, ⟨by decide +kernel, by decide +kernel, by decide +kernel⟩, by decide⟩
theorem mc_yX7_isCalmBehind : gm_M yX7_isCalmBehind cX7_isCalmBehind 4 (some .boolean) 1 := ⟨tb_T (List.mem_append_right _ (List.mem_append_right _ (List.mem_append_right _ (List.mem_append_left _ (List.mem_of_getElem? (i := 210) rfl))))) rfl, in_BlockBellsModel, ⟨by decide +kernel, by decide +kernel, by decide +kernel⟩, by decide⟩
theorem mc_yX7_leave : gm_M yX7_leave cX7_leave 2 (some .int) 1 := ⟨tb_T (List.mem_append_right _ (List.mem_append_right _ (List.mem_append_right _ (List.mem_append_left _ (List.mem_of_getElem? (i := 214) rfl))))) rfl, in_BlockBellsModel, ⟨by decide +kernel, by decide +kernel, by decide +kernel⟩, by decide⟩
theorem mc_yX7_divide : gm_M yX7_divide cX7_divide 2 (some .int) 1 := ⟨tb_T (List.mem_append_right _ (List.mem_append_right _ (List.mem_append_right _ (List.mem_append_left _ (List.mem_of_getElem? (i := 218) rfl))))) rfl, in_BlockBellsModel, ⟨by decide +kernel, by decide +kernel, by decide +kernel⟩, by decide⟩
theorem mc_yX7_offer : gm_M yX7_offer cX7_offer 4 (some .int) 1 := ⟨tb_T (List.mem_append_right _ (List.mem_append_right _ (List.mem_append_right _ (List.mem_append_left _ (List.mem_of_getElem? (i := 222) rfl))))) rfl, in_BlockBellsModel, ⟨by decide +kernel, by decide +kernel, by decide +kernel⟩, by decide⟩
theorem mc_yX7_rear : gm_M yX7_rear cX7_rear 2 (some .int) 2 := ⟨tb_T (List.mem_append_right _ (List.mem_append_right _ (List.mem_append_right _ (List.mem_append_left _ (List.mem_of_getElem? (i := 225) rfl))))) rfl, in_BlockBellsModel, ⟨by decide +kernel, by decide +kernel, by decide +kernel⟩, by decide⟩
theorem mc_yX7_codeOf : gm_M yX7_codeOf cX7_codeOf 1 (some .int) 1 := ⟨tb_T (List.mem_append_right _ (List.mem_append_right _ (List.mem_append_right _ (List.mem_append_left _ (List.mem_of_getElem? (i := 228) rfl))))) rfl, in_BlockBellsModel, ⟨by decide +kernel, by decide +kernel, by decide +kernel⟩, by decide⟩
theorem mc_yX7_ring : gm_M yX7_ring cX7_ring 6 (some .int) 4 := ⟨tb_T (List.mem_append_right _ (List.mem_append_right _ (List.mem_append_right _ (List.mem_append_left _ (List.mem_of_getElem? (i := 232) rfl))))) rfl, in_BlockBellsModel, ⟨by decide +kernel, by decide +kernel, by decide +kernel⟩, by decide⟩
theorem mc_yX7_answer : gm_M yX7_answer cX7_answer 5 (some .int) 3 := ⟨tb_T (List.mem_append_right _ (List.mem_append_right _ (List.mem_append_right _ (List.mem_append_left _ (List.mem_of_getElem? (i := 236) rfl))))) rfl, in_BlockBellsModel, ⟨by decide +kernel, by decide +kernel, by decide +kernel⟩, by decide⟩
theorem mc_yX7_canAccept : gm_M yX7_canAccept cX7_canAccept 4 (some .boolean) 2 := ⟨tb_T (List.mem_append_right _ (List.mem_append_right _ (List.mem_append_right _ (List.mem_append_right _ (List.mem_of_getElem? (i := 0) rfl))))) rfl, in_BlockBellsModel, ⟨by decide +kernel, by decide +kernel, by decide +kernel⟩, by decide⟩
theorem mc_yX7_tokensAt : gm_M yX7_tokensAt cX7_tokensAt 2 (some .int) 2 := ⟨tb_T (List.mem_append_right _ (List.mem_append_right _ (List.mem_append_right _ (List.mem_append_right _ (List.mem_of_getElem? (i := 3) rfl))))) rfl, in_BlockBellsModel, ⟨by decide +kernel, by decide +kernel, by decide +kernel⟩, by decide⟩
theorem mc_yX7_ahead : gm_M yX7_ahead cX7_ahead 2 (some .int) 2 := ⟨tb_T (List.mem_append_right _ (List.mem_append_right _ (List.mem_append_right _ (List.mem_append_right _ (List.mem_of_getElem? (i := 6) rfl))))) rfl, in_BlockBellsModel, ⟨by decide +kernel, by decide +kernel, by decide +kernel⟩, by decide⟩
theorem mc_yX7_cancel : gm_M yX7_cancel cX7_cancel 4 (some .int) 2 := ⟨tb_T (List.mem_append_right _ (List.mem_append_right _ (List.mem_append_right _ (List.mem_append_right _ (List.mem_of_getElem? (i := 10) rfl))))) rfl, in_BlockBellsModel, ⟨by decide +kernel, by decide +kernel, by decide +kernel⟩, by decide⟩
theorem mc_yX7_unclear : gm_M yX7_unclear cX7_unclear 3 none 2 := ⟨tb_T (List.mem_append_right _ (List.mem_append_right _ (List.mem_append_right _ (List.mem_append_right _ (List.mem_of_getElem? (i := 14) rfl))))) rfl, in_BlockBellsModel, ⟨by decide +kernel, by decide +kernel, by decide +kernel⟩, by decide⟩
theorem mc_yX7_depart : gm_M yX7_depart cX7_depart 4 (some .int) 1 := ⟨tb_T (List.mem_append_right _ (List.mem_append_right _ (List.mem_append_right _ (List.mem_append_right _ (List.mem_of_getElem? (i := 18) rfl))))) rfl, in_BlockBellsModel, ⟨by decide +kernel, by decide +kernel, by decide +kernel⟩, by decide⟩
theorem mc_yX7_admit : gm_M yX7_admit cX7_admit 5 (some .int) 2 := ⟨tb_T (List.mem_append_right _ (List.mem_append_right _ (List.mem_append_right _ (List.mem_append_right _ (List.mem_of_getElem? (i := 22) rfl))))) rfl, in_BlockBellsModel, ⟨by decide +kernel, by decide +kernel, by decide +kernel⟩, by decide⟩
theorem mc_yX7_isInside : gm_M yX7_isInside cX7_isInside 4 (some .boolean) 2 := ⟨tb_T (List.mem_append_right _ (List.mem_append_right _ (List.mem_append_right _ (List.mem_append_right _ (List.mem_of_getElem? (i := 26) rfl))))) rfl, in_BlockBellsModel, ⟨by decide +kernel, by decide +kernel, by decide +kernel⟩, by decide⟩
theorem mc_yX7_out : gm_M yX7_out cX7_out 4 (some .int) 2 := ⟨tb_T (List.mem_append_right _ (List.mem_append_right _ (List.mem_append_right _ (List.mem_append_right _ (List.mem_of_getElem? (i := 30) rfl))))) rfl, in_BlockBellsModel, ⟨by decide +kernel, by decide +kernel, by decide +kernel⟩, by decide⟩
theorem mc_yX7_assist : gm_M yX7_assist cX7_assist 3 (some .int) 2 := ⟨tb_T (List.mem_append_right _ (List.mem_append_right _ (List.mem_append_right _ (List.mem_append_right _ (List.mem_of_getElem? (i := 34) rfl))))) rfl, in_BlockBellsModel, ⟨by decide +kernel, by decide +kernel, by decide +kernel⟩, by decide⟩
theorem mc_yX7_obstruct : gm_M yX7_obstruct cX7_obstruct 4 (some .int) 2 := ⟨tb_T (List.mem_append_right _ (List.mem_append_right _ (List.mem_append_right _ (List.mem_append_right _ (List.mem_of_getElem? (i := 38) rfl))))) rfl, in_BlockBellsModel, ⟨by decide +kernel, by decide +kernel, by decide +kernel⟩, by decide⟩
theorem mc_yX7_lift : gm_M yX7_lift cX7_lift 3 (some .int) 2 := ⟨tb_T (List.mem_append_right _ (List.mem_append_right _ (List.mem_append_right _ (List.mem_append_right _ (List.mem_of_getElem? (i := 42) rfl))))) rfl, in_BlockBellsModel, ⟨by decide +kernel, by decide +kernel, by decide +kernel⟩, by decide⟩
theorem mc_yX7_pass : gm_M yX7_pass cX7_pass 3 (some .int) 1 := ⟨tb_T (List.mem_append_right _ (List.mem_append_right _ (List.mem_append_right _ (List.mem_append_right _ (List.mem_of_getElem? (i := 46) rfl))))) rfl, in_BlockBellsModel, ⟨by decide +kernel, by decide +kernel, by decide +kernel⟩, by decide⟩
theorem mc_yX7_tick : gm_M yX7_tick cX7_tick 3 none 0 := ⟨tb_T (List.mem_append_right _ (List.mem_append_right _ (List.mem_append_right _ (List.mem_append_right _ (List.mem_of_getElem? (i := 51) rfl))))) rfl, in_BlockBellsModel, ⟨by decide +kernel, by decide +kernel, by decide +kernel⟩, by decide⟩
theorem mc_yX7_signal : gm_M yX7_signal cX7_signal 4 (some .int) 2 := ⟨tb_T (List.mem_append_right _ (List.mem_append_right _ (List.mem_append_right _ (List.mem_append_right _ (List.mem_of_getElem? (i := 55) rfl))))) rfl, in_BlockBellsModel, ⟨by decide +kernel, by decide +kernel, by decide +kernel⟩, by decide⟩
theorem mc_yX7_rung : gm_M yX7_rung cX7_rung 6 (some .int) 2 := ⟨tb_T (List.mem_append_right _ (List.mem_append_right _ (List.mem_append_right _ (List.mem_append_right _ (List.mem_of_getElem? (i := 59) rfl))))) rfl, in_BlockBellsModel, ⟨by decide +kernel, by decide +kernel, by decide +kernel⟩, by decide⟩
theorem mc_yX7_work : gm_M yX7_work cX7_work 4 (some .int) 1 := ⟨tb_T (List.mem_append_right _ (List.mem_append_right _ (List.mem_append_right _ (List.mem_append_right _ (List.mem_of_getElem? (i := 63) rfl))))) rfl, in_BlockBellsModel, ⟨by decide +kernel, by decide +kernel, by decide +kernel⟩, by decide⟩
theorem mc_yX7_trainsAt : gm_M yX7_trainsAt cX7_trainsAt 4 (some .int) 1 := ⟨tb_T (List.mem_append_right _ (List.mem_append_right _ (List.mem_append_right _ (List.mem_append_right _ (List.mem_of_getElem? (i := 67) rfl))))) rfl, in_BlockBellsModel, ⟨by decide +kernel, by decide +kernel, by decide +kernel⟩, by decide⟩
theorem mc_yX7_workTick : gm_M yX7_workTick cX7_workTick 1 none 0 := ⟨tb_T (List.mem_append_right _ (List.mem_append_right _ (List.mem_append_right _ (List.mem_append_right _ (List.mem_of_getElem? (i := 71) rfl))))) rfl, in_BlockBellsModel, ⟨by decide +kernel, by decide +kernel, by decide +kernel⟩, by decide⟩
theorem mc_yX7_workBlocks : gm_M yX7_workBlocks cX7_workBlocks 4 none 1 := ⟨tb_T (List.mem_append_right _ (List.mem_append_right _ (List.mem_append_right _ (List.mem_append_right _ (List.mem_of_getElem? (i := 75) rfl))))) rfl, in_BlockBellsModel, ⟨by decide +kernel, by decide +kernel, by decide +kernel⟩, by decide⟩
theorem mc_yX7_workTrains : gm_M yX7_workTrains cX7_workTrains 3 none 1 := ⟨tb_T (List.mem_append_right _ (List.mem_append_right _ (List.mem_append_right _ (List.mem_append_right _ (List.mem_of_getElem? (i := 83) rfl))))) rfl, in_BlockBellsModel, ⟨by decide +kernel, by decide +kernel, by decide +kernel⟩, by decide⟩
theorem mc_yX7_forecast : gm_M yX7_forecast cX7_forecast 5 (some .int) 2 := ⟨tb_T (List.mem_append_right _ (List.mem_append_right _ (List.mem_append_right _ (List.mem_append_right _ (List.mem_of_getElem? (i := 90) rfl))))) rfl, in_BlockBellsModel, ⟨by decide +kernel, by decide +kernel, by decide +kernel⟩, by decide⟩
theorem mc_yX7_putAside : gm_M yX7_putAside cX7_putAside 2 none 0 := ⟨tb_T (List.mem_append_right _ (List.mem_append_right _ (List.mem_append_right _ (List.mem_append_right _ (List.mem_of_getElem? (i := 94) rfl))))) rfl, in_BlockBellsModel, ⟨by decide +kernel, by decide +kernel, by decide +kernel⟩, by decide⟩
theorem mc_yX7_putBack : gm_M yX7_putBack cX7_putBack 2 none 0 := ⟨tb_T (List.mem_append_right _ (List.mem_append_right _ (List.mem_append_right _ (List.mem_append_right _ (List.mem_of_getElem? (i := 98) rfl))))) rfl, in_BlockBellsModel, ⟨by decide +kernel, by decide +kernel, by decide +kernel⟩, by decide⟩
theorem mc_yX7_capacity : gm_M yX7_capacity cX7_capacity 5 (some .int) 3 := ⟨tb_T (List.mem_append_right _ (List.mem_append_right _ (List.mem_append_right _ (List.mem_append_right _ (List.mem_of_getElem? (i := 102) rfl))))) rfl, in_BlockBellsModel, ⟨by decide +kernel, by decide +kernel, by decide +kernel⟩, by decide⟩
theorem mc_yX7_say : gm_M yX7_say cX7_say 2 (some .int) 1 := ⟨tb_T (List.mem_append_right _ (List.mem_append_right _ (List.mem_append_right _ (List.mem_append_right _ (List.mem_of_getElem? (i := 106) rfl))))) rfl, in_BlockBellsModel, ⟨by decide +kernel, by decide +kernel, by decide +kernel⟩, by decide⟩
theorem mc_yX7_wipe : gm_M yX7_wipe cX7_wipe 2 (some .int) 0 := ⟨tb_T (List.mem_append_right _ (List.mem_append_right _ (List.mem_append_right _ (List.mem_append_right _ (List.mem_of_getElem? (i := 110) rfl))))) rfl, in_BlockBellsModel, ⟨by decide +kernel, by decide +kernel, by decide +kernel⟩, by decide⟩
theorem mc_yX7_fault : gm_M yX7_fault cX7_fault 1 (some .int) 0 := ⟨tb_T (List.mem_append_right _ (List.mem_append_right _ (List.mem_append_right _ (List.mem_append_right _ (List.mem_of_getElem? (i := 114) rfl))))) rfl, in_BlockBellsModel, ⟨by decide +kernel, by decide +kernel, by decide +kernel⟩, by decide⟩
theorem mc_yX7_readOrder : gm_M yX7_readOrder cX7_readOrder 3 none 0 := ⟨tb_T (List.mem_append_right _ (List.mem_append_right _ (List.mem_append_right _ (List.mem_append_right _ (List.mem_of_getElem? (i := 118) rfl))))) rfl, in_BlockBellsModel, ⟨by decide +kernel, by decide +kernel, by decide +kernel⟩, by decide⟩
theorem mc_yX7_nextSign : gm_M yX7_nextSign cX7_nextSign 1 (some .int) 0 := ⟨tb_T (List.mem_append_right _ (List.mem_append_right _ (List.mem_append_right _ (List.mem_append_right _ (List.mem_of_getElem? (i := 122) rfl))))) rfl, in_BlockBellsModel, ⟨by decide +kernel, by decide +kernel, by decide +kernel⟩, by decide⟩
theorem mc_yX7_isForTrain : gm_M yX7_isForTrain cX7_isForTrain 1 (some .boolean) 1 := ⟨tb_T (List.mem_append_right _ (List.mem_append_right _ (List.mem_append_right _ (List.mem_append_right _ (List.mem_of_getElem? (i := 125) rfl))))) rfl, in_BlockBellsModel, ⟨by decide +kernel, by decide +kernel, by decide +kernel⟩, by decide⟩
theorem mc_yX7_isForBlock : gm_M yX7_isForBlock cX7_isForBlock 1 (some .boolean) 1 := ⟨tb_T (List.mem_append_right _ (List.mem_append_right _ (List.mem_append_right _ (List.mem_append_right _ (List.mem_of_getElem? (i := 128) rfl))))) rfl, in_BlockBellsModel, ⟨by decide +kernel, by decide +kernel, by decide +kernel⟩, by decide⟩
theorem mc_yX7_takeNumber : gm_M yX7_takeNumber cX7_takeNumber 4 (some .int) 2 := ⟨tb_T (List.mem_append_right _ (List.mem_append_right _ (List.mem_append_right _ (List.mem_append_right _ (List.mem_of_getElem? (i := 132) rfl))))) rfl, in_BlockBellsModel, ⟨by decide +kernel, by decide +kernel, by decide +kernel⟩, by decide⟩
theorem mc_yX7_takeSide : gm_M yX7_takeSide cX7_takeSide 1 (some .int) 0 := ⟨tb_T (List.mem_append_right _ (List.mem_append_right _ (List.mem_append_right _ (List.mem_append_right _ (List.mem_of_getElem? (i := 136) rfl))))) rfl, in_BlockBellsModel, ⟨by decide +kernel, by decide +kernel, by decide +kernel⟩, by decide⟩
theorem mc_yX7_carryOut : gm_M yX7_carryOut cX7_carryOut 2 (some .int) 0 := ⟨tb_T (List.mem_append_right _ (List.mem_append_right _ (List.mem_append_right _ (List.mem_append_right _ (List.mem_of_getElem? (i := 140) rfl))))) rfl, in_BlockBellsModel, ⟨by decide +kernel, by decide +kernel, by decide +kernel⟩, by decide⟩
theorem mc_yX7_carryOutOne : gm_M yX7_carryOutOne cX7_carryOutOne 4 (some .int) 3 := ⟨tb_T (List.mem_append_right _ (List.mem_append_right _ (List.mem_append_right _ (List.mem_append_right _ (List.mem_of_getElem? (i := 145) rfl))))) rfl, in_BlockBellsModel, ⟨by decide +kernel, by decide +kernel, by decide +kernel⟩, by decide⟩
theorem mc_yX7_count : gm_M yX7_count cX7_count 2 (some .int) 1 := ⟨tb_T (List.mem_append_right _ (List.mem_append_right _ (List.mem_append_right _ (List.mem_append_right _ (List.mem_of_getElem? (i := 152) rfl))))) rfl, in_BlockBellsModel, ⟨by decide +kernel, by decide +kernel, by decide +kernel⟩, by decide⟩
theorem mc_yX7_blocksWith : gm_M yX7_blocksWith cX7_blocksWith 5 (some .int) 1 := ⟨tb_T (List.mem_append_right _ (List.mem_append_right _ (List.mem_append_right _ (List.mem_append_right _ (List.mem_of_getElem? (i := 156) rfl))))) rfl, in_BlockBellsModel, ⟨by decide +kernel, by decide +kernel, by decide +kernel⟩, by decide⟩
theorem mc_yX7_save : gm_M yX7_save cX7_save 3 (some .int) 1 := ⟨tb_T (List.mem_append_right _ (List.mem_append_right _ (List.mem_append_right _ (List.mem_append_right _ (List.mem_of_getElem? (i := 160) rfl))))) rfl, in_BlockBellsModel, ⟨by decide +kernel, by decide +kernel, by decide +kernel⟩, by decide⟩
theorem mc_yX7_restore : gm_M yX7_restore cX7_restore 3 (some .int) 1 := ⟨tb_T (List.mem_append_right _ (List.mem_append_right _ (List.mem_append_right _ (List.mem_append_right _ (List.mem_of_getElem? (i := 164) rfl))))) rfl, in_BlockBellsModel, ⟨by decide +kernel, by decide +kernel, by decide +kernel⟩, by decide⟩
theorem iwX0 : ∀ w ∈ u_ws RX0 TX0 7, w ∈ TB := by
  intro w hw
  obtain ⟨j, hj, rfl⟩ := List.mem_map.mp hw
  have hj := List.mem_range.mp hj
  match j, hj with
  | 0, _ => exact (tb_T (List.mem_append_left _ (List.mem_of_getElem? (i := 83) rfl)) rfl : Cond.laysFinal RX0 "BlockBells$Block" "section" "LBlockBells$Section;" ∈ TB)
  | 1, _ => exact (tb_T (List.mem_append_left _ (List.mem_of_getElem? (i := 85) rfl)) rfl : Cond.laysFinal RX0 "BlockBells$Block" "direction" "I" ∈ TB)
  | 2, _ => exact (tb_T (List.mem_append_left _ (List.mem_of_getElem? (i := 87) rfl)) rfl : Cond.lays RX0 "BlockBells$Block" "state" "I" ∈ TB)
  | 3, _ => exact (tb_T (List.mem_append_left _ (List.mem_of_getElem? (i := 89) rfl)) rfl : Cond.lays RX0 "BlockBells$Block" "offered" "I" ∈ TB)
  | 4, _ => exact (tb_T (List.mem_append_left _ (List.mem_of_getElem? (i := 91) rfl)) rfl : Cond.lays RX0 "BlockBells$Block" "holder" "I" ∈ TB)
  | 5, _ => exact (tb_T (List.mem_append_left _ (List.mem_of_getElem? (i := 93) rfl)) rfl : Cond.lays RX0 "BlockBells$Block" "part" "Z" ∈ TB)
  | 6, _ => exact (tb_T (List.mem_append_left _ (List.mem_of_getElem? (i := 95) rfl)) rfl : Cond.lays RX0 "BlockBells$Block" "engineTicks" "I" ∈ TB)
  | j + 7, h => exact absurd h (by omega)
theorem iwX1 : ∀ w ∈ u_ws RX1 TX1 8, w ∈ TB := by
  intro w hw
  obtain ⟨j, hj, rfl⟩ := List.mem_map.mp hw
  have hj := List.mem_range.mp hj
  match j, hj with
  | 0, _ => exact (tb_T (List.mem_append_left _ (List.mem_of_getElem? (i := 185) rfl)) rfl : Cond.laysFinal RX1 "BlockBells$Line" "sections" "[LBlockBells$Section;" ∈ TB)
  | 1, _ => exact (tb_T (List.mem_append_left _ (List.mem_of_getElem? (i := 187) rfl)) rfl : Cond.laysFinal RX1 "BlockBells$Line" "blocks" "[LBlockBells$Block;" ∈ TB)
  | 2, _ => exact (tb_T (List.mem_append_left _ (List.mem_of_getElem? (i := 189) rfl)) rfl : Cond.laysFinal RX1 "BlockBells$Line" "trains" "[LBlockBells$Train;" ∈ TB)
  | 3, _ => exact (tb_T (List.mem_append_left _ (List.mem_of_getElem? (i := 191) rfl)) rfl : Cond.laysFinal RX1 "BlockBells$Line" "loops" "[I" ∈ TB)
  | 4, _ => exact (tb_T (List.mem_append_left _ (List.mem_of_getElem? (i := 193) rfl)) rfl : Cond.laysFinal RX1 "BlockBells$Line" "register" "LBlockBells$Register;" ∈ TB)
  | 5, _ => exact (tb_T (List.mem_append_left _ (List.mem_of_getElem? (i := 195) rfl)) rfl : Cond.lays RX1 "BlockBells$Line" "boxes" "I" ∈ TB)
  | 6, _ => exact (tb_T (List.mem_append_left _ (List.mem_of_getElem? (i := 197) rfl)) rfl : Cond.lays RX1 "BlockBells$Line" "appeared" "I" ∈ TB)
  | 7, _ => exact (tb_T (List.mem_append_left _ (List.mem_of_getElem? (i := 199) rfl)) rfl : Cond.lays RX1 "BlockBells$Line" "time" "I" ∈ TB)
  | j + 8, h => exact absurd h (by omega)
theorem iwX2 : ∀ w ∈ u_ws RX2 TX2 6, w ∈ TB := by
  intro w hw
  obtain ⟨j, hj, rfl⟩ := List.mem_map.mp hw
  have hj := List.mem_range.mp hj
  match j, hj with
  | 0, _ => exact (tb_T (List.mem_append_left _ (List.mem_of_getElem? (i := 219) rfl)) rfl : Cond.laysFinal RX2 "BlockBells$Pad" "signs" "[I" ∈ TB)
  | 1, _ => exact (tb_T (List.mem_append_left _ (List.mem_of_getElem? (i := 221) rfl)) rfl : Cond.lays RX2 "BlockBells$Pad" "length" "I" ∈ TB)
  | 2, _ => exact (tb_T (List.mem_append_left _ (List.mem_of_getElem? (i := 223) rfl)) rfl : Cond.lays RX2 "BlockBells$Pad" "at" "I" ∈ TB)
  | 3, _ => exact (tb_T (List.mem_append_left _ (List.mem_of_getElem? (i := 225) rfl)) rfl : Cond.lays RX2 "BlockBells$Pad" "letter" "I" ∈ TB)
  | 4, _ => exact (tb_T (List.mem_append_left _ (List.mem_of_getElem? (i := 227) rfl)) rfl : Cond.lays RX2 "BlockBells$Pad" "number" "I" ∈ TB)
  | 5, _ => exact (tb_T (List.mem_append_left _ (List.mem_of_getElem? (i := 229) rfl)) rfl : Cond.lays RX2 "BlockBells$Pad" "direction" "I" ∈ TB)
  | j + 6, h => exact absurd h (by omega)
theorem iwX3 : ∀ w ∈ u_ws RX3 TX3 2, w ∈ TB := by
  intro w hw
  obtain ⟨j, hj, rfl⟩ := List.mem_map.mp hw
  have hj := List.mem_range.mp hj
  match j, hj with
  | 0, _ => exact (tb_T (List.mem_append_left _ (List.mem_of_getElem? (i := 151) rfl)) rfl : Cond.laysFinal RX3 "BlockBells$Register" "rows" "[I" ∈ TB)
  | 1, _ => exact (tb_T (List.mem_append_left _ (List.mem_of_getElem? (i := 153) rfl)) rfl : Cond.lays RX3 "BlockBells$Register" "total" "I" ∈ TB)
  | j + 2, h => exact absurd h (by omega)
theorem iwX4 : ∀ w ∈ u_ws RX4 TX4 6, w ∈ TB := by
  intro w hw
  obtain ⟨j, hj, rfl⟩ := List.mem_map.mp hw
  have hj := List.mem_range.mp hj
  match j, hj with
  | 0, _ => exact (tb_T (List.mem_append_left _ (List.mem_of_getElem? (i := 49) rfl)) rfl : Cond.laysFinal RX4 "BlockBells$Section" "number" "I" ∈ TB)
  | 1, _ => exact (tb_T (List.mem_append_left _ (List.mem_of_getElem? (i := 51) rfl)) rfl : Cond.lays RX4 "BlockBells$Section" "single" "Z" ∈ TB)
  | 2, _ => exact (tb_T (List.mem_append_left _ (List.mem_of_getElem? (i := 53) rfl)) rfl : Cond.lays RX4 "BlockBells$Section" "runningTime" "I" ∈ TB)
  | 3, _ => exact (tb_T (List.mem_append_left _ (List.mem_of_getElem? (i := 55) rfl)) rfl : Cond.lays RX4 "BlockBells$Section" "lowerTokens" "I" ∈ TB)
  | 4, _ => exact (tb_T (List.mem_append_left _ (List.mem_of_getElem? (i := 57) rfl)) rfl : Cond.lays RX4 "BlockBells$Section" "higherTokens" "I" ∈ TB)
  | 5, _ => exact (tb_T (List.mem_append_left _ (List.mem_of_getElem? (i := 59) rfl)) rfl : Cond.lays RX4 "BlockBells$Section" "tokenOut" "Z" ∈ TB)
  | j + 6, h => exact absurd h (by omega)
theorem iwX5 : ∀ w ∈ u_ws RX5 TX5 9, w ∈ TB := by
  intro w hw
  obtain ⟨j, hj, rfl⟩ := List.mem_map.mp hw
  have hj := List.mem_range.mp hj
  match j, hj with
  | 0, _ => exact (tb_T (List.mem_append_left _ (List.mem_of_getElem? (i := 122) rfl)) rfl : Cond.laysFinal RX5 "BlockBells$Train" "number" "I" ∈ TB)
  | 1, _ => exact (tb_T (List.mem_append_left _ (List.mem_of_getElem? (i := 124) rfl)) rfl : Cond.lays RX5 "BlockBells$Train" "kind" "I" ∈ TB)
  | 2, _ => exact (tb_T (List.mem_append_left _ (List.mem_of_getElem? (i := 126) rfl)) rfl : Cond.lays RX5 "BlockBells$Train" "direction" "I" ∈ TB)
  | 3, _ => exact (tb_T (List.mem_append_left _ (List.mem_of_getElem? (i := 128) rfl)) rfl : Cond.lays RX5 "BlockBells$Train" "where" "I" ∈ TB)
  | 4, _ => exact (tb_T (List.mem_append_left _ (List.mem_of_getElem? (i := 130) rfl)) rfl : Cond.lays RX5 "BlockBells$Train" "place" "I" ∈ TB)
  | 5, _ => exact (tb_T (List.mem_append_left _ (List.mem_of_getElem? (i := 132) rfl)) rfl : Cond.lays RX5 "BlockBells$Train" "ticksLeft" "I" ∈ TB)
  | 6, _ => exact (tb_T (List.mem_append_left _ (List.mem_of_getElem? (i := 134) rfl)) rfl : Cond.lays RX5 "BlockBells$Train" "whole" "Z" ∈ TB)
  | 7, _ => exact (tb_T (List.mem_append_left _ (List.mem_of_getElem? (i := 136) rfl)) rfl : Cond.lays RX5 "BlockBells$Train" "appearedAt" "I" ∈ TB)
  | 8, _ => exact (tb_T (List.mem_append_left _ (List.mem_of_getElem? (i := 138) rfl)) rfl : Cond.lays RX5 "BlockBells$Train" "leftAt" "I" ∈ TB)
  | j + 9, h => exact absurd h (by omega)
theorem iwX6 : ∀ w ∈ u_ws RX6 TX6 5, w ∈ TB := by
  intro w hw
  obtain ⟨j, hj, rfl⟩ := List.mem_map.mp hw
  have hj := List.mem_range.mp hj
  match j, hj with
  | 0, _ => exact (tb_T (List.mem_append_left _ (List.mem_of_getElem? (i := 238) rfl)) rfl : Cond.laysFinal RX6 "BlockBells" "line" "LBlockBells$Line;" ∈ TB)
  | 1, _ => exact (tb_T (List.mem_append_right _ (List.mem_append_left _ (List.mem_of_getElem? (i := 0) rfl))) rfl : Cond.laysFinal RX6 "BlockBells" "trial" "LBlockBells$Line;" ∈ TB)
  | 2, _ => exact (tb_T (List.mem_append_right _ (List.mem_append_left _ (List.mem_of_getElem? (i := 2) rfl))) rfl : Cond.laysFinal RX6 "BlockBells" "slots" "[LBlockBells$Line;" ∈ TB)
  | 3, _ => exact (tb_T (List.mem_append_right _ (List.mem_append_left _ (List.mem_of_getElem? (i := 4) rfl))) rfl : Cond.laysFinal RX6 "BlockBells" "saved" "[Z" ∈ TB)
  | 4, _ => exact (tb_T (List.mem_append_right _ (List.mem_append_left _ (List.mem_of_getElem? (i := 6) rfl))) rfl : Cond.laysFinal RX6 "BlockBells" "pad" "LBlockBells$Pad;" ∈ TB)
  | j + 5, h => exact absurd h (by omega)
theorem iwX7 : ∀ w ∈ u_ws RX7 TX7 10, w ∈ TB := by
  intro w hw
  obtain ⟨j, hj, rfl⟩ := List.mem_map.mp hw
  have hj := List.mem_range.mp hj
  match j, hj with
  | 0, _ => exact (tb_T (List.mem_append_right _ (List.mem_append_right _ (List.mem_append_right _ (List.mem_append_left _ (List.mem_of_getElem? (i := 73) rfl))))) rfl : Cond.laysFinal RX7 "BlockBellsModel" "at" "[I" ∈ TB)
  | 1, _ => exact (tb_T (List.mem_append_right _ (List.mem_append_right _ (List.mem_append_right _ (List.mem_append_left _ (List.mem_of_getElem? (i := 75) rfl))))) rfl : Cond.laysFinal RX7 "BlockBellsModel" "aside" "[I" ∈ TB)
  | 2, _ => exact (tb_T (List.mem_append_right _ (List.mem_append_right _ (List.mem_append_right _ (List.mem_append_left _ (List.mem_of_getElem? (i := 77) rfl))))) rfl : Cond.laysFinal RX7 "BlockBellsModel" "slots" "[I" ∈ TB)
  | 3, _ => exact (tb_T (List.mem_append_right _ (List.mem_append_right _ (List.mem_append_right _ (List.mem_append_left _ (List.mem_of_getElem? (i := 79) rfl))))) rfl : Cond.laysFinal RX7 "BlockBellsModel" "isSaved" "[Z" ∈ TB)
  | 4, _ => exact (tb_T (List.mem_append_right _ (List.mem_append_right _ (List.mem_append_right _ (List.mem_append_left _ (List.mem_of_getElem? (i := 81) rfl))))) rfl : Cond.laysFinal RX7 "BlockBellsModel" "pad" "[I" ∈ TB)
  | 5, _ => exact (tb_T (List.mem_append_right _ (List.mem_append_right _ (List.mem_append_right _ (List.mem_append_left _ (List.mem_of_getElem? (i := 83) rfl))))) rfl : Cond.lays RX7 "BlockBellsModel" "padMany" "I" ∈ TB)
  | 6, _ => exact (tb_T (List.mem_append_right _ (List.mem_append_right _ (List.mem_append_right _ (List.mem_append_left _ (List.mem_of_getElem? (i := 85) rfl))))) rfl : Cond.lays RX7 "BlockBellsModel" "reading" "I" ∈ TB)
  | 7, _ => exact (tb_T (List.mem_append_right _ (List.mem_append_right _ (List.mem_append_right _ (List.mem_append_left _ (List.mem_of_getElem? (i := 87) rfl))))) rfl : Cond.lays RX7 "BlockBellsModel" "isWrong" "Z" ∈ TB)
  | 8, _ => exact (tb_T (List.mem_append_right _ (List.mem_append_right _ (List.mem_append_right _ (List.mem_append_left _ (List.mem_of_getElem? (i := 89) rfl))))) rfl : Cond.laysFinal RX7 "BlockBellsModel" "orders" "[I" ∈ TB)
  | 9, _ => exact (tb_T (List.mem_append_right _ (List.mem_append_right _ (List.mem_append_right _ (List.mem_append_left _ (List.mem_of_getElem? (i := 91) rfl))))) rfl : Cond.lays RX7 "BlockBellsModel" "orderMany" "I" ∈ TB)
  | j + 10, h => exact absurd h (by omega)
