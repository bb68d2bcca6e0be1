theorem wd_0 : Cond.selects "StepColumns" ⟨"StepColumns", "changeFits", "(III)Z"⟩ ⟨"StepColumns", "changeFits", "(III)Z"⟩ ∈ gw := List.mem_filter.mpr ⟨List.mem_of_getElem? (i := 0) (by decide +kernel), by decide +kernel⟩
theorem wd_1 : Cond.selects "StepColumns" ⟨"StepColumns", "layBest", "()Z"⟩ ⟨"StepColumns", "layBest", "()Z"⟩ ∈ gw := List.mem_filter.mpr ⟨List.mem_of_getElem? (i := 1) (by decide +kernel), by decide +kernel⟩
theorem wd_2 : Cond.selects "StepColumns$Scale" ⟨"StepColumns$Scale", "costOfAll", "()I"⟩ ⟨"StepColumns$Scale", "costOfAll", "()I"⟩ ∈ gw := List.mem_filter.mpr ⟨List.mem_of_getElem? (i := 2) (by decide +kernel), by decide +kernel⟩
theorem wd_3 : Cond.selects "StepColumns$Scale" ⟨"StepColumns$Scale", "weighOnTop", "(I)V"⟩ ⟨"StepColumns$Scale", "weighOnTop", "(I)V"⟩ ∈ gw := List.mem_filter.mpr ⟨List.mem_of_getElem? (i := 3) (by decide +kernel), by decide +kernel⟩
theorem wd_4 : Cond.selects "StepColumns$Scale" ⟨"StepColumns$Scale", "costFrom", "(III)I"⟩ ⟨"StepColumns$Scale", "costFrom", "(III)I"⟩ ∈ gw := List.mem_filter.mpr ⟨List.mem_of_getElem? (i := 4) (by decide +kernel), by decide +kernel⟩
theorem wd_5 : Cond.selects "StepColumns$Scale" ⟨"StepColumns$Scale", "costUpTo", "(IIII)I"⟩ ⟨"StepColumns$Scale", "costUpTo", "(IIII)I"⟩ ∈ gw := List.mem_filter.mpr ⟨List.mem_of_getElem? (i := 5) (by decide +kernel), by decide +kernel⟩
theorem wd_6 : Cond.selects "StepColumns$Scale" ⟨"StepColumns$Scale", "costBehind", "(II)I"⟩ ⟨"StepColumns$Scale", "costBehind", "(II)I"⟩ ∈ gw := List.mem_filter.mpr ⟨List.mem_of_getElem? (i := 6) (by decide +kernel), by decide +kernel⟩
theorem wd_7 : Cond.selects "StepColumns$Scale" ⟨"StepColumns$Scale", "costWithin", "(II)I"⟩ ⟨"StepColumns$Scale", "costWithin", "(II)I"⟩ ∈ gw := List.mem_filter.mpr ⟨List.mem_of_getElem? (i := 7) (by decide +kernel), by decide +kernel⟩
theorem wd_8 : Cond.selects "StepColumns$Scale" ⟨"StepColumns$Scale", "mostRoom", "(II)I"⟩ ⟨"StepColumns$Scale", "mostRoom", "(II)I"⟩ ∈ gw := List.mem_filter.mpr ⟨List.mem_of_getElem? (i := 8) (by decide +kernel), by decide +kernel⟩
theorem wd_9 : Cond.selects "StepColumns$Laying" ⟨"StepColumns$Laying", "openColumn", "(I)V"⟩ ⟨"StepColumns$Laying", "openColumn", "(I)V"⟩ ∈ gw := List.mem_filter.mpr ⟨List.mem_of_getElem? (i := 9) (by decide +kernel), by decide +kernel⟩
theorem wd_10 : Cond.selects "StepColumns$Laying" ⟨"StepColumns$Laying", "putItem", "(LStepColumns$Scale;III)I"⟩ ⟨"StepColumns$Laying", "putItem", "(LStepColumns$Scale;III)I"⟩ ∈ gw := List.mem_filter.mpr ⟨List.mem_of_getElem? (i := 10) (by decide +kernel), by decide +kernel⟩
theorem wd_11 : Cond.selects "StepColumns$Laying" ⟨"StepColumns$Laying", "putThing", "(III)V"⟩ ⟨"StepColumns$Laying", "putThing", "(III)V"⟩ ∈ gw := List.mem_filter.mpr ⟨List.mem_of_getElem? (i := 11) (by decide +kernel), by decide +kernel⟩
theorem wd_12 : Cond.selects "StepColumns$Laying" ⟨"StepColumns$Laying", "firstThing", "(I)I"⟩ ⟨"StepColumns$Laying", "firstThing", "(I)I"⟩ ∈ gw := List.mem_filter.mpr ⟨List.mem_of_getElem? (i := 12) (by decide +kernel), by decide +kernel⟩
theorem wd_13 : Cond.selects "StepColumns$Laying" ⟨"StepColumns$Laying", "outAmong", "(II)I"⟩ ⟨"StepColumns$Laying", "outAmong", "(II)I"⟩ ∈ gw := List.mem_filter.mpr ⟨List.mem_of_getElem? (i := 13) (by decide +kernel), by decide +kernel⟩
theorem wd_14 : Cond.selects "StepColumns$Laying" ⟨"StepColumns$Laying", "isLine", "(I)Z"⟩ ⟨"StepColumns$Laying", "isLine", "(I)Z"⟩ ∈ gw := List.mem_filter.mpr ⟨List.mem_of_getElem? (i := 14) (by decide +kernel), by decide +kernel⟩
theorem wd_15 : Cond.selects "StepColumns" ⟨"StepColumns", "reliefBy", "(I)I"⟩ ⟨"StepColumns", "reliefBy", "(I)I"⟩ ∈ gw := List.mem_filter.mpr ⟨List.mem_of_getElem? (i := 15) (by decide +kernel), by decide +kernel⟩
theorem wd_16 : Cond.selects "StepColumnsModel" ⟨"StepColumnsModel", "isItem", "(I)Z"⟩ ⟨"StepColumnsModel", "isItem", "(I)Z"⟩ ∈ gw := List.mem_filter.mpr ⟨List.mem_of_getElem? (i := 16) (by decide +kernel), by decide +kernel⟩
theorem wd_17 : Cond.selects "StepColumnsModel" ⟨"StepColumnsModel", "shift", "(II)V"⟩ ⟨"StepColumnsModel", "shift", "(II)V"⟩ ∈ gw := List.mem_filter.mpr ⟨List.mem_of_getElem? (i := 17) (by decide +kernel), by decide +kernel⟩
theorem wd_18 : Cond.selects "StepColumnsModel" ⟨"StepColumnsModel", "swap", "(II)V"⟩ ⟨"StepColumnsModel", "swap", "(II)V"⟩ ∈ gw := List.mem_filter.mpr ⟨List.mem_of_getElem? (i := 18) (by decide +kernel), by decide +kernel⟩
theorem wd_19 : Cond.selects "StepColumnsModel" ⟨"StepColumnsModel", "layBest", "()Z"⟩ ⟨"StepColumnsModel", "layBest", "()Z"⟩ ∈ gw := List.mem_filter.mpr ⟨List.mem_of_getElem? (i := 19) (by decide +kernel), by decide +kernel⟩
theorem wd_20 : Cond.selects "StepColumnsModel" ⟨"StepColumnsModel", "solve", "()I"⟩ ⟨"StepColumnsModel", "solve", "()I"⟩ ∈ gw := List.mem_filter.mpr ⟨List.mem_of_getElem? (i := 20) (by decide +kernel), by decide +kernel⟩
theorem wd_21 : Cond.selects "StepColumnsModel" ⟨"StepColumnsModel", "layThings", "()V"⟩ ⟨"StepColumnsModel", "layThings", "()V"⟩ ∈ gw := List.mem_filter.mpr ⟨List.mem_of_getElem? (i := 21) (by decide +kernel), by decide +kernel⟩
theorem wd_22 : Cond.selects "StepColumnsModel" ⟨"StepColumnsModel", "asFirst", "(II)I"⟩ ⟨"StepColumnsModel", "asFirst", "(II)I"⟩ ∈ gw := List.mem_filter.mpr ⟨List.mem_of_getElem? (i := 22) (by decide +kernel), by decide +kernel⟩
theorem wd_23 : Cond.selects "StepColumnsModel" ⟨"StepColumnsModel", "mayBegin", "(II)Z"⟩ ⟨"StepColumnsModel", "mayBegin", "(II)Z"⟩ ∈ gw := List.mem_filter.mpr ⟨List.mem_of_getElem? (i := 23) (by decide +kernel), by decide +kernel⟩
theorem wd_24 : Cond.selects "StepColumnsModel" ⟨"StepColumnsModel", "isLine", "(I)Z"⟩ ⟨"StepColumnsModel", "isLine", "(I)Z"⟩ ∈ gw := List.mem_filter.mpr ⟨List.mem_of_getElem? (i := 24) (by decide +kernel), by decide +kernel⟩
theorem wd_25 : Cond.selects "StepColumnsModel" ⟨"StepColumnsModel", "withRoom", "(IIII)I"⟩ ⟨"StepColumnsModel", "withRoom", "(IIII)I"⟩ ∈ gw := List.mem_filter.mpr ⟨List.mem_of_getElem? (i := 25) (by decide +kernel), by decide +kernel⟩
theorem wd_26 : Cond.selects "StepColumnsModel" ⟨"StepColumnsModel", "linesBy", "(II)I"⟩ ⟨"StepColumnsModel", "linesBy", "(II)I"⟩ ∈ gw := List.mem_filter.mpr ⟨List.mem_of_getElem? (i := 26) (by decide +kernel), by decide +kernel⟩
theorem wd_27 : Cond.selects "StepColumnsModel" ⟨"StepColumnsModel", "stand", "(IIIIZ)V"⟩ ⟨"StepColumnsModel", "stand", "(IIIIZ)V"⟩ ∈ gw := List.mem_filter.mpr ⟨List.mem_of_getElem? (i := 27) (by decide +kernel), by decide +kernel⟩
theorem wd_28 : Cond.selects "StepColumnsModel" ⟨"StepColumnsModel", "isOut", "(I)Z"⟩ ⟨"StepColumnsModel", "isOut", "(I)Z"⟩ ∈ gw := List.mem_filter.mpr ⟨List.mem_of_getElem? (i := 28) (by decide +kernel), by decide +kernel⟩
theorem wd_29 : Cond.selects "StepColumnsModel" ⟨"StepColumnsModel", "isLast", "(I)Z"⟩ ⟨"StepColumnsModel", "isLast", "(I)Z"⟩ ∈ gw := List.mem_filter.mpr ⟨List.mem_of_getElem? (i := 29) (by decide +kernel), by decide +kernel⟩
theorem wd_30 : Cond.selects "StepColumnsModel" ⟨"StepColumnsModel", "hasLine", "(II)Z"⟩ ⟨"StepColumnsModel", "hasLine", "(II)Z"⟩ ∈ gw := List.mem_filter.mpr ⟨List.mem_of_getElem? (i := 30) (by decide +kernel), by decide +kernel⟩
theorem wd_31 : Cond.selects "StepColumnsModel" ⟨"StepColumnsModel", "reliefBy", "(I)I"⟩ ⟨"StepColumnsModel", "reliefBy", "(I)I"⟩ ∈ gw := List.mem_filter.mpr ⟨List.mem_of_getElem? (i := 31) (by decide +kernel), by decide +kernel⟩
theorem wd_32 : Cond.selects "StepColumnsModel" ⟨"StepColumnsModel", "fits", "(II)Z"⟩ ⟨"StepColumnsModel", "fits", "(II)Z"⟩ ∈ gw := List.mem_filter.mpr ⟨List.mem_of_getElem? (i := 32) (by decide +kernel), by decide +kernel⟩
theorem wd_33 : Cond.selects "StepColumnsModel" ⟨"StepColumnsModel", "ofKind", "(I)I"⟩ ⟨"StepColumnsModel", "ofKind", "(I)I"⟩ ∈ gw := List.mem_filter.mpr ⟨List.mem_of_getElem? (i := 33) (by decide +kernel), by decide +kernel⟩
theorem wd_35 : Cond.initialized "StepColumns" ∈ gw := List.mem_filter.mpr ⟨List.mem_of_getElem? (i := 35) (by decide +kernel), by decide +kernel⟩
theorem wd_36 : Cond.initialized "StepColumns$Book" ∈ gw := List.mem_filter.mpr ⟨List.mem_of_getElem? (i := 36) (by decide +kernel), by decide +kernel⟩
theorem wd_37 : Cond.initialized "StepColumns$Scale" ∈ gw := List.mem_filter.mpr ⟨List.mem_of_getElem? (i := 37) (by decide +kernel), by decide +kernel⟩
theorem wd_38 : Cond.initialized "StepColumns$Laying" ∈ gw := List.mem_filter.mpr ⟨List.mem_of_getElem? (i := 38) (by decide +kernel), by decide +kernel⟩
theorem wd_39 : Cond.initialized "StepColumnsModel" ∈ gw := List.mem_filter.mpr ⟨List.mem_of_getElem? (i := 39) (by decide +kernel), by decide +kernel⟩
theorem wd_40 : Cond.initialized "java/util/Arrays" ∈ gw := List.mem_filter.mpr ⟨List.mem_of_getElem? (i := 40) (by decide +kernel), by decide +kernel⟩
theorem wd_41 : Cond.initialized "java/lang/Math" ∈ gw := List.mem_filter.mpr ⟨List.mem_of_getElem? (i := 41) (by decide +kernel), by decide +kernel⟩
theorem wd_56 : Cond.fieldLink "StepColumns$Book" 9 "StepColumns$Book" "kind" "[I" ∈ gw := List.mem_filter.mpr ⟨List.mem_of_getElem? (i := 56) (by decide +kernel), by decide +kernel⟩
theorem wd_57 : Cond.fieldLink "StepColumns$Scale" 79 "StepColumns$Book" "kind" "[I" ∈ gw := List.mem_filter.mpr ⟨List.mem_of_getElem? (i := 57) (by decide +kernel), by decide +kernel⟩
theorem wd_58 : Cond.fieldLink "StepColumns$Laying" 108 "StepColumns$Book" "kind" "[I" ∈ gw := List.mem_filter.mpr ⟨List.mem_of_getElem? (i := 58) (by decide +kernel), by decide +kernel⟩
theorem wd_59 : Cond.fieldLink "StepColumns" 110 "StepColumns$Book" "kind" "[I" ∈ gw := List.mem_filter.mpr ⟨List.mem_of_getElem? (i := 59) (by decide +kernel), by decide +kernel⟩
theorem wd_60 : Cond.fieldLink "StepColumns$Book" 15 "StepColumns$Book" "size" "[I" ∈ gw := List.mem_filter.mpr ⟨List.mem_of_getElem? (i := 60) (by decide +kernel), by decide +kernel⟩
theorem wd_61 : Cond.fieldLink "StepColumns$Scale" 91 "StepColumns$Book" "size" "[I" ∈ gw := List.mem_filter.mpr ⟨List.mem_of_getElem? (i := 61) (by decide +kernel), by decide +kernel⟩
theorem wd_62 : Cond.fieldLink "StepColumns$Book" 18 "StepColumns$Book" "least" "[I" ∈ gw := List.mem_filter.mpr ⟨List.mem_of_getElem? (i := 62) (by decide +kernel), by decide +kernel⟩
theorem wd_63 : Cond.fieldLink "StepColumns$Scale" 64 "StepColumns$Book" "least" "[I" ∈ gw := List.mem_filter.mpr ⟨List.mem_of_getElem? (i := 63) (by decide +kernel), by decide +kernel⟩
theorem wd_64 : Cond.fieldLink "StepColumns" 132 "StepColumns$Book" "least" "[I" ∈ gw := List.mem_filter.mpr ⟨List.mem_of_getElem? (i := 64) (by decide +kernel), by decide +kernel⟩
theorem wd_65 : Cond.fieldLink "StepColumns$Book" 21 "StepColumns$Book" "most" "[I" ∈ gw := List.mem_filter.mpr ⟨List.mem_of_getElem? (i := 65) (by decide +kernel), by decide +kernel⟩
theorem wd_66 : Cond.fieldLink "StepColumns$Scale" 94 "StepColumns$Book" "most" "[I" ∈ gw := List.mem_filter.mpr ⟨List.mem_of_getElem? (i := 66) (by decide +kernel), by decide +kernel⟩
theorem wd_67 : Cond.fieldLink "StepColumns" 129 "StepColumns$Book" "most" "[I" ∈ gw := List.mem_filter.mpr ⟨List.mem_of_getElem? (i := 67) (by decide +kernel), by decide +kernel⟩
theorem wd_68 : Cond.fieldLink "StepColumns$Book" 24 "StepColumns$Book" "items" "I" ∈ gw := List.mem_filter.mpr ⟨List.mem_of_getElem? (i := 68) (by decide +kernel), by decide +kernel⟩
theorem wd_69 : Cond.fieldLink "StepColumns$Laying" 51 "StepColumns$Book" "items" "I" ∈ gw := List.mem_filter.mpr ⟨List.mem_of_getElem? (i := 69) (by decide +kernel), by decide +kernel⟩
theorem wd_70 : Cond.fieldLink "StepColumns" 51 "StepColumns$Book" "items" "I" ∈ gw := List.mem_filter.mpr ⟨List.mem_of_getElem? (i := 70) (by decide +kernel), by decide +kernel⟩
theorem wd_71 : Cond.fieldLink "StepColumns$Scale" 41 "StepColumns$Book" "items" "I" ∈ gw := List.mem_filter.mpr ⟨List.mem_of_getElem? (i := 71) (by decide +kernel), by decide +kernel⟩
theorem wd_72 : Cond.fieldLink "StepColumns$Book" 28 "StepColumns$Book" "grid" "I" ∈ gw := List.mem_filter.mpr ⟨List.mem_of_getElem? (i := 72) (by decide +kernel), by decide +kernel⟩
theorem wd_73 : Cond.fieldLink "StepColumns" 78 "StepColumns$Book" "grid" "I" ∈ gw := List.mem_filter.mpr ⟨List.mem_of_getElem? (i := 73) (by decide +kernel), by decide +kernel⟩
theorem wd_74 : Cond.fieldLink "StepColumns$Book" 31 "StepColumns$Book" "high" "I" ∈ gw := List.mem_filter.mpr ⟨List.mem_of_getElem? (i := 74) (by decide +kernel), by decide +kernel⟩
theorem wd_75 : Cond.fieldLink "StepColumns$Scale" 33 "StepColumns$Book" "high" "I" ∈ gw := List.mem_filter.mpr ⟨List.mem_of_getElem? (i := 75) (by decide +kernel), by decide +kernel⟩
theorem wd_76 : Cond.fieldLink "StepColumns$Laying" 74 "StepColumns$Book" "high" "I" ∈ gw := List.mem_filter.mpr ⟨List.mem_of_getElem? (i := 76) (by decide +kernel), by decide +kernel⟩
theorem wd_77 : Cond.fieldLink "StepColumns" 81 "StepColumns$Book" "high" "I" ∈ gw := List.mem_filter.mpr ⟨List.mem_of_getElem? (i := 77) (by decide +kernel), by decide +kernel⟩
theorem wd_100 : Cond.fieldLink "StepColumns$Scale" 29 "StepColumns$Scale" "book" "LStepColumns$Book;" ∈ gw := List.mem_filter.mpr ⟨List.mem_of_getElem? (i := 100) (by decide +kernel), by decide +kernel⟩
theorem wd_101 : Cond.fieldLink "StepColumns$Scale" 11 "StepColumns$Scale" "behind" "[I" ∈ gw := List.mem_filter.mpr ⟨List.mem_of_getElem? (i := 101) (by decide +kernel), by decide +kernel⟩
theorem wd_102 : Cond.fieldLink "StepColumns$Scale" 15 "StepColumns$Scale" "onTop" "[I" ∈ gw := List.mem_filter.mpr ⟨List.mem_of_getElem? (i := 102) (by decide +kernel), by decide +kernel⟩
theorem wd_103 : Cond.fieldLink "StepColumns$Scale" 18 "StepColumns$Scale" "high" "I" ∈ gw := List.mem_filter.mpr ⟨List.mem_of_getElem? (i := 103) (by decide +kernel), by decide +kernel⟩
theorem wd_104 : Cond.fieldLink "StepColumns$Scale" 22 "StepColumns$Scale" "widened" "I" ∈ gw := List.mem_filter.mpr ⟨List.mem_of_getElem? (i := 104) (by decide +kernel), by decide +kernel⟩
theorem wd_105 : Cond.fieldLink "StepColumns$Scale" 25 "StepColumns$Scale" "leastRooms" "Z" ∈ gw := List.mem_filter.mpr ⟨List.mem_of_getElem? (i := 105) (by decide +kernel), by decide +kernel⟩
theorem wd_125 : Cond.fieldLink "StepColumns$Laying" 47 "StepColumns$Laying" "book" "LStepColumns$Book;" ∈ gw := List.mem_filter.mpr ⟨List.mem_of_getElem? (i := 125) (by decide +kernel), by decide +kernel⟩
theorem wd_126 : Cond.fieldLink "StepColumns$Laying" 9 "StepColumns$Laying" "itemOf" "[I" ∈ gw := List.mem_filter.mpr ⟨List.mem_of_getElem? (i := 126) (by decide +kernel), by decide +kernel⟩
theorem wd_127 : Cond.fieldLink "StepColumns$Laying" 15 "StepColumns$Laying" "columnOf" "[I" ∈ gw := List.mem_filter.mpr ⟨List.mem_of_getElem? (i := 127) (by decide +kernel), by decide +kernel⟩
theorem wd_128 : Cond.fieldLink "StepColumns$Laying" 18 "StepColumns$Laying" "topOf" "[I" ∈ gw := List.mem_filter.mpr ⟨List.mem_of_getElem? (i := 128) (by decide +kernel), by decide +kernel⟩
theorem wd_129 : Cond.fieldLink "StepColumns$Laying" 21 "StepColumns$Laying" "roomOf" "[I" ∈ gw := List.mem_filter.mpr ⟨List.mem_of_getElem? (i := 129) (by decide +kernel), by decide +kernel⟩
theorem wd_130 : Cond.fieldLink "StepColumns$Laying" 24 "StepColumns$Laying" "things" "I" ∈ gw := List.mem_filter.mpr ⟨List.mem_of_getElem? (i := 130) (by decide +kernel), by decide +kernel⟩
theorem wd_131 : Cond.fieldLink "StepColumns$Laying" 28 "StepColumns$Laying" "rooms" "I" ∈ gw := List.mem_filter.mpr ⟨List.mem_of_getElem? (i := 131) (by decide +kernel), by decide +kernel⟩
theorem wd_132 : Cond.fieldLink "StepColumns$Laying" 31 "StepColumns$Laying" "splits" "I" ∈ gw := List.mem_filter.mpr ⟨List.mem_of_getElem? (i := 132) (by decide +kernel), by decide +kernel⟩
theorem wd_133 : Cond.fieldLink "StepColumns$Laying" 34 "StepColumns$Laying" "left" "I" ∈ gw := List.mem_filter.mpr ⟨List.mem_of_getElem? (i := 133) (by decide +kernel), by decide +kernel⟩
theorem wd_135 : Cond.fieldLink "StepColumns" 139 "StepColumns$Laying" "exists" "Z" ∈ gw := List.mem_filter.mpr ⟨List.mem_of_getElem? (i := 135) (by decide +kernel), by decide +kernel⟩
theorem wd_136 : Cond.fieldLink "StepColumns$Laying" 41 "StepColumns$Laying" "columns" "I" ∈ gw := List.mem_filter.mpr ⟨List.mem_of_getElem? (i := 136) (by decide +kernel), by decide +kernel⟩
theorem wd_137 : Cond.fieldLink "StepColumns" 101 "StepColumns$Laying" "columns" "I" ∈ gw := List.mem_filter.mpr ⟨List.mem_of_getElem? (i := 137) (by decide +kernel), by decide +kernel⟩
theorem wd_138 : Cond.fieldLink "StepColumns$Laying" 44 "StepColumns$Laying" "out" "I" ∈ gw := List.mem_filter.mpr ⟨List.mem_of_getElem? (i := 138) (by decide +kernel), by decide +kernel⟩
theorem wd_139 : Cond.fieldLink "StepColumns" 117 "StepColumns$Laying" "out" "I" ∈ gw := List.mem_filter.mpr ⟨List.mem_of_getElem? (i := 139) (by decide +kernel), by decide +kernel⟩
theorem wd_166 : Cond.fieldLink "StepColumns" 12 "StepColumns" "book" "LStepColumns$Book;" ∈ gw := List.mem_filter.mpr ⟨List.mem_of_getElem? (i := 166) (by decide +kernel), by decide +kernel⟩
theorem wd_167 : Cond.fieldLink "StepColumns" 21 "StepColumns" "scale" "LStepColumns$Scale;" ∈ gw := List.mem_filter.mpr ⟨List.mem_of_getElem? (i := 167) (by decide +kernel), by decide +kernel⟩
theorem wd_168 : Cond.fieldLink "StepColumns" 28 "StepColumns" "laying" "LStepColumns$Laying;" ∈ gw := List.mem_filter.mpr ⟨List.mem_of_getElem? (i := 168) (by decide +kernel), by decide +kernel⟩
theorem wd_169 : Cond.fieldLink "StepColumns" 32 "StepColumns" "images" "[LStepColumns$Book;" ∈ gw := List.mem_filter.mpr ⟨List.mem_of_getElem? (i := 169) (by decide +kernel), by decide +kernel⟩
theorem wd_170 : Cond.fieldLink "StepColumns" 36 "StepColumns" "keptImages" "I" ∈ gw := List.mem_filter.mpr ⟨List.mem_of_getElem? (i := 170) (by decide +kernel), by decide +kernel⟩
theorem wd_171 : Cond.fieldLink "StepColumns" 40 "StepColumns" "laid" "Z" ∈ gw := List.mem_filter.mpr ⟨List.mem_of_getElem? (i := 171) (by decide +kernel), by decide +kernel⟩
theorem wd_189 : Cond.methodLink "StepColumns" 44 ⟨"StepColumns", "sizeFits", "(II)Z"⟩ ∈ gw := List.mem_filter.mpr ⟨List.mem_of_getElem? (i := 189) (by decide +kernel), by decide +kernel⟩
theorem wd_190 : Cond.static ⟨"StepColumns", "sizeFits", "(II)Z"⟩ ∈ gw := List.mem_filter.mpr ⟨List.mem_of_getElem? (i := 190) (by decide +kernel), by decide +kernel⟩
theorem wd_191 : Cond.code ⟨"StepColumns", "sizeFits", "(II)Z"⟩ prog_1_method_18_code 2 (some .boolean) ∈ gw := List.mem_filter.mpr ⟨List.mem_of_getElem? (i := 191) (by decide +kernel), by decide +kernel⟩
theorem wd_192 : Cond.methodLink "StepColumns" 48 ⟨"StepColumns", "boundsFit", "(II)Z"⟩ ∈ gw := List.mem_filter.mpr ⟨List.mem_of_getElem? (i := 192) (by decide +kernel), by decide +kernel⟩
theorem wd_193 : Cond.static ⟨"StepColumns", "boundsFit", "(II)Z"⟩ ∈ gw := List.mem_filter.mpr ⟨List.mem_of_getElem? (i := 193) (by decide +kernel), by decide +kernel⟩
theorem wd_194 : Cond.code ⟨"StepColumns", "boundsFit", "(II)Z"⟩ prog_1_method_19_code 2 (some .boolean) ∈ gw := List.mem_filter.mpr ⟨List.mem_of_getElem? (i := 194) (by decide +kernel), by decide +kernel⟩
theorem wd_195 : Cond.methodLink "StepColumns" 54 ⟨"StepColumns$Book", "append", "(IIII)I"⟩ ∈ gw := List.mem_filter.mpr ⟨List.mem_of_getElem? (i := 195) (by decide +kernel), by decide +kernel⟩
theorem wd_196 : Cond.instanceMethod ⟨"StepColumns$Book", "append", "(IIII)I"⟩ ∈ gw := List.mem_filter.mpr ⟨List.mem_of_getElem? (i := 196) (by decide +kernel), by decide +kernel⟩
theorem wd_197 : Cond.selects "StepColumns$Book" ⟨"StepColumns$Book", "append", "(IIII)I"⟩ ⟨"StepColumns$Book", "append", "(IIII)I"⟩ ∈ gw := List.mem_filter.mpr ⟨List.mem_of_getElem? (i := 197) (by decide +kernel), by decide +kernel⟩
theorem wd_198 : Cond.code ⟨"StepColumns$Book", "append", "(IIII)I"⟩ prog_2_method_3_code 6 (some .int) ∈ gw := List.mem_filter.mpr ⟨List.mem_of_getElem? (i := 198) (by decide +kernel), by decide +kernel⟩
theorem wd_203 : Cond.methodLink "StepColumns" 58 ⟨"StepColumns$Book", "has", "(I)Z"⟩ ∈ gw := List.mem_filter.mpr ⟨List.mem_of_getElem? (i := 203) (by decide +kernel), by decide +kernel⟩
theorem wd_204 : Cond.instanceMethod ⟨"StepColumns$Book", "has", "(I)Z"⟩ ∈ gw := List.mem_filter.mpr ⟨List.mem_of_getElem? (i := 204) (by decide +kernel), by decide +kernel⟩
theorem wd_205 : Cond.selects "StepColumns$Book" ⟨"StepColumns$Book", "has", "(I)Z"⟩ ⟨"StepColumns$Book", "has", "(I)Z"⟩ ∈ gw := List.mem_filter.mpr ⟨List.mem_of_getElem? (i := 205) (by decide +kernel), by decide +kernel⟩
theorem wd_206 : Cond.code ⟨"StepColumns$Book", "has", "(I)Z"⟩ prog_2_method_2_code 2 (some .boolean) ∈ gw := List.mem_filter.mpr ⟨List.mem_of_getElem? (i := 206) (by decide +kernel), by decide +kernel⟩
theorem wd_207 : Cond.methodLink "StepColumns" 62 ⟨"StepColumns", "changeFits", "(III)Z"⟩ ∈ gw := List.mem_filter.mpr ⟨List.mem_of_getElem? (i := 207) (by decide +kernel), by decide +kernel⟩
theorem wd_209 : Cond.instanceMethod ⟨"StepColumns", "changeFits", "(III)Z"⟩ ∈ gw := List.mem_filter.mpr ⟨List.mem_of_getElem? (i := 209) (by decide +kernel), by decide +kernel⟩
theorem wd_210 : Cond.code ⟨"StepColumns", "changeFits", "(III)Z"⟩ prog_1_method_20_code 4 (some .boolean) ∈ gw := List.mem_filter.mpr ⟨List.mem_of_getElem? (i := 210) (by decide +kernel), by decide +kernel⟩
theorem wd_211 : Cond.methodLink "StepColumns" 66 ⟨"StepColumns$Book", "number", "(II)I"⟩ ∈ gw := List.mem_filter.mpr ⟨List.mem_of_getElem? (i := 211) (by decide +kernel), by decide +kernel⟩
theorem wd_212 : Cond.instanceMethod ⟨"StepColumns$Book", "number", "(II)I"⟩ ∈ gw := List.mem_filter.mpr ⟨List.mem_of_getElem? (i := 212) (by decide +kernel), by decide +kernel⟩
theorem wd_213 : Cond.selects "StepColumns$Book" ⟨"StepColumns$Book", "number", "(II)I"⟩ ⟨"StepColumns$Book", "number", "(II)I"⟩ ∈ gw := List.mem_filter.mpr ⟨List.mem_of_getElem? (i := 213) (by decide +kernel), by decide +kernel⟩
theorem wd_214 : Cond.code ⟨"StepColumns$Book", "number", "(II)I"⟩ prog_2_method_4_code 3 (some .int) ∈ gw := List.mem_filter.mpr ⟨List.mem_of_getElem? (i := 214) (by decide +kernel), by decide +kernel⟩
theorem wd_215 : Cond.methodLink "StepColumns" 70 ⟨"StepColumns$Book", "write", "(III)V"⟩ ∈ gw := List.mem_filter.mpr ⟨List.mem_of_getElem? (i := 215) (by decide +kernel), by decide +kernel⟩
theorem wd_216 : Cond.instanceMethod ⟨"StepColumns$Book", "write", "(III)V"⟩ ∈ gw := List.mem_filter.mpr ⟨List.mem_of_getElem? (i := 216) (by decide +kernel), by decide +kernel⟩
theorem wd_217 : Cond.selects "StepColumns$Book" ⟨"StepColumns$Book", "write", "(III)V"⟩ ⟨"StepColumns$Book", "write", "(III)V"⟩ ∈ gw := List.mem_filter.mpr ⟨List.mem_of_getElem? (i := 217) (by decide +kernel), by decide +kernel⟩
theorem wd_218 : Cond.code ⟨"StepColumns$Book", "write", "(III)V"⟩ prog_2_method_5_code 4 none ∈ gw := List.mem_filter.mpr ⟨List.mem_of_getElem? (i := 218) (by decide +kernel), by decide +kernel⟩
theorem wd_223 : Cond.methodLink "StepColumns" 74 ⟨"StepColumns$Book", "shift", "(II)V"⟩ ∈ gw := List.mem_filter.mpr ⟨List.mem_of_getElem? (i := 223) (by decide +kernel), by decide +kernel⟩
theorem wd_224 : Cond.instanceMethod ⟨"StepColumns$Book", "shift", "(II)V"⟩ ∈ gw := List.mem_filter.mpr ⟨List.mem_of_getElem? (i := 224) (by decide +kernel), by decide +kernel⟩
theorem wd_225 : Cond.selects "StepColumns$Book" ⟨"StepColumns$Book", "shift", "(II)V"⟩ ⟨"StepColumns$Book", "shift", "(II)V"⟩ ∈ gw := List.mem_filter.mpr ⟨List.mem_of_getElem? (i := 225) (by decide +kernel), by decide +kernel⟩
theorem wd_226 : Cond.code ⟨"StepColumns$Book", "shift", "(II)V"⟩ prog_2_method_6_code 3 none ∈ gw := List.mem_filter.mpr ⟨List.mem_of_getElem? (i := 226) (by decide +kernel), by decide +kernel⟩
theorem wd_227 : Cond.methodLink "StepColumns$Book" 34 ⟨"StepColumns$Book", "shiftNumber", "([III)V"⟩ ∈ gw := List.mem_filter.mpr ⟨List.mem_of_getElem? (i := 227) (by decide +kernel), by decide +kernel⟩
theorem wd_228 : Cond.static ⟨"StepColumns$Book", "shiftNumber", "([III)V"⟩ ∈ gw := List.mem_filter.mpr ⟨List.mem_of_getElem? (i := 228) (by decide +kernel), by decide +kernel⟩
theorem wd_229 : Cond.code ⟨"StepColumns$Book", "shiftNumber", "([III)V"⟩ prog_2_method_7_code 5 none ∈ gw := List.mem_filter.mpr ⟨List.mem_of_getElem? (i := 229) (by decide +kernel), by decide +kernel⟩
theorem wd_246 : Cond.methodLink "StepColumns" 84 ⟨"StepColumns", "layBest", "()Z"⟩ ∈ gw := List.mem_filter.mpr ⟨List.mem_of_getElem? (i := 246) (by decide +kernel), by decide +kernel⟩
theorem wd_248 : Cond.instanceMethod ⟨"StepColumns", "layBest", "()Z"⟩ ∈ gw := List.mem_filter.mpr ⟨List.mem_of_getElem? (i := 248) (by decide +kernel), by decide +kernel⟩
theorem wd_249 : Cond.code ⟨"StepColumns", "layBest", "()Z"⟩ prog_1_method_21_code 1 (some .boolean) ∈ gw := List.mem_filter.mpr ⟨List.mem_of_getElem? (i := 249) (by decide +kernel), by decide +kernel⟩
theorem wd_250 : Cond.methodLink "StepColumns" 135 ⟨"StepColumns$Scale", "weigh", "(I)I"⟩ ∈ gw := List.mem_filter.mpr ⟨List.mem_of_getElem? (i := 250) (by decide +kernel), by decide +kernel⟩
theorem wd_251 : Cond.instanceMethod ⟨"StepColumns$Scale", "weigh", "(I)I"⟩ ∈ gw := List.mem_filter.mpr ⟨List.mem_of_getElem? (i := 251) (by decide +kernel), by decide +kernel⟩
theorem wd_252 : Cond.selects "StepColumns$Scale" ⟨"StepColumns$Scale", "weigh", "(I)I"⟩ ⟨"StepColumns$Scale", "weigh", "(I)I"⟩ ∈ gw := List.mem_filter.mpr ⟨List.mem_of_getElem? (i := 252) (by decide +kernel), by decide +kernel⟩
theorem wd_253 : Cond.code ⟨"StepColumns$Scale", "weigh", "(I)I"⟩ prog_4_method_2_code 2 (some .int) ∈ gw := List.mem_filter.mpr ⟨List.mem_of_getElem? (i := 253) (by decide +kernel), by decide +kernel⟩
theorem wd_254 : Cond.methodLink "StepColumns$Scale" 36 ⟨"StepColumns$Scale", "costOfAll", "()I"⟩ ∈ gw := List.mem_filter.mpr ⟨List.mem_of_getElem? (i := 254) (by decide +kernel), by decide +kernel⟩
theorem wd_256 : Cond.instanceMethod ⟨"StepColumns$Scale", "costOfAll", "()I"⟩ ∈ gw := List.mem_filter.mpr ⟨List.mem_of_getElem? (i := 256) (by decide +kernel), by decide +kernel⟩
theorem wd_257 : Cond.code ⟨"StepColumns$Scale", "costOfAll", "()I"⟩ prog_4_method_4_code 1 (some .int) ∈ gw := List.mem_filter.mpr ⟨List.mem_of_getElem? (i := 257) (by decide +kernel), by decide +kernel⟩
theorem wd_258 : Cond.methodLink "StepColumns$Scale" 44 ⟨"java/util/Arrays", "fill", "([II)V"⟩ ∈ gw := List.mem_filter.mpr ⟨List.mem_of_getElem? (i := 258) (by decide +kernel), by decide +kernel⟩
theorem wd_259 : Cond.static ⟨"java/util/Arrays", "fill", "([II)V"⟩ ∈ gw := List.mem_filter.mpr ⟨List.mem_of_getElem? (i := 259) (by decide +kernel), by decide +kernel⟩
theorem wd_260 : Cond.code ⟨"java/util/Arrays", "fill", "([II)V"⟩ prog_8_method_103_code 4 none ∈ gw := List.mem_filter.mpr ⟨List.mem_of_getElem? (i := 260) (by decide +kernel), by decide +kernel⟩
theorem wd_261 : Cond.methodLink "StepColumns$Scale" 50 ⟨"StepColumns$Scale", "weighOnTop", "(I)V"⟩ ∈ gw := List.mem_filter.mpr ⟨List.mem_of_getElem? (i := 261) (by decide +kernel), by decide +kernel⟩
theorem wd_263 : Cond.instanceMethod ⟨"StepColumns$Scale", "weighOnTop", "(I)V"⟩ ∈ gw := List.mem_filter.mpr ⟨List.mem_of_getElem? (i := 263) (by decide +kernel), by decide +kernel⟩
theorem wd_264 : Cond.code ⟨"StepColumns$Scale", "weighOnTop", "(I)V"⟩ prog_4_method_9_code 3 none ∈ gw := List.mem_filter.mpr ⟨List.mem_of_getElem? (i := 264) (by decide +kernel), by decide +kernel⟩
theorem wd_265 : Cond.methodLink "StepColumns$Scale" 71 ⟨"StepColumns$Book", "thingsOf", "(I)I"⟩ ∈ gw := List.mem_filter.mpr ⟨List.mem_of_getElem? (i := 265) (by decide +kernel), by decide +kernel⟩
theorem wd_266 : Cond.instanceMethod ⟨"StepColumns$Book", "thingsOf", "(I)I"⟩ ∈ gw := List.mem_filter.mpr ⟨List.mem_of_getElem? (i := 266) (by decide +kernel), by decide +kernel⟩
theorem wd_267 : Cond.selects "StepColumns$Book" ⟨"StepColumns$Book", "thingsOf", "(I)I"⟩ ⟨"StepColumns$Book", "thingsOf", "(I)I"⟩ ∈ gw := List.mem_filter.mpr ⟨List.mem_of_getElem? (i := 267) (by decide +kernel), by decide +kernel⟩
theorem wd_268 : Cond.code ⟨"StepColumns$Book", "thingsOf", "(I)I"⟩ prog_2_method_9_code 2 (some .int) ∈ gw := List.mem_filter.mpr ⟨List.mem_of_getElem? (i := 268) (by decide +kernel), by decide +kernel⟩
theorem wd_269 : Cond.methodLink "StepColumns$Scale" 87 ⟨"java/lang/Math", "max", "(II)I"⟩ ∈ gw := List.mem_filter.mpr ⟨List.mem_of_getElem? (i := 269) (by decide +kernel), by decide +kernel⟩
theorem wd_270 : Cond.static ⟨"java/lang/Math", "max", "(II)I"⟩ ∈ gw := List.mem_filter.mpr ⟨List.mem_of_getElem? (i := 270) (by decide +kernel), by decide +kernel⟩
theorem wd_271 : Cond.code ⟨"java/lang/Math", "max", "(II)I"⟩ prog_7_method_65_code 2 (some .int) ∈ gw := List.mem_filter.mpr ⟨List.mem_of_getElem? (i := 271) (by decide +kernel), by decide +kernel⟩
theorem wd_272 : Cond.constant "StepColumns$Scale" 90 (268435456) ∈ gw := List.mem_filter.mpr ⟨List.mem_of_getElem? (i := 272) (by decide +kernel), by decide +kernel⟩
theorem wd_273 : Cond.constant "StepColumns$Scale" 40 (1048576) ∈ gw := List.mem_filter.mpr ⟨List.mem_of_getElem? (i := 273) (by decide +kernel), by decide +kernel⟩
theorem wd_274 : Cond.methodLink "StepColumns$Scale" 67 ⟨"StepColumns$Scale", "costFrom", "(III)I"⟩ ∈ gw := List.mem_filter.mpr ⟨List.mem_of_getElem? (i := 274) (by decide +kernel), by decide +kernel⟩
theorem wd_276 : Cond.instanceMethod ⟨"StepColumns$Scale", "costFrom", "(III)I"⟩ ∈ gw := List.mem_filter.mpr ⟨List.mem_of_getElem? (i := 276) (by decide +kernel), by decide +kernel⟩
theorem wd_277 : Cond.code ⟨"StepColumns$Scale", "costFrom", "(III)I"⟩ prog_4_method_12_code 7 (some .int) ∈ gw := List.mem_filter.mpr ⟨List.mem_of_getElem? (i := 277) (by decide +kernel), by decide +kernel⟩
theorem wd_278 : Cond.methodLink "StepColumns$Scale" 75 ⟨"StepColumns$Scale", "costUpTo", "(IIII)I"⟩ ∈ gw := List.mem_filter.mpr ⟨List.mem_of_getElem? (i := 278) (by decide +kernel), by decide +kernel⟩
theorem wd_280 : Cond.instanceMethod ⟨"StepColumns$Scale", "costUpTo", "(IIII)I"⟩ ∈ gw := List.mem_filter.mpr ⟨List.mem_of_getElem? (i := 280) (by decide +kernel), by decide +kernel⟩
theorem wd_281 : Cond.code ⟨"StepColumns$Scale", "costUpTo", "(IIII)I"⟩ prog_4_method_13_code 8 (some .int) ∈ gw := List.mem_filter.mpr ⟨List.mem_of_getElem? (i := 281) (by decide +kernel), by decide +kernel⟩
theorem wd_282 : Cond.methodLink "StepColumns$Scale" 97 ⟨"StepColumns$Book", "tall", "(I)I"⟩ ∈ gw := List.mem_filter.mpr ⟨List.mem_of_getElem? (i := 282) (by decide +kernel), by decide +kernel⟩
theorem wd_283 : Cond.instanceMethod ⟨"StepColumns$Book", "tall", "(I)I"⟩ ∈ gw := List.mem_filter.mpr ⟨List.mem_of_getElem? (i := 283) (by decide +kernel), by decide +kernel⟩
theorem wd_284 : Cond.selects "StepColumns$Book" ⟨"StepColumns$Book", "tall", "(I)I"⟩ ⟨"StepColumns$Book", "tall", "(I)I"⟩ ∈ gw := List.mem_filter.mpr ⟨List.mem_of_getElem? (i := 284) (by decide +kernel), by decide +kernel⟩
theorem wd_285 : Cond.code ⟨"StepColumns$Book", "tall", "(I)I"⟩ prog_2_method_12_code 2 (some .int) ∈ gw := List.mem_filter.mpr ⟨List.mem_of_getElem? (i := 285) (by decide +kernel), by decide +kernel⟩
theorem wd_286 : Cond.methodLink "StepColumns$Scale" 100 ⟨"StepColumns$Book", "isOut", "(II)Z"⟩ ∈ gw := List.mem_filter.mpr ⟨List.mem_of_getElem? (i := 286) (by decide +kernel), by decide +kernel⟩
theorem wd_287 : Cond.instanceMethod ⟨"StepColumns$Book", "isOut", "(II)Z"⟩ ∈ gw := List.mem_filter.mpr ⟨List.mem_of_getElem? (i := 287) (by decide +kernel), by decide +kernel⟩
theorem wd_288 : Cond.selects "StepColumns$Book" ⟨"StepColumns$Book", "isOut", "(II)Z"⟩ ⟨"StepColumns$Book", "isOut", "(II)Z"⟩ ∈ gw := List.mem_filter.mpr ⟨List.mem_of_getElem? (i := 288) (by decide +kernel), by decide +kernel⟩
theorem wd_289 : Cond.code ⟨"StepColumns$Book", "isOut", "(II)Z"⟩ prog_2_method_14_code 3 (some .boolean) ∈ gw := List.mem_filter.mpr ⟨List.mem_of_getElem? (i := 289) (by decide +kernel), by decide +kernel⟩
theorem wd_290 : Cond.methodLink "StepColumns$Scale" 54 ⟨"StepColumns$Scale", "costBehind", "(II)I"⟩ ∈ gw := List.mem_filter.mpr ⟨List.mem_of_getElem? (i := 290) (by decide +kernel), by decide +kernel⟩
theorem wd_292 : Cond.instanceMethod ⟨"StepColumns$Scale", "costBehind", "(II)I"⟩ ∈ gw := List.mem_filter.mpr ⟨List.mem_of_getElem? (i := 292) (by decide +kernel), by decide +kernel⟩
theorem wd_293 : Cond.code ⟨"StepColumns$Scale", "costBehind", "(II)I"⟩ prog_4_method_8_code 5 (some .int) ∈ gw := List.mem_filter.mpr ⟨List.mem_of_getElem? (i := 293) (by decide +kernel), by decide +kernel⟩
theorem wd_294 : Cond.methodLink "StepColumns$Scale" 58 ⟨"StepColumns$Scale", "costWithin", "(II)I"⟩ ∈ gw := List.mem_filter.mpr ⟨List.mem_of_getElem? (i := 294) (by decide +kernel), by decide +kernel⟩
theorem wd_296 : Cond.instanceMethod ⟨"StepColumns$Scale", "costWithin", "(II)I"⟩ ∈ gw := List.mem_filter.mpr ⟨List.mem_of_getElem? (i := 296) (by decide +kernel), by decide +kernel⟩
theorem wd_297 : Cond.code ⟨"StepColumns$Scale", "costWithin", "(II)I"⟩ prog_4_method_10_code 7 (some .int) ∈ gw := List.mem_filter.mpr ⟨List.mem_of_getElem? (i := 297) (by decide +kernel), by decide +kernel⟩
theorem wd_298 : Cond.methodLink "StepColumns$Scale" 61 ⟨"StepColumns$Scale", "mostRoom", "(II)I"⟩ ∈ gw := List.mem_filter.mpr ⟨List.mem_of_getElem? (i := 298) (by decide +kernel), by decide +kernel⟩
theorem wd_300 : Cond.instanceMethod ⟨"StepColumns$Scale", "mostRoom", "(II)I"⟩ ∈ gw := List.mem_filter.mpr ⟨List.mem_of_getElem? (i := 300) (by decide +kernel), by decide +kernel⟩
theorem wd_301 : Cond.code ⟨"StepColumns$Scale", "mostRoom", "(II)I"⟩ prog_4_method_11_code 4 (some .int) ∈ gw := List.mem_filter.mpr ⟨List.mem_of_getElem? (i := 301) (by decide +kernel), by decide +kernel⟩
theorem wd_302 : Cond.methodLink "StepColumns$Scale" 82 ⟨"java/lang/Math", "min", "(II)I"⟩ ∈ gw := List.mem_filter.mpr ⟨List.mem_of_getElem? (i := 302) (by decide +kernel), by decide +kernel⟩
theorem wd_303 : Cond.static ⟨"java/lang/Math", "min", "(II)I"⟩ ∈ gw := List.mem_filter.mpr ⟨List.mem_of_getElem? (i := 303) (by decide +kernel), by decide +kernel⟩
theorem wd_304 : Cond.code ⟨"java/lang/Math", "min", "(II)I"⟩ prog_7_method_69_code 2 (some .int) ∈ gw := List.mem_filter.mpr ⟨List.mem_of_getElem? (i := 304) (by decide +kernel), by decide +kernel⟩
theorem wd_305 : Cond.constant "StepColumns" 138 (268435456) ∈ gw := List.mem_filter.mpr ⟨List.mem_of_getElem? (i := 305) (by decide +kernel), by decide +kernel⟩
theorem wd_306 : Cond.methodLink "StepColumns" 142 ⟨"StepColumns$Laying", "follow", "(LStepColumns$Scale;)V"⟩ ∈ gw := List.mem_filter.mpr ⟨List.mem_of_getElem? (i := 306) (by decide +kernel), by decide +kernel⟩
theorem wd_307 : Cond.instanceMethod ⟨"StepColumns$Laying", "follow", "(LStepColumns$Scale;)V"⟩ ∈ gw := List.mem_filter.mpr ⟨List.mem_of_getElem? (i := 307) (by decide +kernel), by decide +kernel⟩
theorem wd_308 : Cond.selects "StepColumns$Laying" ⟨"StepColumns$Laying", "follow", "(LStepColumns$Scale;)V"⟩ ⟨"StepColumns$Laying", "follow", "(LStepColumns$Scale;)V"⟩ ∈ gw := List.mem_filter.mpr ⟨List.mem_of_getElem? (i := 308) (by decide +kernel), by decide +kernel⟩
theorem wd_309 : Cond.code ⟨"StepColumns$Laying", "follow", "(LStepColumns$Scale;)V"⟩ prog_3_method_2_code 5 none ∈ gw := List.mem_filter.mpr ⟨List.mem_of_getElem? (i := 309) (by decide +kernel), by decide +kernel⟩
theorem wd_310 : Cond.methodLink "StepColumns$Laying" 56 ⟨"StepColumns$Scale", "opens", "(II)Z"⟩ ∈ gw := List.mem_filter.mpr ⟨List.mem_of_getElem? (i := 310) (by decide +kernel), by decide +kernel⟩
theorem wd_311 : Cond.instanceMethod ⟨"StepColumns$Scale", "opens", "(II)Z"⟩ ∈ gw := List.mem_filter.mpr ⟨List.mem_of_getElem? (i := 311) (by decide +kernel), by decide +kernel⟩
theorem wd_312 : Cond.selects "StepColumns$Scale" ⟨"StepColumns$Scale", "opens", "(II)Z"⟩ ⟨"StepColumns$Scale", "opens", "(II)Z"⟩ ∈ gw := List.mem_filter.mpr ⟨List.mem_of_getElem? (i := 312) (by decide +kernel), by decide +kernel⟩
theorem wd_313 : Cond.code ⟨"StepColumns$Scale", "opens", "(II)Z"⟩ prog_4_method_5_code 3 (some .boolean) ∈ gw := List.mem_filter.mpr ⟨List.mem_of_getElem? (i := 313) (by decide +kernel), by decide +kernel⟩
theorem wd_314 : Cond.methodLink "StepColumns$Laying" 62 ⟨"StepColumns$Laying", "openColumn", "(I)V"⟩ ∈ gw := List.mem_filter.mpr ⟨List.mem_of_getElem? (i := 314) (by decide +kernel), by decide +kernel⟩
theorem wd_316 : Cond.instanceMethod ⟨"StepColumns$Laying", "openColumn", "(I)V"⟩ ∈ gw := List.mem_filter.mpr ⟨List.mem_of_getElem? (i := 316) (by decide +kernel), by decide +kernel⟩
theorem wd_317 : Cond.code ⟨"StepColumns$Laying", "openColumn", "(I)V"⟩ prog_3_method_3_code 2 none ∈ gw := List.mem_filter.mpr ⟨List.mem_of_getElem? (i := 317) (by decide +kernel), by decide +kernel⟩
theorem wd_318 : Cond.methodLink "StepColumns$Laying" 66 ⟨"StepColumns$Laying", "putItem", "(LStepColumns$Scale;III)I"⟩ ∈ gw := List.mem_filter.mpr ⟨List.mem_of_getElem? (i := 318) (by decide +kernel), by decide +kernel⟩
theorem wd_320 : Cond.instanceMethod ⟨"StepColumns$Laying", "putItem", "(LStepColumns$Scale;III)I"⟩ ∈ gw := List.mem_filter.mpr ⟨List.mem_of_getElem? (i := 320) (by decide +kernel), by decide +kernel⟩
theorem wd_321 : Cond.code ⟨"StepColumns$Laying", "putItem", "(LStepColumns$Scale;III)I"⟩ prog_3_method_4_code 8 (some .int) ∈ gw := List.mem_filter.mpr ⟨List.mem_of_getElem? (i := 321) (by decide +kernel), by decide +kernel⟩
theorem wd_322 : Cond.methodLink "StepColumns$Laying" 77 ⟨"StepColumns$Scale", "breakBehind", "(III)I"⟩ ∈ gw := List.mem_filter.mpr ⟨List.mem_of_getElem? (i := 322) (by decide +kernel), by decide +kernel⟩
theorem wd_323 : Cond.instanceMethod ⟨"StepColumns$Scale", "breakBehind", "(III)I"⟩ ∈ gw := List.mem_filter.mpr ⟨List.mem_of_getElem? (i := 323) (by decide +kernel), by decide +kernel⟩
theorem wd_324 : Cond.selects "StepColumns$Scale" ⟨"StepColumns$Scale", "breakBehind", "(III)I"⟩ ⟨"StepColumns$Scale", "breakBehind", "(III)I"⟩ ∈ gw := List.mem_filter.mpr ⟨List.mem_of_getElem? (i := 324) (by decide +kernel), by decide +kernel⟩
theorem wd_325 : Cond.code ⟨"StepColumns$Scale", "breakBehind", "(III)I"⟩ prog_4_method_7_code 7 (some .int) ∈ gw := List.mem_filter.mpr ⟨List.mem_of_getElem? (i := 325) (by decide +kernel), by decide +kernel⟩
theorem wd_326 : Cond.methodLink "StepColumns$Laying" 81 ⟨"StepColumns$Book", "thingsOf", "(I)I"⟩ ∈ gw := List.mem_filter.mpr ⟨List.mem_of_getElem? (i := 326) (by decide +kernel), by decide +kernel⟩
theorem wd_327 : Cond.methodLink "StepColumns$Laying" 85 ⟨"StepColumns$Laying", "putThing", "(III)V"⟩ ∈ gw := List.mem_filter.mpr ⟨List.mem_of_getElem? (i := 327) (by decide +kernel), by decide +kernel⟩
theorem wd_329 : Cond.instanceMethod ⟨"StepColumns$Laying", "putThing", "(III)V"⟩ ∈ gw := List.mem_filter.mpr ⟨List.mem_of_getElem? (i := 329) (by decide +kernel), by decide +kernel⟩
theorem wd_330 : Cond.code ⟨"StepColumns$Laying", "putThing", "(III)V"⟩ prog_3_method_5_code 4 none ∈ gw := List.mem_filter.mpr ⟨List.mem_of_getElem? (i := 330) (by decide +kernel), by decide +kernel⟩
theorem wd_331 : Cond.methodLink "StepColumns$Laying" 92 ⟨"StepColumns$Book", "isOut", "(II)Z"⟩ ∈ gw := List.mem_filter.mpr ⟨List.mem_of_getElem? (i := 331) (by decide +kernel), by decide +kernel⟩
theorem wd_332 : Cond.methodLink "StepColumns$Laying" 89 ⟨"StepColumns$Book", "tall", "(I)I"⟩ ∈ gw := List.mem_filter.mpr ⟨List.mem_of_getElem? (i := 332) (by decide +kernel), by decide +kernel⟩
theorem wd_333 : Cond.methodLink "StepColumns$Laying" 70 ⟨"StepColumns$Scale", "roomBehind", "(II)I"⟩ ∈ gw := List.mem_filter.mpr ⟨List.mem_of_getElem? (i := 333) (by decide +kernel), by decide +kernel⟩
theorem wd_334 : Cond.instanceMethod ⟨"StepColumns$Scale", "roomBehind", "(II)I"⟩ ∈ gw := List.mem_filter.mpr ⟨List.mem_of_getElem? (i := 334) (by decide +kernel), by decide +kernel⟩
theorem wd_335 : Cond.selects "StepColumns$Scale" ⟨"StepColumns$Scale", "roomBehind", "(II)I"⟩ ⟨"StepColumns$Scale", "roomBehind", "(II)I"⟩ ∈ gw := List.mem_filter.mpr ⟨List.mem_of_getElem? (i := 335) (by decide +kernel), by decide +kernel⟩
theorem wd_336 : Cond.code ⟨"StepColumns$Scale", "roomBehind", "(II)I"⟩ prog_4_method_6_code 6 (some .int) ∈ gw := List.mem_filter.mpr ⟨List.mem_of_getElem? (i := 336) (by decide +kernel), by decide +kernel⟩
theorem wd_337 : Cond.methodLink "StepColumns" 88 ⟨"StepColumns$Laying", "total", "(I)I"⟩ ∈ gw := List.mem_filter.mpr ⟨List.mem_of_getElem? (i := 337) (by decide +kernel), by decide +kernel⟩
theorem wd_338 : Cond.instanceMethod ⟨"StepColumns$Laying", "total", "(I)I"⟩ ∈ gw := List.mem_filter.mpr ⟨List.mem_of_getElem? (i := 338) (by decide +kernel), by decide +kernel⟩
theorem wd_339 : Cond.selects "StepColumns$Laying" ⟨"StepColumns$Laying", "total", "(I)I"⟩ ⟨"StepColumns$Laying", "total", "(I)I"⟩ ∈ gw := List.mem_filter.mpr ⟨List.mem_of_getElem? (i := 339) (by decide +kernel), by decide +kernel⟩
theorem wd_340 : Cond.code ⟨"StepColumns$Laying", "total", "(I)I"⟩ prog_3_method_6_code 2 (some .int) ∈ gw := List.mem_filter.mpr ⟨List.mem_of_getElem? (i := 340) (by decide +kernel), by decide +kernel⟩
theorem wd_345 : Cond.methodLink "StepColumns" 92 ⟨"StepColumns$Book", "thingsOf", "(I)I"⟩ ∈ gw := List.mem_filter.mpr ⟨List.mem_of_getElem? (i := 345) (by decide +kernel), by decide +kernel⟩
theorem wd_346 : Cond.methodLink "StepColumns" 95 ⟨"StepColumns$Book", "thingsBefore", "(I)I"⟩ ∈ gw := List.mem_filter.mpr ⟨List.mem_of_getElem? (i := 346) (by decide +kernel), by decide +kernel⟩
theorem wd_347 : Cond.instanceMethod ⟨"StepColumns$Book", "thingsBefore", "(I)I"⟩ ∈ gw := List.mem_filter.mpr ⟨List.mem_of_getElem? (i := 347) (by decide +kernel), by decide +kernel⟩
theorem wd_348 : Cond.selects "StepColumns$Book" ⟨"StepColumns$Book", "thingsBefore", "(I)I"⟩ ⟨"StepColumns$Book", "thingsBefore", "(I)I"⟩ ∈ gw := List.mem_filter.mpr ⟨List.mem_of_getElem? (i := 348) (by decide +kernel), by decide +kernel⟩
theorem wd_349 : Cond.code ⟨"StepColumns$Book", "thingsBefore", "(I)I"⟩ prog_2_method_10_code 4 (some .int) ∈ gw := List.mem_filter.mpr ⟨List.mem_of_getElem? (i := 349) (by decide +kernel), by decide +kernel⟩
theorem wd_350 : Cond.methodLink "StepColumns$Book" 38 ⟨"StepColumns$Book", "thingsOf", "(I)I"⟩ ∈ gw := List.mem_filter.mpr ⟨List.mem_of_getElem? (i := 350) (by decide +kernel), by decide +kernel⟩
theorem wd_351 : Cond.methodLink "StepColumns" 98 ⟨"StepColumns$Laying", "ofThing", "(II)I"⟩ ∈ gw := List.mem_filter.mpr ⟨List.mem_of_getElem? (i := 351) (by decide +kernel), by decide +kernel⟩
theorem wd_352 : Cond.instanceMethod ⟨"StepColumns$Laying", "ofThing", "(II)I"⟩ ∈ gw := List.mem_filter.mpr ⟨List.mem_of_getElem? (i := 352) (by decide +kernel), by decide +kernel⟩
theorem wd_353 : Cond.selects "StepColumns$Laying" ⟨"StepColumns$Laying", "ofThing", "(II)I"⟩ ⟨"StepColumns$Laying", "ofThing", "(II)I"⟩ ∈ gw := List.mem_filter.mpr ⟨List.mem_of_getElem? (i := 353) (by decide +kernel), by decide +kernel⟩
theorem wd_354 : Cond.code ⟨"StepColumns$Laying", "ofThing", "(II)I"⟩ prog_3_method_7_code 3 (some .int) ∈ gw := List.mem_filter.mpr ⟨List.mem_of_getElem? (i := 354) (by decide +kernel), by decide +kernel⟩
theorem wd_355 : Cond.methodLink "StepColumns$Laying" 95 ⟨"StepColumns$Book", "beyondGrid", "(I)I"⟩ ∈ gw := List.mem_filter.mpr ⟨List.mem_of_getElem? (i := 355) (by decide +kernel), by decide +kernel⟩
theorem wd_356 : Cond.instanceMethod ⟨"StepColumns$Book", "beyondGrid", "(I)I"⟩ ∈ gw := List.mem_filter.mpr ⟨List.mem_of_getElem? (i := 356) (by decide +kernel), by decide +kernel⟩
theorem wd_357 : Cond.selects "StepColumns$Book" ⟨"StepColumns$Book", "beyondGrid", "(I)I"⟩ ⟨"StepColumns$Book", "beyondGrid", "(I)I"⟩ ∈ gw := List.mem_filter.mpr ⟨List.mem_of_getElem? (i := 357) (by decide +kernel), by decide +kernel⟩
theorem wd_358 : Cond.code ⟨"StepColumns$Book", "beyondGrid", "(I)I"⟩ prog_2_method_13_code 2 (some .int) ∈ gw := List.mem_filter.mpr ⟨List.mem_of_getElem? (i := 358) (by decide +kernel), by decide +kernel⟩
theorem wd_363 : Cond.methodLink "StepColumns" 104 ⟨"StepColumns$Laying", "ofColumn", "(II)I"⟩ ∈ gw := List.mem_filter.mpr ⟨List.mem_of_getElem? (i := 363) (by decide +kernel), by decide +kernel⟩
theorem wd_364 : Cond.instanceMethod ⟨"StepColumns$Laying", "ofColumn", "(II)I"⟩ ∈ gw := List.mem_filter.mpr ⟨List.mem_of_getElem? (i := 364) (by decide +kernel), by decide +kernel⟩
theorem wd_365 : Cond.selects "StepColumns$Laying" ⟨"StepColumns$Laying", "ofColumn", "(II)I"⟩ ⟨"StepColumns$Laying", "ofColumn", "(II)I"⟩ ∈ gw := List.mem_filter.mpr ⟨List.mem_of_getElem? (i := 365) (by decide +kernel), by decide +kernel⟩
theorem wd_366 : Cond.code ⟨"StepColumns$Laying", "ofColumn", "(II)I"⟩ prog_3_method_8_code 5 (some .int) ∈ gw := List.mem_filter.mpr ⟨List.mem_of_getElem? (i := 366) (by decide +kernel), by decide +kernel⟩
theorem wd_367 : Cond.methodLink "StepColumns$Laying" 98 ⟨"StepColumns$Laying", "firstThing", "(I)I"⟩ ∈ gw := List.mem_filter.mpr ⟨List.mem_of_getElem? (i := 367) (by decide +kernel), by decide +kernel⟩
theorem wd_369 : Cond.instanceMethod ⟨"StepColumns$Laying", "firstThing", "(I)I"⟩ ∈ gw := List.mem_filter.mpr ⟨List.mem_of_getElem? (i := 369) (by decide +kernel), by decide +kernel⟩
theorem wd_370 : Cond.code ⟨"StepColumns$Laying", "firstThing", "(I)I"⟩ prog_3_method_9_code 3 (some .int) ∈ gw := List.mem_filter.mpr ⟨List.mem_of_getElem? (i := 370) (by decide +kernel), by decide +kernel⟩
theorem wd_371 : Cond.methodLink "StepColumns$Laying" 101 ⟨"StepColumns$Laying", "outAmong", "(II)I"⟩ ∈ gw := List.mem_filter.mpr ⟨List.mem_of_getElem? (i := 371) (by decide +kernel), by decide +kernel⟩
theorem wd_373 : Cond.instanceMethod ⟨"StepColumns$Laying", "outAmong", "(II)I"⟩ ∈ gw := List.mem_filter.mpr ⟨List.mem_of_getElem? (i := 373) (by decide +kernel), by decide +kernel⟩
theorem wd_374 : Cond.code ⟨"StepColumns$Laying", "outAmong", "(II)I"⟩ prog_3_method_10_code 5 (some .int) ∈ gw := List.mem_filter.mpr ⟨List.mem_of_getElem? (i := 374) (by decide +kernel), by decide +kernel⟩
theorem wd_379 : Cond.methodLink "StepColumns" 107 ⟨"StepColumns$Laying", "meetings", "(I)I"⟩ ∈ gw := List.mem_filter.mpr ⟨List.mem_of_getElem? (i := 379) (by decide +kernel), by decide +kernel⟩
theorem wd_380 : Cond.instanceMethod ⟨"StepColumns$Laying", "meetings", "(I)I"⟩ ∈ gw := List.mem_filter.mpr ⟨List.mem_of_getElem? (i := 380) (by decide +kernel), by decide +kernel⟩
theorem wd_381 : Cond.selects "StepColumns$Laying" ⟨"StepColumns$Laying", "meetings", "(I)I"⟩ ⟨"StepColumns$Laying", "meetings", "(I)I"⟩ ∈ gw := List.mem_filter.mpr ⟨List.mem_of_getElem? (i := 381) (by decide +kernel), by decide +kernel⟩
theorem wd_382 : Cond.code ⟨"StepColumns$Laying", "meetings", "(I)I"⟩ prog_3_method_11_code 7 (some .int) ∈ gw := List.mem_filter.mpr ⟨List.mem_of_getElem? (i := 382) (by decide +kernel), by decide +kernel⟩
theorem wd_383 : Cond.methodLink "StepColumns$Laying" 104 ⟨"StepColumns$Laying", "isLine", "(I)Z"⟩ ∈ gw := List.mem_filter.mpr ⟨List.mem_of_getElem? (i := 383) (by decide +kernel), by decide +kernel⟩
theorem wd_385 : Cond.instanceMethod ⟨"StepColumns$Laying", "isLine", "(I)Z"⟩ ∈ gw := List.mem_filter.mpr ⟨List.mem_of_getElem? (i := 385) (by decide +kernel), by decide +kernel⟩
theorem wd_386 : Cond.code ⟨"StepColumns$Laying", "isLine", "(I)Z"⟩ prog_3_method_12_code 2 (some .boolean) ∈ gw := List.mem_filter.mpr ⟨List.mem_of_getElem? (i := 386) (by decide +kernel), by decide +kernel⟩
theorem wd_391 : Cond.methodLink "StepColumns" 114 ⟨"StepColumns", "reliefBy", "(I)I"⟩ ∈ gw := List.mem_filter.mpr ⟨List.mem_of_getElem? (i := 391) (by decide +kernel), by decide +kernel⟩
theorem wd_393 : Cond.instanceMethod ⟨"StepColumns", "reliefBy", "(I)I"⟩ ∈ gw := List.mem_filter.mpr ⟨List.mem_of_getElem? (i := 393) (by decide +kernel), by decide +kernel⟩
theorem wd_394 : Cond.code ⟨"StepColumns", "reliefBy", "(I)I"⟩ prog_1_method_22_code 3 (some .int) ∈ gw := List.mem_filter.mpr ⟨List.mem_of_getElem? (i := 394) (by decide +kernel), by decide +kernel⟩
theorem wd_395 : Cond.constant "StepColumns" 146 (1048576) ∈ gw := List.mem_filter.mpr ⟨List.mem_of_getElem? (i := 395) (by decide +kernel), by decide +kernel⟩
theorem wd_404 : Cond.methodLink "StepColumns" 120 ⟨"StepColumns$Scale", "fewestColumns", "(I)I"⟩ ∈ gw := List.mem_filter.mpr ⟨List.mem_of_getElem? (i := 404) (by decide +kernel), by decide +kernel⟩
theorem wd_405 : Cond.instanceMethod ⟨"StepColumns$Scale", "fewestColumns", "(I)I"⟩ ∈ gw := List.mem_filter.mpr ⟨List.mem_of_getElem? (i := 405) (by decide +kernel), by decide +kernel⟩
theorem wd_406 : Cond.selects "StepColumns$Scale" ⟨"StepColumns$Scale", "fewestColumns", "(I)I"⟩ ⟨"StepColumns$Scale", "fewestColumns", "(I)I"⟩ ∈ gw := List.mem_filter.mpr ⟨List.mem_of_getElem? (i := 406) (by decide +kernel), by decide +kernel⟩
theorem wd_407 : Cond.code ⟨"StepColumns$Scale", "fewestColumns", "(I)I"⟩ prog_4_method_3_code 2 (some .int) ∈ gw := List.mem_filter.mpr ⟨List.mem_of_getElem? (i := 407) (by decide +kernel), by decide +kernel⟩
theorem wd_412 : Cond.methodLink "StepColumns" 123 ⟨"StepColumns$Book", "copy", "(LStepColumns$Book;)V"⟩ ∈ gw := List.mem_filter.mpr ⟨List.mem_of_getElem? (i := 412) (by decide +kernel), by decide +kernel⟩
theorem wd_413 : Cond.instanceMethod ⟨"StepColumns$Book", "copy", "(LStepColumns$Book;)V"⟩ ∈ gw := List.mem_filter.mpr ⟨List.mem_of_getElem? (i := 413) (by decide +kernel), by decide +kernel⟩
theorem wd_414 : Cond.selects "StepColumns$Book" ⟨"StepColumns$Book", "copy", "(LStepColumns$Book;)V"⟩ ⟨"StepColumns$Book", "copy", "(LStepColumns$Book;)V"⟩ ∈ gw := List.mem_filter.mpr ⟨List.mem_of_getElem? (i := 414) (by decide +kernel), by decide +kernel⟩
theorem wd_415 : Cond.code ⟨"StepColumns$Book", "copy", "(LStepColumns$Book;)V"⟩ prog_2_method_8_code 3 none ∈ gw := List.mem_filter.mpr ⟨List.mem_of_getElem? (i := 415) (by decide +kernel), by decide +kernel⟩
theorem wd_424 : Cond.methodLink "StepColumns" 126 ⟨"StepColumns$Book", "itemsOf", "(I)I"⟩ ∈ gw := List.mem_filter.mpr ⟨List.mem_of_getElem? (i := 424) (by decide +kernel), by decide +kernel⟩
theorem wd_425 : Cond.instanceMethod ⟨"StepColumns$Book", "itemsOf", "(I)I"⟩ ∈ gw := List.mem_filter.mpr ⟨List.mem_of_getElem? (i := 425) (by decide +kernel), by decide +kernel⟩
theorem wd_426 : Cond.selects "StepColumns$Book" ⟨"StepColumns$Book", "itemsOf", "(I)I"⟩ ⟨"StepColumns$Book", "itemsOf", "(I)I"⟩ ∈ gw := List.mem_filter.mpr ⟨List.mem_of_getElem? (i := 426) (by decide +kernel), by decide +kernel⟩
theorem wd_427 : Cond.code ⟨"StepColumns$Book", "itemsOf", "(I)I"⟩ prog_2_method_11_code 4 (some .int) ∈ gw := List.mem_filter.mpr ⟨List.mem_of_getElem? (i := 427) (by decide +kernel), by decide +kernel⟩
theorem wd_435 : Cond.fieldLink "StepColumnsModel" 7 "StepColumnsModel" "state" "[I" ∈ gw := List.mem_filter.mpr ⟨List.mem_of_getElem? (i := 435) (by decide +kernel), by decide +kernel⟩
theorem wd_436 : Cond.fieldLink "StepColumnsModel" 13 "StepColumnsModel" "images" "[I" ∈ gw := List.mem_filter.mpr ⟨List.mem_of_getElem? (i := 436) (by decide +kernel), by decide +kernel⟩
theorem wd_437 : Cond.fieldLink "StepColumnsModel" 16 "StepColumnsModel" "isKept" "[Z" ∈ gw := List.mem_filter.mpr ⟨List.mem_of_getElem? (i := 437) (by decide +kernel), by decide +kernel⟩
theorem wd_438 : Cond.fieldLink "StepColumnsModel" 20 "StepColumnsModel" "of" "[I" ∈ gw := List.mem_filter.mpr ⟨List.mem_of_getElem? (i := 438) (by decide +kernel), by decide +kernel⟩
theorem wd_439 : Cond.fieldLink "StepColumnsModel" 23 "StepColumnsModel" "line" "[I" ∈ gw := List.mem_filter.mpr ⟨List.mem_of_getElem? (i := 439) (by decide +kernel), by decide +kernel⟩
theorem wd_440 : Cond.fieldLink "StepColumnsModel" 26 "StepColumnsModel" "tall" "[I" ∈ gw := List.mem_filter.mpr ⟨List.mem_of_getElem? (i := 440) (by decide +kernel), by decide +kernel⟩
theorem wd_441 : Cond.fieldLink "StepColumnsModel" 64 "StepColumnsModel" "things" "I" ∈ gw := List.mem_filter.mpr ⟨List.mem_of_getElem? (i := 441) (by decide +kernel), by decide +kernel⟩
theorem wd_442 : Cond.fieldLink "StepColumnsModel" 30 "StepColumnsModel" "best" "[I" ∈ gw := List.mem_filter.mpr ⟨List.mem_of_getElem? (i := 442) (by decide +kernel), by decide +kernel⟩
theorem wd_443 : Cond.fieldLink "StepColumnsModel" 33 "StepColumnsModel" "columnOf" "[I" ∈ gw := List.mem_filter.mpr ⟨List.mem_of_getElem? (i := 443) (by decide +kernel), by decide +kernel⟩
theorem wd_444 : Cond.fieldLink "StepColumnsModel" 36 "StepColumnsModel" "top" "[I" ∈ gw := List.mem_filter.mpr ⟨List.mem_of_getElem? (i := 444) (by decide +kernel), by decide +kernel⟩
theorem wd_445 : Cond.fieldLink "StepColumnsModel" 39 "StepColumnsModel" "roomOf" "[I" ∈ gw := List.mem_filter.mpr ⟨List.mem_of_getElem? (i := 445) (by decide +kernel), by decide +kernel⟩
theorem wd_446 : Cond.fieldLink "StepColumnsModel" 42 "StepColumnsModel" "begins" "[Z" ∈ gw := List.mem_filter.mpr ⟨List.mem_of_getElem? (i := 446) (by decide +kernel), by decide +kernel⟩
theorem wd_477 : Cond.methodLink "StepColumnsModel" 45 ⟨"StepColumnsModel", "in", "(III)Z"⟩ ∈ gw := List.mem_filter.mpr ⟨List.mem_of_getElem? (i := 477) (by decide +kernel), by decide +kernel⟩
theorem wd_478 : Cond.static ⟨"StepColumnsModel", "in", "(III)Z"⟩ ∈ gw := List.mem_filter.mpr ⟨List.mem_of_getElem? (i := 478) (by decide +kernel), by decide +kernel⟩
theorem wd_479 : Cond.code ⟨"StepColumnsModel", "in", "(III)Z"⟩ prog_6_method_2_code 3 (some .boolean) ∈ gw := List.mem_filter.mpr ⟨List.mem_of_getElem? (i := 479) (by decide +kernel), by decide +kernel⟩
theorem wd_480 : Cond.methodLink "StepColumnsModel" 49 ⟨"StepColumnsModel", "isSize", "(II)Z"⟩ ∈ gw := List.mem_filter.mpr ⟨List.mem_of_getElem? (i := 480) (by decide +kernel), by decide +kernel⟩
theorem wd_481 : Cond.static ⟨"StepColumnsModel", "isSize", "(II)Z"⟩ ∈ gw := List.mem_filter.mpr ⟨List.mem_of_getElem? (i := 481) (by decide +kernel), by decide +kernel⟩
theorem wd_482 : Cond.code ⟨"StepColumnsModel", "isSize", "(II)Z"⟩ prog_6_method_4_code 2 (some .boolean) ∈ gw := List.mem_filter.mpr ⟨List.mem_of_getElem? (i := 482) (by decide +kernel), by decide +kernel⟩
theorem wd_487 : Cond.methodLink "StepColumnsModel" 53 ⟨"StepColumnsModel", "isItem", "(I)Z"⟩ ∈ gw := List.mem_filter.mpr ⟨List.mem_of_getElem? (i := 487) (by decide +kernel), by decide +kernel⟩
theorem wd_489 : Cond.instanceMethod ⟨"StepColumnsModel", "isItem", "(I)Z"⟩ ∈ gw := List.mem_filter.mpr ⟨List.mem_of_getElem? (i := 489) (by decide +kernel), by decide +kernel⟩
theorem wd_490 : Cond.code ⟨"StepColumnsModel", "isItem", "(I)Z"⟩ prog_6_method_3_code 2 (some .boolean) ∈ gw := List.mem_filter.mpr ⟨List.mem_of_getElem? (i := 490) (by decide +kernel), by decide +kernel⟩
theorem wd_495 : Cond.methodLink "StepColumnsModel" 57 ⟨"StepColumnsModel", "shift", "(II)V"⟩ ∈ gw := List.mem_filter.mpr ⟨List.mem_of_getElem? (i := 495) (by decide +kernel), by decide +kernel⟩
theorem wd_497 : Cond.instanceMethod ⟨"StepColumnsModel", "shift", "(II)V"⟩ ∈ gw := List.mem_filter.mpr ⟨List.mem_of_getElem? (i := 497) (by decide +kernel), by decide +kernel⟩
theorem wd_498 : Cond.code ⟨"StepColumnsModel", "shift", "(II)V"⟩ prog_6_method_7_code 4 none ∈ gw := List.mem_filter.mpr ⟨List.mem_of_getElem? (i := 498) (by decide +kernel), by decide +kernel⟩
theorem wd_503 : Cond.methodLink "StepColumnsModel" 61 ⟨"StepColumnsModel", "swap", "(II)V"⟩ ∈ gw := List.mem_filter.mpr ⟨List.mem_of_getElem? (i := 503) (by decide +kernel), by decide +kernel⟩
theorem wd_505 : Cond.instanceMethod ⟨"StepColumnsModel", "swap", "(II)V"⟩ ∈ gw := List.mem_filter.mpr ⟨List.mem_of_getElem? (i := 505) (by decide +kernel), by decide +kernel⟩
theorem wd_506 : Cond.code ⟨"StepColumnsModel", "swap", "(II)V"⟩ prog_6_method_9_code 5 none ∈ gw := List.mem_filter.mpr ⟨List.mem_of_getElem? (i := 506) (by decide +kernel), by decide +kernel⟩
theorem wd_519 : Cond.methodLink "StepColumnsModel" 104 ⟨"StepColumnsModel", "layBest", "()Z"⟩ ∈ gw := List.mem_filter.mpr ⟨List.mem_of_getElem? (i := 519) (by decide +kernel), by decide +kernel⟩
theorem wd_521 : Cond.instanceMethod ⟨"StepColumnsModel", "layBest", "()Z"⟩ ∈ gw := List.mem_filter.mpr ⟨List.mem_of_getElem? (i := 521) (by decide +kernel), by decide +kernel⟩
theorem wd_522 : Cond.code ⟨"StepColumnsModel", "layBest", "()Z"⟩ prog_6_method_23_code 7 (some .boolean) ∈ gw := List.mem_filter.mpr ⟨List.mem_of_getElem? (i := 522) (by decide +kernel), by decide +kernel⟩
theorem wd_523 : Cond.methodLink "StepColumnsModel" 96 ⟨"StepColumnsModel", "solve", "()I"⟩ ∈ gw := List.mem_filter.mpr ⟨List.mem_of_getElem? (i := 523) (by decide +kernel), by decide +kernel⟩
theorem wd_525 : Cond.instanceMethod ⟨"StepColumnsModel", "solve", "()I"⟩ ∈ gw := List.mem_filter.mpr ⟨List.mem_of_getElem? (i := 525) (by decide +kernel), by decide +kernel⟩
theorem wd_526 : Cond.code ⟨"StepColumnsModel", "solve", "()I"⟩ prog_6_method_21_code 7 (some .int) ∈ gw := List.mem_filter.mpr ⟨List.mem_of_getElem? (i := 526) (by decide +kernel), by decide +kernel⟩
theorem wd_527 : Cond.methodLink "StepColumnsModel" 83 ⟨"StepColumnsModel", "layThings", "()V"⟩ ∈ gw := List.mem_filter.mpr ⟨List.mem_of_getElem? (i := 527) (by decide +kernel), by decide +kernel⟩
theorem wd_529 : Cond.instanceMethod ⟨"StepColumnsModel", "layThings", "()V"⟩ ∈ gw := List.mem_filter.mpr ⟨List.mem_of_getElem? (i := 529) (by decide +kernel), by decide +kernel⟩
theorem wd_530 : Cond.code ⟨"StepColumnsModel", "layThings", "()V"⟩ prog_6_method_13_code 4 none ∈ gw := List.mem_filter.mpr ⟨List.mem_of_getElem? (i := 530) (by decide +kernel), by decide +kernel⟩
theorem wd_531 : Cond.methodLink "StepColumnsModel" 75 ⟨"StepColumnsModel", "at", "(III)I"⟩ ∈ gw := List.mem_filter.mpr ⟨List.mem_of_getElem? (i := 531) (by decide +kernel), by decide +kernel⟩
theorem wd_532 : Cond.static ⟨"StepColumnsModel", "at", "(III)I"⟩ ∈ gw := List.mem_filter.mpr ⟨List.mem_of_getElem? (i := 532) (by decide +kernel), by decide +kernel⟩
theorem wd_533 : Cond.code ⟨"StepColumnsModel", "at", "(III)I"⟩ prog_6_method_17_code 3 (some .int) ∈ gw := List.mem_filter.mpr ⟨List.mem_of_getElem? (i := 533) (by decide +kernel), by decide +kernel⟩
theorem wd_534 : Cond.methodLink "StepColumnsModel" 86 ⟨"StepColumnsModel", "asFirst", "(II)I"⟩ ∈ gw := List.mem_filter.mpr ⟨List.mem_of_getElem? (i := 534) (by decide +kernel), by decide +kernel⟩
theorem wd_536 : Cond.instanceMethod ⟨"StepColumnsModel", "asFirst", "(II)I"⟩ ∈ gw := List.mem_filter.mpr ⟨List.mem_of_getElem? (i := 536) (by decide +kernel), by decide +kernel⟩
theorem wd_537 : Cond.code ⟨"StepColumnsModel", "asFirst", "(II)I"⟩ prog_6_method_19_code 4 (some .int) ∈ gw := List.mem_filter.mpr ⟨List.mem_of_getElem? (i := 537) (by decide +kernel), by decide +kernel⟩
theorem wd_538 : Cond.methodLink "StepColumnsModel" 79 ⟨"StepColumnsModel", "mayBegin", "(II)Z"⟩ ∈ gw := List.mem_filter.mpr ⟨List.mem_of_getElem? (i := 538) (by decide +kernel), by decide +kernel⟩
theorem wd_540 : Cond.instanceMethod ⟨"StepColumnsModel", "mayBegin", "(II)Z"⟩ ∈ gw := List.mem_filter.mpr ⟨List.mem_of_getElem? (i := 540) (by decide +kernel), by decide +kernel⟩
theorem wd_541 : Cond.code ⟨"StepColumnsModel", "mayBegin", "(II)Z"⟩ prog_6_method_15_code 3 (some .boolean) ∈ gw := List.mem_filter.mpr ⟨List.mem_of_getElem? (i := 541) (by decide +kernel), by decide +kernel⟩
theorem wd_542 : Cond.methodLink "StepColumnsModel" 68 ⟨"StepColumnsModel", "isLine", "(I)Z"⟩ ∈ gw := List.mem_filter.mpr ⟨List.mem_of_getElem? (i := 542) (by decide +kernel), by decide +kernel⟩
theorem wd_544 : Cond.instanceMethod ⟨"StepColumnsModel", "isLine", "(I)Z"⟩ ∈ gw := List.mem_filter.mpr ⟨List.mem_of_getElem? (i := 544) (by decide +kernel), by decide +kernel⟩
theorem wd_545 : Cond.code ⟨"StepColumnsModel", "isLine", "(I)Z"⟩ prog_6_method_14_code 2 (some .boolean) ∈ gw := List.mem_filter.mpr ⟨List.mem_of_getElem? (i := 545) (by decide +kernel), by decide +kernel⟩
theorem wd_546 : Cond.constant "StepColumnsModel" 82 (1000000) ∈ gw := List.mem_filter.mpr ⟨List.mem_of_getElem? (i := 546) (by decide +kernel), by decide +kernel⟩
theorem wd_547 : Cond.methodLink "StepColumnsModel" 89 ⟨"StepColumnsModel", "withRoom", "(IIII)I"⟩ ∈ gw := List.mem_filter.mpr ⟨List.mem_of_getElem? (i := 547) (by decide +kernel), by decide +kernel⟩
theorem wd_549 : Cond.instanceMethod ⟨"StepColumnsModel", "withRoom", "(IIII)I"⟩ ∈ gw := List.mem_filter.mpr ⟨List.mem_of_getElem? (i := 549) (by decide +kernel), by decide +kernel⟩
theorem wd_550 : Cond.code ⟨"StepColumnsModel", "withRoom", "(IIII)I"⟩ prog_6_method_18_code 7 (some .int) ∈ gw := List.mem_filter.mpr ⟨List.mem_of_getElem? (i := 550) (by decide +kernel), by decide +kernel⟩
theorem wd_551 : Cond.methodLink "StepColumnsModel" 71 ⟨"StepColumnsModel", "linesBy", "(II)I"⟩ ∈ gw := List.mem_filter.mpr ⟨List.mem_of_getElem? (i := 551) (by decide +kernel), by decide +kernel⟩
theorem wd_553 : Cond.instanceMethod ⟨"StepColumnsModel", "linesBy", "(II)I"⟩ ∈ gw := List.mem_filter.mpr ⟨List.mem_of_getElem? (i := 553) (by decide +kernel), by decide +kernel⟩
theorem wd_554 : Cond.code ⟨"StepColumnsModel", "linesBy", "(II)I"⟩ prog_6_method_16_code 3 (some .int) ∈ gw := List.mem_filter.mpr ⟨List.mem_of_getElem? (i := 554) (by decide +kernel), by decide +kernel⟩
theorem wd_555 : Cond.methodLink "StepColumnsModel" 93 ⟨"StepColumnsModel", "better", "(II)I"⟩ ∈ gw := List.mem_filter.mpr ⟨List.mem_of_getElem? (i := 555) (by decide +kernel), by decide +kernel⟩
theorem wd_556 : Cond.static ⟨"StepColumnsModel", "better", "(II)I"⟩ ∈ gw := List.mem_filter.mpr ⟨List.mem_of_getElem? (i := 556) (by decide +kernel), by decide +kernel⟩
theorem wd_557 : Cond.code ⟨"StepColumnsModel", "better", "(II)I"⟩ prog_6_method_20_code 2 (some .int) ∈ gw := List.mem_filter.mpr ⟨List.mem_of_getElem? (i := 557) (by decide +kernel), by decide +kernel⟩
theorem wd_558 : Cond.methodLink "StepColumnsModel" 100 ⟨"StepColumnsModel", "stand", "(IIIIZ)V"⟩ ∈ gw := List.mem_filter.mpr ⟨List.mem_of_getElem? (i := 558) (by decide +kernel), by decide +kernel⟩
theorem wd_560 : Cond.instanceMethod ⟨"StepColumnsModel", "stand", "(IIIIZ)V"⟩ ∈ gw := List.mem_filter.mpr ⟨List.mem_of_getElem? (i := 560) (by decide +kernel), by decide +kernel⟩
theorem wd_561 : Cond.code ⟨"StepColumnsModel", "stand", "(IIIIZ)V"⟩ prog_6_method_22_code 6 none ∈ gw := List.mem_filter.mpr ⟨List.mem_of_getElem? (i := 561) (by decide +kernel), by decide +kernel⟩
theorem wd_562 : Cond.methodLink "StepColumnsModel" 108 ⟨"StepColumnsModel", "isOut", "(I)Z"⟩ ∈ gw := List.mem_filter.mpr ⟨List.mem_of_getElem? (i := 562) (by decide +kernel), by decide +kernel⟩
theorem wd_564 : Cond.instanceMethod ⟨"StepColumnsModel", "isOut", "(I)Z"⟩ ∈ gw := List.mem_filter.mpr ⟨List.mem_of_getElem? (i := 564) (by decide +kernel), by decide +kernel⟩
theorem wd_565 : Cond.code ⟨"StepColumnsModel", "isOut", "(I)Z"⟩ prog_6_method_24_code 2 (some .boolean) ∈ gw := List.mem_filter.mpr ⟨List.mem_of_getElem? (i := 565) (by decide +kernel), by decide +kernel⟩
theorem wd_566 : Cond.methodLink "StepColumnsModel" 111 ⟨"StepColumnsModel", "isLast", "(I)Z"⟩ ∈ gw := List.mem_filter.mpr ⟨List.mem_of_getElem? (i := 566) (by decide +kernel), by decide +kernel⟩
theorem wd_568 : Cond.instanceMethod ⟨"StepColumnsModel", "isLast", "(I)Z"⟩ ∈ gw := List.mem_filter.mpr ⟨List.mem_of_getElem? (i := 568) (by decide +kernel), by decide +kernel⟩
theorem wd_569 : Cond.code ⟨"StepColumnsModel", "isLast", "(I)Z"⟩ prog_6_method_25_code 2 (some .boolean) ∈ gw := List.mem_filter.mpr ⟨List.mem_of_getElem? (i := 569) (by decide +kernel), by decide +kernel⟩
theorem wd_582 : Cond.methodLink "StepColumnsModel" 114 ⟨"StepColumnsModel", "hasLine", "(II)Z"⟩ ∈ gw := List.mem_filter.mpr ⟨List.mem_of_getElem? (i := 582) (by decide +kernel), by decide +kernel⟩
theorem wd_584 : Cond.instanceMethod ⟨"StepColumnsModel", "hasLine", "(II)Z"⟩ ∈ gw := List.mem_filter.mpr ⟨List.mem_of_getElem? (i := 584) (by decide +kernel), by decide +kernel⟩
theorem wd_585 : Cond.code ⟨"StepColumnsModel", "hasLine", "(II)Z"⟩ prog_6_method_29_code 5 (some .boolean) ∈ gw := List.mem_filter.mpr ⟨List.mem_of_getElem? (i := 585) (by decide +kernel), by decide +kernel⟩
theorem wd_590 : Cond.methodLink "StepColumnsModel" 121 ⟨"StepColumnsModel", "reliefBy", "(I)I"⟩ ∈ gw := List.mem_filter.mpr ⟨List.mem_of_getElem? (i := 590) (by decide +kernel), by decide +kernel⟩
theorem wd_592 : Cond.instanceMethod ⟨"StepColumnsModel", "reliefBy", "(I)I"⟩ ∈ gw := List.mem_filter.mpr ⟨List.mem_of_getElem? (i := 592) (by decide +kernel), by decide +kernel⟩
theorem wd_593 : Cond.code ⟨"StepColumnsModel", "reliefBy", "(I)I"⟩ prog_6_method_32_code 5 (some .int) ∈ gw := List.mem_filter.mpr ⟨List.mem_of_getElem? (i := 593) (by decide +kernel), by decide +kernel⟩
theorem wd_594 : Cond.methodLink "StepColumnsModel" 117 ⟨"StepColumnsModel", "outOf", "(I)I"⟩ ∈ gw := List.mem_filter.mpr ⟨List.mem_of_getElem? (i := 594) (by decide +kernel), by decide +kernel⟩
theorem wd_595 : Cond.static ⟨"StepColumnsModel", "outOf", "(I)I"⟩ ∈ gw := List.mem_filter.mpr ⟨List.mem_of_getElem? (i := 595) (by decide +kernel), by decide +kernel⟩
theorem wd_596 : Cond.code ⟨"StepColumnsModel", "outOf", "(I)I"⟩ prog_6_method_31_code 1 (some .int) ∈ gw := List.mem_filter.mpr ⟨List.mem_of_getElem? (i := 596) (by decide +kernel), by decide +kernel⟩
theorem wd_605 : Cond.methodLink "StepColumnsModel" 124 ⟨"StepColumnsModel", "fits", "(II)Z"⟩ ∈ gw := List.mem_filter.mpr ⟨List.mem_of_getElem? (i := 605) (by decide +kernel), by decide +kernel⟩
theorem wd_607 : Cond.instanceMethod ⟨"StepColumnsModel", "fits", "(II)Z"⟩ ∈ gw := List.mem_filter.mpr ⟨List.mem_of_getElem? (i := 607) (by decide +kernel), by decide +kernel⟩
theorem wd_608 : Cond.code ⟨"StepColumnsModel", "fits", "(II)Z"⟩ prog_6_method_35_code 5 (some .boolean) ∈ gw := List.mem_filter.mpr ⟨List.mem_of_getElem? (i := 608) (by decide +kernel), by decide +kernel⟩
theorem wd_621 : Cond.methodLink "StepColumnsModel" 127 ⟨"StepColumnsModel", "ofKind", "(I)I"⟩ ∈ gw := List.mem_filter.mpr ⟨List.mem_of_getElem? (i := 621) (by decide +kernel), by decide +kernel⟩
theorem wd_623 : Cond.instanceMethod ⟨"StepColumnsModel", "ofKind", "(I)I"⟩ ∈ gw := List.mem_filter.mpr ⟨List.mem_of_getElem? (i := 623) (by decide +kernel), by decide +kernel⟩
theorem wd_624 : Cond.code ⟨"StepColumnsModel", "ofKind", "(I)I"⟩ prog_6_method_39_code 4 (some .int) ∈ gw := List.mem_filter.mpr ⟨List.mem_of_getElem? (i := 624) (by decide +kernel), by decide +kernel⟩
theorem kb_10 : (Int8.ofInt 10).toInt32 = (10 : Int32) := by decide +kernel
theorem kb_12 : (Int8.ofInt 12).toInt32 = (12 : Int32) := by decide +kernel
theorem kb_20 : (Int8.ofInt 20).toInt32 = (20 : Int32) := by decide +kernel
theorem kb_24 : (Int8.ofInt 24).toInt32 = (24 : Int32) := by decide +kernel
theorem kb_30 : (Int8.ofInt 30).toInt32 = (30 : Int32) := by decide +kernel
theorem kb_31 : (Int8.ofInt 31).toInt32 = (31 : Int32) := by decide +kernel
theorem kb_36 : (Int8.ofInt 36).toInt32 = (36 : Int32) := by decide +kernel
theorem kb_48 : (Int8.ofInt 48).toInt32 = (48 : Int32) := by decide +kernel
theorem kb_49 : (Int8.ofInt 49).toInt32 = (49 : Int32) := by decide +kernel
theorem kb_50 : (Int8.ofInt 50).toInt32 = (50 : Int32) := by decide +kernel
theorem kb_51 : (Int8.ofInt 51).toInt32 = (51 : Int32) := by decide +kernel
theorem kb_72 : (Int8.ofInt 72).toInt32 = (72 : Int32) := by decide +kernel
theorem kb_80 : (Int8.ofInt 80).toInt32 = (80 : Int32) := by decide +kernel
theorem kb_m2 : (Int8.ofInt (-2)).toInt32 = ((-2) : Int32) := by decide +kernel
theorem kb_m3 : (Int8.ofInt (-3)).toInt32 = ((-3) : Int32) := by decide +kernel
theorem kb_m4 : (Int8.ofInt (-4)).toInt32 = ((-4) : Int32) := by decide +kernel
theorem kb_m6 : (Int8.ofInt (-6)).toInt32 = ((-6) : Int32) := by decide +kernel
theorem kc_0 : (0 : Int32).toNatClampNeg = 0 := by decide +kernel
theorem kc_1 : (1 : Int32).toNatClampNeg = 1 := by decide +kernel
theorem kc_48 : (48 : Int32).toNatClampNeg = 48 := by decide +kernel
theorem kc_49 : (49 : Int32).toNatClampNeg = 49 := by decide +kernel
theorem kc_50 : (50 : Int32).toNatClampNeg = 50 := by decide +kernel
theorem ki_0 : Int32.ofInt 0 = (0 : Int32) := by decide +kernel
theorem ki_1 : Int32.ofInt 1 = (1 : Int32) := by decide +kernel
theorem ki_12 : Int32.ofInt 12 = (12 : Int32) := by decide +kernel
theorem ki_2 : Int32.ofInt 2 = (2 : Int32) := by decide +kernel
theorem ki_3 : Int32.ofInt 3 = (3 : Int32) := by decide +kernel
theorem ki_4 : Int32.ofInt 4 = (4 : Int32) := by decide +kernel
theorem ki_m1 : Int32.ofInt (-1) = ((-1) : Int32) := by decide +kernel
theorem kn_0_144 : ¬ ((0 : Int32) < 0 ∨ 144 ≤ (0 : Int32).toNatClampNeg) := by decide +kernel
theorem kn_0_2 : ¬ ((0 : Int32) < 0 ∨ 2 ≤ (0 : Int32).toNatClampNeg) := by decide +kernel
theorem kn_1_2 : ¬ ((1 : Int32) < 0 ∨ 2 ≤ (1 : Int32).toNatClampNeg) := by decide +kernel
theorem kn_48_51 : ¬ ((48 : Int32) < 0 ∨ 51 ≤ (48 : Int32).toNatClampNeg) := by decide +kernel
theorem kn_49_51 : ¬ ((49 : Int32) < 0 ∨ 51 ≤ (49 : Int32).toNatClampNeg) := by decide +kernel
theorem kn_50_51 : ¬ ((50 : Int32) < 0 ∨ 51 ≤ (50 : Int32).toNatClampNeg) := by decide +kernel
theorem ks_1000 : (Int16.ofInt 1000).toInt32 = (1000 : Int32) := by decide +kernel
theorem ks_1024 : (Int16.ofInt 1024).toInt32 = (1024 : Int32) := by decide +kernel
theorem ks_128 : (Int16.ofInt 128).toInt32 = (128 : Int32) := by decide +kernel
theorem ks_144 : (Int16.ofInt 144).toInt32 = (144 : Int32) := by decide +kernel
theorem ks_150 : (Int16.ofInt 150).toInt32 = (150 : Int32) := by decide +kernel
theorem ks_200 : (Int16.ofInt 200).toInt32 = (200 : Int32) := by decide +kernel
theorem ks_201 : (Int16.ofInt 201).toInt32 = (201 : Int32) := by decide +kernel
theorem ks_603 : (Int16.ofInt 603).toInt32 = (603 : Int32) := by decide +kernel
theorem kv_0_ : ∀ k, k < 0 → k ∈ ([] : List Nat) ∨ k ∈ ([] : List Nat) := by decide +kernel
theorem kv_10_0_1_2_3_4_5_6_7_8_9 : ∀ k, k < 10 → k ∈ ([0, 1, 2, 3, 4, 5, 6, 7, 8, 9] : List Nat) ∨ k ∈ ([] : List Nat) := by decide +kernel
theorem kv_10_5_6_7_8_9 : ∀ k, k < 10 → k ∈ ([5, 6, 7, 8, 9] : List Nat) ∨ k ∈ ([0, 1, 2, 3, 4] : List Nat) := by decide +kernel
theorem kv_12_ : ∀ k, k < 12 → k ∈ ([] : List Nat) ∨ k ∈ ([0, 1, 2, 3, 4, 5, 6, 7, 8, 9, 10, 11] : List Nat) := by decide +kernel
theorem kv_12_0_1_2_3_4_5_6_7_8_9_10_11 : ∀ k, k < 12 → k ∈ ([0, 1, 2, 3, 4, 5, 6, 7, 8, 9, 10, 11] : List Nat) ∨ k ∈ ([] : List Nat) := by decide +kernel
theorem kv_13_0_1_2_3_4_5_6_7_8_9_10_11_12 : ∀ k, k < 13 → k ∈ ([0, 1, 2, 3, 4, 5, 6, 7, 8, 9, 10, 11, 12] : List Nat) ∨ k ∈ ([] : List Nat) := by decide +kernel
theorem kv_13_0_1_2_3_4_8_9_10_11_12 : ∀ k, k < 13 → k ∈ ([0, 1, 2, 3, 4, 8, 9, 10, 11, 12] : List Nat) ∨ k ∈ ([5, 6, 7] : List Nat) := by decide +kernel
theorem kv_13_5_6_7_8_9_10_11_12 : ∀ k, k < 13 → k ∈ ([5, 6, 7, 8, 9, 10, 11, 12] : List Nat) ∨ k ∈ ([0, 1, 2, 3, 4] : List Nat) := by decide +kernel
theorem kv_13_8_9_10_11_12 : ∀ k, k < 13 → k ∈ ([8, 9, 10, 11, 12] : List Nat) ∨ k ∈ ([0, 1, 2, 3, 4, 5, 6, 7] : List Nat) := by decide +kernel
theorem kv_14_ : ∀ k, k < 14 → k ∈ ([] : List Nat) ∨ k ∈ ([0, 1, 2, 3, 4, 5, 6, 7, 8, 9, 10, 11, 12, 13] : List Nat) := by decide +kernel
theorem kv_14_0_1_2_3_4_5_6_7_8_9_10_11_12_13 : ∀ k, k < 14 → k ∈ ([0, 1, 2, 3, 4, 5, 6, 7, 8, 9, 10, 11, 12, 13] : List Nat) ∨ k ∈ ([] : List Nat) := by decide +kernel
theorem kv_14_1_2_3_4_5 : ∀ k, k < 14 → k ∈ ([1, 2, 3, 4, 5] : List Nat) ∨ k ∈ ([0, 6, 7, 8, 9, 10, 11, 12, 13] : List Nat) := by decide +kernel
theorem kv_14_6_7_8_1_2_3_4_5 : ∀ k, k < 14 → k ∈ ([6, 7, 8, 1, 2, 3, 4, 5] : List Nat) ∨ k ∈ ([0, 9, 10, 11, 12, 13] : List Nat) := by decide +kernel
theorem kv_14_9_10_11_12_13_1_2_3_4_5 : ∀ k, k < 14 → k ∈ ([9, 10, 11, 12, 13, 1, 2, 3, 4, 5] : List Nat) ∨ k ∈ ([0, 6, 7, 8] : List Nat) := by decide +kernel
theorem kv_14_9_10_11_12_13_6_7_8_1_2_3_4_5 : ∀ k, k < 14 → k ∈ ([9, 10, 11, 12, 13, 6, 7, 8, 1, 2, 3, 4, 5] : List Nat) ∨ k ∈ ([0] : List Nat) := by decide +kernel
theorem kv_17_12_13_14_15_16_2_3_4_5_6 : ∀ k, k < 17 → k ∈ ([12, 13, 14, 15, 16, 2, 3, 4, 5, 6] : List Nat) ∨ k ∈ ([0, 1, 7, 8, 9, 10, 11] : List Nat) := by decide +kernel
theorem kv_17_2_3_4_5_6_12_13_14_15_16 : ∀ k, k < 17 → k ∈ ([2, 3, 4, 5, 6, 12, 13, 14, 15, 16] : List Nat) ∨ k ∈ ([0, 1, 7, 8, 9, 10, 11] : List Nat) := by decide +kernel
theorem kv_17_2_3_4_5_6_7_8_9_10_11 : ∀ k, k < 17 → k ∈ ([2, 3, 4, 5, 6, 7, 8, 9, 10, 11] : List Nat) ∨ k ∈ ([0, 1, 12, 13, 14, 15, 16] : List Nat) := by decide +kernel
theorem kv_17_7_8_9_10_11_2_3_4_5_6 : ∀ k, k < 17 → k ∈ ([7, 8, 9, 10, 11, 2, 3, 4, 5, 6] : List Nat) ∨ k ∈ ([0, 1, 12, 13, 14, 15, 16] : List Nat) := by decide +kernel
theorem kv_5_0_1_2_3_4 : ∀ k, k < 5 → k ∈ ([0, 1, 2, 3, 4] : List Nat) ∨ k ∈ ([] : List Nat) := by decide +kernel
theorem kv_5_1 : ∀ k, k < 5 → k ∈ ([1] : List Nat) ∨ k ∈ ([0, 2, 3, 4] : List Nat) := by decide +kernel
theorem kv_5_2 : ∀ k, k < 5 → k ∈ ([2] : List Nat) ∨ k ∈ ([0, 1, 3, 4] : List Nat) := by decide +kernel
theorem kv_5_3 : ∀ k, k < 5 → k ∈ ([3] : List Nat) ∨ k ∈ ([0, 1, 2, 4] : List Nat) := by decide +kernel
theorem kv_5_4 : ∀ k, k < 5 → k ∈ ([4] : List Nat) ∨ k ∈ ([0, 1, 2, 3] : List Nat) := by decide +kernel
theorem kv_8_0_1_2_3_4_5_6_7 : ∀ k, k < 8 → k ∈ ([0, 1, 2, 3, 4, 5, 6, 7] : List Nat) ∨ k ∈ ([] : List Nat) := by decide +kernel
theorem kv_8_1 : ∀ k, k < 8 → k ∈ ([1] : List Nat) ∨ k ∈ ([0, 2, 3, 4, 5, 6, 7] : List Nat) := by decide +kernel
theorem kv_8_2 : ∀ k, k < 8 → k ∈ ([2] : List Nat) ∨ k ∈ ([0, 1, 3, 4, 5, 6, 7] : List Nat) := by decide +kernel
theorem kv_8_3_4_5_6_7 : ∀ k, k < 8 → k ∈ ([3, 4, 5, 6, 7] : List Nat) ∨ k ∈ ([0, 1, 2] : List Nat) := by decide +kernel
theorem kz_1000 : ¬ (1000 : Int32) = 0 := by decide +kernel
theorem kz_1000000 : ¬ (1000000 : Int32) = 0 := by decide +kernel
theorem kz_1024 : ¬ (1024 : Int32) = 0 := by decide +kernel
theorem kz_1048576 : ¬ (1048576 : Int32) = 0 := by decide +kernel
theorem kz_2 : ¬ (2 : Int32) = 0 := by decide +kernel
