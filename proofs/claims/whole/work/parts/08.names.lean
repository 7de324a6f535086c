/-! names, code, links: printed by wip/whole/gen/gen.py out of the task's tables -/
def y_S_depth : MethodName := ⟨"WideWordStack", "depth", "()I"⟩
abbrev c_S_depth : ByteArray := prog_1_method_6_code
def r_S_depth : Room := { frames := 0, cells := 0, slots := 0, locals := 0 }
def y_S_width : MethodName := ⟨"WideWordStack", "width", "(I)I"⟩
abbrev c_S_width : ByteArray := prog_1_method_8_code
def r_S_width : Room := { frames := 3, cells := 0, slots := 0, locals := 64 }
def y_S_hasWord : MethodName := ⟨"WideWordStack", "hasWord", "(I)Z"⟩
abbrev c_S_hasWord : ByteArray := prog_1_method_20_code
def r_S_hasWord : Room := { frames := 0, cells := 0, slots := 0, locals := 0 }
def y_S_word : MethodName := ⟨"WideWordStack", "word", "(I)[J"⟩
abbrev c_S_word : ByteArray := prog_1_method_21_code
def r_S_word : Room := { frames := 0, cells := 0, slots := 0, locals := 0 }
def y_R_bitLength : MethodName := ⟨"WideWordStack$Row", "bitLength", "([J)I"⟩
abbrev c_R_bitLength : ByteArray := prog_5_method_9_code
def r_R_bitLength : Room := { frames := 2, cells := 0, slots := 0, locals := 43 }
def y_JL_numberOfLeadingZeros : MethodName := ⟨"java/lang/Long", "numberOfLeadingZeros", "(J)I"⟩
abbrev c_JL_numberOfLeadingZeros : ByteArray := prog_17_method_48_code
def r_JL_numberOfLeadingZeros : Room := { frames := 1, cells := 0, slots := 0, locals := 21 }
def y_JI_numberOfLeadingZeros : MethodName := ⟨"java/lang/Integer", "numberOfLeadingZeros", "(I)I"⟩
abbrev c_JI_numberOfLeadingZeros : ByteArray := prog_16_method_47_code
def r_JI_numberOfLeadingZeros : Room := { frames := 0, cells := 0, slots := 0, locals := 0 }
def y_S_fits : MethodName := ⟨"WideWordStack", "fits", "(IZ)Z"⟩
abbrev c_S_fits : ByteArray := prog_1_method_12_code
def r_S_fits : Room := { frames := 6, cells := 0, slots := 0, locals := 136 }
def y_E_isOperation : MethodName := ⟨"WideWordStack$Exact", "isOperation", "(I)Z"⟩
abbrev c_E_isOperation : ByteArray := prog_3_method_2_code
def r_E_isOperation : Room := { frames := 0, cells := 0, slots := 0, locals := 0 }
def y_E_work : MethodName := ⟨"WideWordStack$Exact", "work", "(IZ[J[J)Z"⟩
abbrev c_E_work : ByteArray := prog_3_method_3_code
def r_E_work : Room := { frames := 5, cells := 0, slots := 0, locals := 112 }
def y_W_setWord : MethodName := ⟨"WideWordStack$Whole", "setWord", "([JZ)V"⟩
abbrev c_W_setWord : ByteArray := prog_7_method_2_code
def r_W_setWord : Room := { frames := 2, cells := 0, slots := 0, locals := 81 }
def y_JA_fill : MethodName := ⟨"java/util/Arrays", "fill", "([JJ)V"⟩
abbrev c_JA_fill : ByteArray := prog_23_method_101_code
def r_JA_fill : Room := { frames := 0, cells := 0, slots := 0, locals := 0 }
def y_R_assign : MethodName := ⟨"WideWordStack$Row", "assign", "([J[J)V"⟩
abbrev c_R_assign : ByteArray := prog_5_method_2_code
def r_R_assign : Room := { frames := 1, cells := 0, slots := 0, locals := 60 }
def y_R_isNegative : MethodName := ⟨"WideWordStack$Row", "isNegative", "([J)Z"⟩
abbrev c_R_isNegative : ByteArray := prog_5_method_8_code
def r_R_isNegative : Room := { frames := 0, cells := 0, slots := 0, locals := 0 }
def y_R_negateWord : MethodName := ⟨"WideWordStack$Row", "negateWord", "([J)V"⟩
abbrev c_R_negateWord : ByteArray := prog_5_method_18_code
def r_R_negateWord : Room := { frames := 0, cells := 0, slots := 0, locals := 0 }
def y_W_setSum : MethodName := ⟨"WideWordStack$Whole", "setSum", "(LWideWordStack$Whole;LWideWordStack$Whole;)V"⟩
abbrev c_W_setSum : ByteArray := prog_7_method_4_code
def r_W_setSum : Room := { frames := 3, cells := 0, slots := 0, locals := 65 }
def y_W_setSumOfSigned : MethodName := ⟨"WideWordStack$Whole", "setSumOfSigned", "(LWideWordStack$Whole;LWideWordStack$Whole;Z)V"⟩
abbrev c_W_setSumOfSigned : ByteArray := prog_7_method_6_code
def r_W_setSumOfSigned : Room := { frames := 2, cells := 0, slots := 0, locals := 42 }
def y_R_add : MethodName := ⟨"WideWordStack$Row", "add", "([J[J[J)V"⟩
abbrev c_R_add : ByteArray := prog_5_method_16_code
def r_R_add : Room := { frames := 0, cells := 0, slots := 0, locals := 0 }
def y_W_setSign : MethodName := ⟨"WideWordStack$Whole", "setSign", "(Z)V"⟩
abbrev c_W_setSign : ByteArray := prog_7_method_10_code
def r_W_setSign : Room := { frames := 1, cells := 0, slots := 0, locals := 21 }
def y_R_isZero : MethodName := ⟨"WideWordStack$Row", "isZero", "([J)Z"⟩
abbrev c_R_isZero : ByteArray := prog_5_method_7_code
def r_R_isZero : Room := { frames := 0, cells := 0, slots := 0, locals := 0 }
def y_R_compareRows : MethodName := ⟨"WideWordStack$Row", "compareRows", "([J[J)I"⟩
abbrev c_R_compareRows : ByteArray := prog_5_method_14_code
def r_R_compareRows : Room := { frames := 0, cells := 0, slots := 0, locals := 0 }
def y_R_subtract : MethodName := ⟨"WideWordStack$Row", "subtract", "([J[J[J)V"⟩
abbrev c_R_subtract : ByteArray := prog_5_method_17_code
def r_R_subtract : Room := { frames := 0, cells := 0, slots := 0, locals := 0 }
def y_W_setProduct : MethodName := ⟨"WideWordStack$Whole", "setProduct", "(LWideWordStack$Whole;LWideWordStack$Whole;)V"⟩
abbrev c_W_setProduct : ByteArray := prog_7_method_7_code
def r_W_setProduct : Room := { frames := 2, cells := 0, slots := 0, locals := 52 }
def y_R_multiply : MethodName := ⟨"WideWordStack$Row", "multiply", "([J[J[J)V"⟩
abbrev c_R_multiply : ByteArray := prog_5_method_19_code
def r_R_multiply : Room := { frames := 1, cells := 0, slots := 0, locals := 24 }
def y_W_setDifference : MethodName := ⟨"WideWordStack$Whole", "setDifference", "(LWideWordStack$Whole;LWideWordStack$Whole;)V"⟩
abbrev c_W_setDifference : ByteArray := prog_7_method_5_code
def r_W_setDifference : Room := { frames := 3, cells := 0, slots := 0, locals := 65 }
def y_W_setQuotient : MethodName := ⟨"WideWordStack$Whole", "setQuotient", "(LWideWordStack$Whole;LWideWordStack$Whole;[J)Z"⟩
abbrev c_W_setQuotient : ByteArray := prog_7_method_8_code
def r_W_setQuotient : Room := { frames := 4, cells := 0, slots := 0, locals := 88 }
def y_R_divide : MethodName := ⟨"WideWordStack$Row", "divide", "([J[J[J[J)Z"⟩
abbrev c_R_divide : ByteArray := prog_5_method_20_code
def r_R_divide : Room := { frames := 3, cells := 0, slots := 0, locals := 64 }
def y_R_bitAt : MethodName := ⟨"WideWordStack$Row", "bitAt", "([JI)J"⟩
abbrev c_R_bitAt : ByteArray := prog_5_method_10_code
def r_R_bitAt : Room := { frames := 0, cells := 0, slots := 0, locals := 0 }
def y_R_multiplyAdd : MethodName := ⟨"WideWordStack$Row", "multiplyAdd", "([JJJ)J"⟩
abbrev c_R_multiplyAdd : ByteArray := prog_5_method_21_code
def r_R_multiplyAdd : Room := { frames := 0, cells := 0, slots := 0, locals := 0 }
def y_W_setRemainder : MethodName := ⟨"WideWordStack$Whole", "setRemainder", "(LWideWordStack$Whole;LWideWordStack$Whole;[J)Z"⟩
abbrev c_W_setRemainder : ByteArray := prog_7_method_9_code
def r_W_setRemainder : Room := { frames := 4, cells := 0, slots := 0, locals := 88 }
def y_E_isInRange : MethodName := ⟨"WideWordStack$Exact", "isInRange", "(Z)Z"⟩
abbrev c_E_isInRange : ByteArray := prog_3_method_5_code
def r_E_isInRange : Room := { frames := 2, cells := 0, slots := 0, locals := 44 }
def y_W_isInRange : MethodName := ⟨"WideWordStack$Whole", "isInRange", "(Z)Z"⟩
abbrev c_W_isInRange : ByteArray := prog_7_method_11_code
def r_W_isInRange : Room := { frames := 1, cells := 0, slots := 0, locals := 22 }
def y_S_key : MethodName := ⟨"WideWordStack", "key", "(C)Z"⟩
abbrev c_S_key : ByteArray := prog_1_method_13_code
def r_S_key : Room := { frames := 1, cells := 0, slots := 0, locals := 21 }
def y_T_append : MethodName := ⟨"WideWordStack$Text", "append", "(C)Z"⟩
abbrev c_T_append : ByteArray := prog_6_method_4_code
def r_T_append : Room := { frames := 0, cells := 0, slots := 0, locals := 0 }
def y_S_clear : MethodName := ⟨"WideWordStack", "clear", "()I"⟩
abbrev c_S_clear : ByteArray := prog_1_method_14_code
def r_S_clear : Room := { frames := 1, cells := 0, slots := 0, locals := 20 }
def y_T_size : MethodName := ⟨"WideWordStack$Text", "size", "()I"⟩
abbrev c_T_size : ByteArray := prog_6_method_2_code
def r_T_size : Room := { frames := 0, cells := 0, slots := 0, locals := 0 }
def y_T_makeEmpty : MethodName := ⟨"WideWordStack$Text", "makeEmpty", "()V"⟩
abbrev c_T_makeEmpty : ByteArray := prog_6_method_3_code
def r_T_makeEmpty : Room := { frames := 0, cells := 0, slots := 0, locals := 0 }
def y_S_letter : MethodName := ⟨"WideWordStack", "letter", "(I)I"⟩
abbrev c_S_letter : ByteArray := prog_1_method_15_code
def r_S_letter : Room := { frames := 1, cells := 0, slots := 0, locals := 21 }
def y_T_codeAt : MethodName := ⟨"WideWordStack$Text", "codeAt", "(I)I"⟩
abbrev c_T_codeAt : ByteArray := prog_6_method_5_code
def r_T_codeAt : Room := { frames := 0, cells := 0, slots := 0, locals := 0 }
def y_S_push : MethodName := ⟨"WideWordStack", "push", "(JJJJ)I"⟩
abbrev c_S_push : ByteArray := prog_1_method_2_code
def r_S_push : Room := { frames := 6, cells := 0, slots := 0, locals := 124 }
def y_S_refuseWhenFull : MethodName := ⟨"WideWordStack", "refuseWhenFull", "()V"⟩
abbrev c_S_refuseWhenFull : ByteArray := prog_1_method_23_code
def r_S_refuseWhenFull : Room := { frames := 5, cells := 0, slots := 0, locals := 104 }
def y_R_setLimb : MethodName := ⟨"WideWordStack$Row", "setLimb", "([JIJ)V"⟩
abbrev c_R_setLimb : ByteArray := prog_5_method_4_code
def r_R_setLimb : Room := { frames := 0, cells := 0, slots := 0, locals := 0 }
def y_S_copy : MethodName := ⟨"WideWordStack", "copy", "(I)I"⟩
abbrev c_S_copy : ByteArray := prog_1_method_3_code
def r_S_copy : Room := { frames := 6, cells := 0, slots := 0, locals := 125 }
def y_S_refuseNoWord : MethodName := ⟨"WideWordStack", "refuseNoWord", "(I)V"⟩
abbrev c_S_refuseNoWord : ByteArray := prog_1_method_22_code
def r_S_refuseNoWord : Room := { frames := 5, cells := 0, slots := 0, locals := 104 }
def y_S_putOnTop : MethodName := ⟨"WideWordStack", "putOnTop", "([J)I"⟩
abbrev c_S_putOnTop : ByteArray := prog_1_method_26_code
def r_S_putOnTop : Room := { frames := 2, cells := 0, slots := 0, locals := 81 }
def y_S_swap : MethodName := ⟨"WideWordStack", "swap", "(I)I"⟩
abbrev c_S_swap : ByteArray := prog_1_method_4_code
def r_S_swap : Room := { frames := 6, cells := 0, slots := 0, locals := 125 }
def y_R_exchange : MethodName := ⟨"WideWordStack$Row", "exchange", "([J[J)V"⟩
abbrev c_R_exchange : ByteArray := prog_5_method_6_code
def r_R_exchange : Room := { frames := 0, cells := 0, slots := 0, locals := 0 }
def y_S_drop : MethodName := ⟨"WideWordStack", "drop", "()I"⟩
abbrev c_S_drop : ByteArray := prog_1_method_5_code
def r_S_drop : Room := { frames := 6, cells := 0, slots := 0, locals := 125 }
def y_S_refuseFewerThan : MethodName := ⟨"WideWordStack", "refuseFewerThan", "(I)V"⟩
abbrev c_S_refuseFewerThan : ByteArray := prog_1_method_24_code
def r_S_refuseFewerThan : Room := { frames := 5, cells := 0, slots := 0, locals := 104 }
def y_S_limb : MethodName := ⟨"WideWordStack", "limb", "(II)J"⟩
abbrev c_S_limb : ByteArray := prog_1_method_7_code
def r_S_limb : Room := { frames := 6, cells := 0, slots := 0, locals := 125 }
def y_R_limbOf : MethodName := ⟨"WideWordStack$Row", "limbOf", "([JI)J"⟩
abbrev c_R_limbOf : ByteArray := prog_5_method_5_code
def r_R_limbOf : Room := { frames := 0, cells := 0, slots := 0, locals := 0 }
def y_S_wrapping : MethodName := ⟨"WideWordStack", "wrapping", "(I)I"⟩
abbrev c_S_wrapping : ByteArray := prog_1_method_9_code
def r_S_wrapping : Room := { frames := 7, cells := 0, slots := 0, locals := 161 }
def y_P_isOperation : MethodName := ⟨"WideWordStack$Wrapping", "isOperation", "(I)Z"⟩
abbrev c_P_isOperation : ByteArray := prog_8_method_2_code
def r_P_isOperation : Room := { frames := 0, cells := 0, slots := 0, locals := 0 }
def y_P_wordsTaken : MethodName := ⟨"WideWordStack$Wrapping", "wordsTaken", "(I)I"⟩
abbrev c_P_wordsTaken : ByteArray := prog_8_method_3_code
def r_P_wordsTaken : Room := { frames := 0, cells := 0, slots := 0, locals := 0 }
def y_P_workOnOne : MethodName := ⟨"WideWordStack$Wrapping", "workOnOne", "(I[J[J)V"⟩
abbrev c_P_workOnOne : ByteArray := prog_8_method_4_code
def r_P_workOnOne : Room := { frames := 3, cells := 0, slots := 0, locals := 67 }
def y_P_putTruth : MethodName := ⟨"WideWordStack$Wrapping", "putTruth", "(Z[J)V"⟩
abbrev c_P_putTruth : ByteArray := prog_8_method_11_code
def r_P_putTruth : Room := { frames := 2, cells := 0, slots := 0, locals := 46 }
def y_R_setSmall : MethodName := ⟨"WideWordStack$Row", "setSmall", "([JJ)V"⟩
abbrev c_R_setSmall : ByteArray := prog_5_method_3_code
def r_R_setSmall : Room := { frames := 1, cells := 0, slots := 0, locals := 24 }
def y_P_workOnTwo : MethodName := ⟨"WideWordStack$Wrapping", "workOnTwo", "(I[J[J[J)V"⟩
abbrev c_P_workOnTwo : ByteArray := prog_8_method_6_code
def r_P_workOnTwo : Room := { frames := 6, cells := 0, slots := 0, locals := 136 }
def y_P_exactOf : MethodName := ⟨"WideWordStack$Wrapping", "exactOf", "(I)I"⟩
abbrev c_P_exactOf : ByteArray := prog_8_method_7_code
def r_P_exactOf : Room := { frames := 0, cells := 0, slots := 0, locals := 0 }
def y_E_putWrapped : MethodName := ⟨"WideWordStack$Exact", "putWrapped", "([J)V"⟩
abbrev c_E_putWrapped : ByteArray := prog_3_method_6_code
def r_E_putWrapped : Room := { frames := 3, cells := 0, slots := 0, locals := 102 }
def y_W_putWrapped : MethodName := ⟨"WideWordStack$Whole", "putWrapped", "([J)V"⟩
abbrev c_W_putWrapped : ByteArray := prog_7_method_12_code
def r_W_putWrapped : Room := { frames := 2, cells := 0, slots := 0, locals := 81 }
def y_P_holds : MethodName := ⟨"WideWordStack$Wrapping", "holds", "(I[J[J)Z"⟩
abbrev c_P_holds : ByteArray := prog_8_method_10_code
def r_P_holds : Room := { frames := 2, cells := 0, slots := 0, locals := 43 }
def y_R_compareSigned : MethodName := ⟨"WideWordStack$Row", "compareSigned", "([J[J)I"⟩
abbrev c_R_compareSigned : ByteArray := prog_5_method_15_code
def r_R_compareSigned : Room := { frames := 1, cells := 0, slots := 0, locals := 22 }
def y_P_combine : MethodName := ⟨"WideWordStack$Wrapping", "combine", "(I[J[J[J)V"⟩
abbrev c_P_combine : ByteArray := prog_8_method_12_code
def r_P_combine : Room := { frames := 0, cells := 0, slots := 0, locals := 0 }
def y_P_shift : MethodName := ⟨"WideWordStack$Wrapping", "shift", "(I[J[J[J)V"⟩
abbrev c_P_shift : ByteArray := prog_8_method_14_code
def r_P_shift : Room := { frames := 2, cells := 0, slots := 0, locals := 54 }
def y_R_atMost : MethodName := ⟨"WideWordStack$Row", "atMost", "([JI)I"⟩
abbrev c_R_atMost : ByteArray := prog_5_method_11_code
def r_R_atMost : Room := { frames := 0, cells := 0, slots := 0, locals := 0 }
def y_R_shiftDown : MethodName := ⟨"WideWordStack$Row", "shiftDown", "([JIJ[J)V"⟩
abbrev c_R_shiftDown : ByteArray := prog_5_method_23_code
def r_R_shiftDown : Room := { frames := 1, cells := 0, slots := 0, locals := 23 }
def y_JM_floorDiv : MethodName := ⟨"java/lang/Math", "floorDiv", "(II)I"⟩
abbrev c_JM_floorDiv : ByteArray := prog_18_method_47_code
def r_JM_floorDiv : Room := { frames := 0, cells := 0, slots := 0, locals := 0 }
def y_R_digitOr : MethodName := ⟨"WideWordStack$Row", "digitOr", "([JIJ)J"⟩
abbrev c_R_digitOr : ByteArray := prog_5_method_24_code
def r_R_digitOr : Room := { frames := 0, cells := 0, slots := 0, locals := 0 }
def y_JM_floorMod : MethodName := ⟨"java/lang/Math", "floorMod", "(II)I"⟩
abbrev c_JM_floorMod : ByteArray := prog_18_method_50_code
def r_JM_floorMod : Room := { frames := 0, cells := 0, slots := 0, locals := 0 }
def y_P_raise : MethodName := ⟨"WideWordStack$Wrapping", "raise", "([J[J[J)V"⟩
abbrev c_P_raise : ByteArray := prog_8_method_8_code
def r_P_raise : Room := { frames := 3, cells := 0, slots := 0, locals := 81 }
def y_P_extendSign : MethodName := ⟨"WideWordStack$Wrapping", "extendSign", "([J[J[J)V"⟩
abbrev c_P_extendSign : ByteArray := prog_8_method_9_code
def r_P_extendSign : Room := { frames := 2, cells := 0, slots := 0, locals := 81 }
def y_R_byteAt : MethodName := ⟨"WideWordStack$Row", "byteAt", "([JI)I"⟩
abbrev c_R_byteAt : ByteArray := prog_5_method_12_code
def r_R_byteAt : Room := { frames := 0, cells := 0, slots := 0, locals := 0 }
def y_R_setByte : MethodName := ⟨"WideWordStack$Row", "setByte", "([JIJ)V"⟩
abbrev c_R_setByte : ByteArray := prog_5_method_13_code
def r_R_setByte : Room := { frames := 0, cells := 0, slots := 0, locals := 0 }
def y_P_pickByte : MethodName := ⟨"WideWordStack$Wrapping", "pickByte", "([J[J[J)V"⟩
abbrev c_P_pickByte : ByteArray := prog_8_method_13_code
def r_P_pickByte : Room := { frames := 2, cells := 0, slots := 0, locals := 46 }
def y_P_workOnThree : MethodName := ⟨"WideWordStack$Wrapping", "workOnThree", "(I[J[J[J[J)V"⟩
abbrev c_P_workOnThree : ByteArray := prog_8_method_5_code
def r_P_workOnThree : Room := { frames := 6, cells := 0, slots := 0, locals := 136 }
def y_E_reduce : MethodName := ⟨"WideWordStack$Exact", "reduce", "([J)V"⟩
abbrev c_E_reduce : ByteArray := prog_3_method_4_code
def r_E_reduce : Room := { frames := 5, cells := 0, slots := 0, locals := 112 }
def y_W_setWhole : MethodName := ⟨"WideWordStack$Whole", "setWhole", "(LWideWordStack$Whole;)V"⟩
abbrev c_W_setWhole : ByteArray := prog_7_method_3_code
def r_W_setWhole : Room := { frames := 1, cells := 0, slots := 0, locals := 60 }
def y_S_replaceByResult : MethodName := ⟨"WideWordStack", "replaceByResult", "(I)I"⟩
abbrev c_S_replaceByResult : ByteArray := prog_1_method_27_code
def r_S_replaceByResult : Room := { frames := 3, cells := 0, slots := 0, locals := 102 }
def y_S_checked : MethodName := ⟨"WideWordStack", "checked", "(IZ)I"⟩
abbrev c_S_checked : ByteArray := prog_1_method_10_code
def r_S_checked : Room := { frames := 6, cells := 0, slots := 0, locals := 136 }
def y_S_refuseUnlessExact : MethodName := ⟨"WideWordStack", "refuseUnlessExact", "(I)V"⟩
abbrev c_S_refuseUnlessExact : ByteArray := prog_1_method_25_code
def r_S_refuseUnlessExact : Room := { frames := 5, cells := 0, slots := 0, locals := 104 }
def y_S_nearest : MethodName := ⟨"WideWordStack", "nearest", "(IZ)I"⟩
abbrev c_S_nearest : ByteArray := prog_1_method_11_code
def r_S_nearest : Room := { frames := 6, cells := 0, slots := 0, locals := 136 }
def y_E_putNearest : MethodName := ⟨"WideWordStack$Exact", "putNearest", "(Z[J)V"⟩
abbrev c_E_putNearest : ByteArray := prog_3_method_7_code
def r_E_putNearest : Room := { frames := 3, cells := 0, slots := 0, locals := 102 }
def y_W_putBound : MethodName := ⟨"WideWordStack$Whole", "putBound", "(Z[J)V"⟩
abbrev c_W_putBound : ByteArray := prog_7_method_13_code
def r_W_putBound : Room := { frames := 1, cells := 0, slots := 0, locals := 24 }
def y_S_print : MethodName := ⟨"WideWordStack", "print", "(IZ)I"⟩
abbrev c_S_print : ByteArray := prog_1_method_16_code
def r_S_print : Room := { frames := 6, cells := 0, slots := 0, locals := 125 }
def y_N_writeHex : MethodName := ⟨"WideWordStack$Numeral", "writeHex", "([JLWideWordStack$Text;)V"⟩
abbrev c_N_writeHex : ByteArray := prog_4_method_3_code
def r_N_writeHex : Room := { frames := 3, cells := 0, slots := 0, locals := 64 }
def y_JM_max : MethodName := ⟨"java/lang/Math", "max", "(II)I"⟩
abbrev c_JM_max : ByteArray := prog_18_method_65_code
def r_JM_max : Room := { frames := 0, cells := 0, slots := 0, locals := 0 }
def y_N_hexDigit : MethodName := ⟨"WideWordStack$Numeral", "hexDigit", "(I)C"⟩
abbrev c_N_hexDigit : ByteArray := prog_4_method_4_code
def r_N_hexDigit : Room := { frames := 0, cells := 0, slots := 0, locals := 0 }
def y_N_writeDecimal : MethodName := ⟨"WideWordStack$Numeral", "writeDecimal", "([JLWideWordStack$Text;)V"⟩
abbrev c_N_writeDecimal : ByteArray := prog_4_method_2_code
def r_N_writeDecimal : Room := { frames := 1, cells := 0, slots := 0, locals := 25 }
def y_R_divideByTen : MethodName := ⟨"WideWordStack$Row", "divideByTen", "([J)I"⟩
abbrev c_R_divideByTen : ByteArray := prog_5_method_22_code
def r_R_divideByTen : Room := { frames := 0, cells := 0, slots := 0, locals := 0 }
def y_T_turnRound : MethodName := ⟨"WideWordStack$Text", "turnRound", "()V"⟩
abbrev c_T_turnRound : ByteArray := prog_6_method_6_code
def r_T_turnRound : Room := { frames := 0, cells := 0, slots := 0, locals := 0 }
def y_S_parse : MethodName := ⟨"WideWordStack", "parse", "(Z)I"⟩
abbrev c_S_parse : ByteArray := prog_1_method_17_code
def r_S_parse : Room := { frames := 7, cells := 0, slots := 0, locals := 144 }
def y_N_readHex : MethodName := ⟨"WideWordStack$Numeral", "readHex", "(LWideWordStack$Text;[J)Z"⟩
abbrev c_N_readHex : ByteArray := prog_4_method_6_code
def r_N_readHex : Room := { frames := 2, cells := 0, slots := 0, locals := 55 }
def y_N_readDigits : MethodName := ⟨"WideWordStack$Numeral", "readDigits", "(LWideWordStack$Text;II[J)Z"⟩
abbrev c_N_readDigits : ByteArray := prog_4_method_7_code
def r_N_readDigits : Room := { frames := 1, cells := 0, slots := 0, locals := 29 }
def y_N_valueOf : MethodName := ⟨"WideWordStack$Numeral", "valueOf", "(II)I"⟩
abbrev c_N_valueOf : ByteArray := prog_4_method_8_code
def r_N_valueOf : Room := { frames := 0, cells := 0, slots := 0, locals := 0 }
def y_N_readDecimal : MethodName := ⟨"WideWordStack$Numeral", "readDecimal", "(LWideWordStack$Text;[J)Z"⟩
abbrev c_N_readDecimal : ByteArray := prog_4_method_5_code
def r_N_readDecimal : Room := { frames := 2, cells := 0, slots := 0, locals := 55 }
def y_S_moveFromText : MethodName := ⟨"WideWordStack", "moveFromText", "()I"⟩
abbrev c_S_moveFromText : ByteArray := prog_1_method_28_code
def r_S_moveFromText : Room := { frames := 6, cells := 0, slots := 0, locals := 124 }
def y_S_encode : MethodName := ⟨"WideWordStack", "encode", "(I)I"⟩
abbrev c_S_encode : ByteArray := prog_1_method_18_code
def r_S_encode : Room := { frames := 6, cells := 0, slots := 0, locals := 125 }
def y_C_write : MethodName := ⟨"WideWordStack$Code", "write", "([JLWideWordStack$Text;)V"⟩
abbrev c_C_write : ByteArray := prog_2_method_2_code
def r_C_write : Room := { frames := 3, cells := 0, slots := 0, locals := 64 }
def y_S_decode : MethodName := ⟨"WideWordStack", "decode", "()I"⟩
abbrev c_S_decode : ByteArray := prog_1_method_19_code
def r_S_decode : Room := { frames := 7, cells := 0, slots := 0, locals := 144 }
def y_C_read : MethodName := ⟨"WideWordStack$Code", "read", "(LWideWordStack$Text;[J)Z"⟩
abbrev c_C_read : ByteArray := prog_2_method_3_code
def r_C_read : Room := { frames := 2, cells := 0, slots := 0, locals := 46 }
def y_C_isShortest : MethodName := ⟨"WideWordStack$Code", "isShortest", "(LWideWordStack$Text;I)Z"⟩
abbrev c_C_isShortest : ByteArray := prog_2_method_4_code
def r_C_isShortest : Room := { frames := 1, cells := 0, slots := 0, locals := 21 }
def y_M_thrown : MethodName := ⟨"WideWordStackModel", "thrown", "()I"⟩
abbrev c_M_thrown : ByteArray := prog_10_method_2_code
def r_M_thrown : Room := { frames := 0, cells := 0, slots := 0, locals := 0 }
def y_M_push : MethodName := ⟨"WideWordStackModel", "push", "(JJJJ)I"⟩
abbrev c_M_push : ByteArray := prog_10_method_22_code
def r_M_push : Room := { frames := 2, cells := 0, slots := 0, locals := 45 }
def y_M_fails : MethodName := ⟨"WideWordStackModel", "fails", "(I)I"⟩
abbrev c_M_fails : ByteArray := prog_10_method_3_code
def r_M_fails : Room := { frames := 0, cells := 0, slots := 0, locals := 0 }
def y_M_clearRow : MethodName := ⟨"WideWordStackModel", "clearRow", "(I)V"⟩
abbrev c_M_clearRow : ByteArray := prog_10_method_4_code
def r_M_clearRow : Room := { frames := 0, cells := 0, slots := 0, locals := 0 }
def y_M_top : MethodName := ⟨"WideWordStackModel", "top", "(II)V"⟩
abbrev c_M_top : ByteArray := prog_10_method_9_code
def r_M_top : Room := { frames := 1, cells := 0, slots := 0, locals := 21 }
def y_M_place : MethodName := ⟨"WideWordStackModel", "place", "(I)I"⟩
abbrev c_M_place : ByteArray := prog_10_method_7_code
def r_M_place : Room := { frames := 0, cells := 0, slots := 0, locals := 0 }
def y_M_copy : MethodName := ⟨"WideWordStackModel", "copy", "(I)I"⟩
abbrev c_M_copy : ByteArray := prog_10_method_24_code
def r_M_copy : Room := { frames := 2, cells := 0, slots := 0, locals := 46 }
def y_M_word : MethodName := ⟨"WideWordStackModel", "word", "(I)Z"⟩
abbrev c_M_word : ByteArray := prog_10_method_23_code
def r_M_word : Room := { frames := 0, cells := 0, slots := 0, locals := 0 }
def y_M_load : MethodName := ⟨"WideWordStackModel", "load", "(II)V"⟩
abbrev c_M_load : ByteArray := prog_10_method_8_code
def r_M_load : Room := { frames := 1, cells := 0, slots := 0, locals := 22 }
def y_M_swap : MethodName := ⟨"WideWordStackModel", "swap", "(I)I"⟩
abbrev c_M_swap : ByteArray := prog_10_method_25_code
def r_M_swap : Room := { frames := 1, cells := 0, slots := 0, locals := 21 }
def y_M_drop : MethodName := ⟨"WideWordStackModel", "drop", "()I"⟩
abbrev c_M_drop : ByteArray := prog_10_method_26_code
def r_M_drop : Room := { frames := 1, cells := 0, slots := 0, locals := 21 }
def y_M_depth : MethodName := ⟨"WideWordStackModel", "depth", "()I"⟩
abbrev c_M_depth : ByteArray := prog_10_method_27_code
def r_M_depth : Room := { frames := 0, cells := 0, slots := 0, locals := 0 }
def y_M_limb : MethodName := ⟨"WideWordStackModel", "limb", "(II)J"⟩
abbrev c_M_limb : ByteArray := prog_10_method_28_code
def r_M_limb : Room := { frames := 1, cells := 0, slots := 0, locals := 21 }
def y_M_width : MethodName := ⟨"WideWordStackModel", "width", "(I)I"⟩
abbrev c_M_width : ByteArray := prog_10_method_29_code
def r_M_width : Room := { frames := 2, cells := 0, slots := 0, locals := 46 }
def y_M_bit : MethodName := ⟨"WideWordStackModel", "bit", "(II)I"⟩
abbrev c_M_bit : ByteArray := prog_10_method_17_code
def r_M_bit : Room := { frames := 0, cells := 0, slots := 0, locals := 0 }
def y_M_wrapping : MethodName := ⟨"WideWordStackModel", "wrapping", "(I)I"⟩
abbrev c_M_wrapping : ByteArray := prog_10_method_31_code
def r_M_wrapping : Room := { frames := 5, cells := 0, slots := 0, locals := 113 }
def y_M_taken : MethodName := ⟨"WideWordStackModel", "taken", "(I)I"⟩
abbrev c_M_taken : ByteArray := prog_10_method_30_code
def r_M_taken : Room := { frames := 0, cells := 0, slots := 0, locals := 0 }
def y_M_reckon : MethodName := ⟨"WideWordStackModel", "reckon", "(I)V"⟩
abbrev c_M_reckon : ByteArray := prog_10_method_32_code
def r_M_reckon : Room := { frames := 4, cells := 0, slots := 0, locals := 92 }
def y_M_add : MethodName := ⟨"WideWordStackModel", "add", "(III)V"⟩
abbrev c_M_add : ByteArray := prog_10_method_12_code
def r_M_add : Room := { frames := 0, cells := 0, slots := 0, locals := 0 }
def y_M_multiply : MethodName := ⟨"WideWordStackModel", "multiply", "(III)V"⟩
abbrev c_M_multiply : ByteArray := prog_10_method_14_code
def r_M_multiply : Room := { frames := 1, cells := 0, slots := 0, locals := 23 }
def y_M_copyRow : MethodName := ⟨"WideWordStackModel", "copyRow", "(II)V"⟩
abbrev c_M_copyRow : ByteArray := prog_10_method_6_code
def r_M_copyRow : Room := { frames := 0, cells := 0, slots := 0, locals := 0 }
def y_M_subtract : MethodName := ⟨"WideWordStackModel", "subtract", "(III)V"⟩
abbrev c_M_subtract : ByteArray := prog_10_method_13_code
def r_M_subtract : Room := { frames := 0, cells := 0, slots := 0, locals := 0 }
def y_M_parts : MethodName := ⟨"WideWordStackModel", "parts", "(ZZ)V"⟩
abbrev c_M_parts : ByteArray := prog_10_method_33_code
def r_M_parts : Room := { frames := 3, cells := 0, slots := 0, locals := 68 }
def y_M_sized : MethodName := ⟨"WideWordStackModel", "sized", "(I)Z"⟩
abbrev c_M_sized : ByteArray := prog_10_method_20_code
def r_M_sized : Room := { frames := 2, cells := 0, slots := 0, locals := 46 }
def y_M_turn : MethodName := ⟨"WideWordStackModel", "turn", "(I)V"⟩
abbrev c_M_turn : ByteArray := prog_10_method_19_code
def r_M_turn : Room := { frames := 1, cells := 0, slots := 0, locals := 22 }
def y_M_cut : MethodName := ⟨"WideWordStackModel", "cut", "(I)V"⟩
abbrev c_M_cut : ByteArray := prog_10_method_15_code
def r_M_cut : Room := { frames := 0, cells := 0, slots := 0, locals := 0 }
def y_M_zero : MethodName := ⟨"WideWordStackModel", "zero", "(I)Z"⟩
abbrev c_M_zero : ByteArray := prog_10_method_11_code
def r_M_zero : Room := { frames := 0, cells := 0, slots := 0, locals := 0 }
def y_M_divide : MethodName := ⟨"WideWordStackModel", "divide", "(II)V"⟩
abbrev c_M_divide : ByteArray := prog_10_method_18_code
def r_M_divide : Room := { frames := 1, cells := 0, slots := 0, locals := 26 }
def y_M_twice : MethodName := ⟨"WideWordStackModel", "twice", "(II)V"⟩
abbrev c_M_twice : ByteArray := prog_10_method_16_code
def r_M_twice : Room := { frames := 0, cells := 0, slots := 0, locals := 0 }
def y_M_compare : MethodName := ⟨"WideWordStackModel", "compare", "(II)I"⟩
abbrev c_M_compare : ByteArray := prog_10_method_10_code
def r_M_compare : Room := { frames := 0, cells := 0, slots := 0, locals := 0 }
def y_M_modulo : MethodName := ⟨"WideWordStackModel", "modulo", "()V"⟩
abbrev c_M_modulo : ByteArray := prog_10_method_34_code
def r_M_modulo : Room := { frames := 2, cells := 0, slots := 0, locals := 51 }
def y_M_exponent : MethodName := ⟨"WideWordStackModel", "exponent", "()V"⟩
abbrev c_M_exponent : ByteArray := prog_10_method_35_code
def r_M_exponent : Room := { frames := 2, cells := 0, slots := 0, locals := 50 }
def y_M_small : MethodName := ⟨"WideWordStackModel", "small", "(II)V"⟩
abbrev c_M_small : ByteArray := prog_10_method_5_code
def r_M_small : Room := { frames := 1, cells := 0, slots := 0, locals := 22 }
def y_M_ask : MethodName := ⟨"WideWordStackModel", "ask", "(I)V"⟩
abbrev c_M_ask : ByteArray := prog_10_method_38_code
def r_M_ask : Room := { frames := 2, cells := 0, slots := 0, locals := 46 }
def y_M_extend : MethodName := ⟨"WideWordStackModel", "extend", "()V"⟩
abbrev c_M_extend : ByteArray := prog_10_method_39_code
def r_M_extend : Room := { frames := 1, cells := 0, slots := 0, locals := 23 }
def y_M_far : MethodName := ⟨"WideWordStackModel", "far", "(I)I"⟩
abbrev c_M_far : ByteArray := prog_10_method_36_code
def r_M_far : Room := { frames := 0, cells := 0, slots := 0, locals := 0 }
def y_M_compareSigned : MethodName := ⟨"WideWordStackModel", "compareSigned", "()I"⟩
abbrev c_M_compareSigned : ByteArray := prog_10_method_37_code
def r_M_compareSigned : Room := { frames := 1, cells := 0, slots := 0, locals := 23 }
def y_M_bits : MethodName := ⟨"WideWordStackModel", "bits", "(I)V"⟩
abbrev c_M_bits : ByteArray := prog_10_method_40_code
def r_M_bits : Room := { frames := 1, cells := 0, slots := 0, locals := 23 }
def y_M_checked : MethodName := ⟨"WideWordStackModel", "checked", "(IZ)I"⟩
abbrev c_M_checked : ByteArray := prog_10_method_46_code
def r_M_checked : Room := { frames := 5, cells := 0, slots := 0, locals := 114 }
def y_M_due : MethodName := ⟨"WideWordStackModel", "due", "(IZ)I"⟩
abbrev c_M_due : ByteArray := prog_10_method_44_code
def r_M_due : Room := { frames := 4, cells := 0, slots := 0, locals := 92 }
def y_M_exact : MethodName := ⟨"WideWordStackModel", "exact", "(IZ)Z"⟩
abbrev c_M_exact : ByteArray := prog_10_method_41_code
def r_M_exact : Room := { frames := 3, cells := 0, slots := 0, locals := 68 }
def y_M_together : MethodName := ⟨"WideWordStackModel", "together", "(ZZ)V"⟩
abbrev c_M_together : ByteArray := prog_10_method_42_code
def r_M_together : Room := { frames := 1, cells := 0, slots := 0, locals := 26 }
def y_M_ranges : MethodName := ⟨"WideWordStackModel", "ranges", "(Z)Z"⟩
abbrev c_M_ranges : ByteArray := prog_10_method_43_code
def r_M_ranges : Room := { frames := 2, cells := 0, slots := 0, locals := 43 }
def y_M_power : MethodName := ⟨"WideWordStackModel", "power", "(I)V"⟩
abbrev c_M_power : ByteArray := prog_10_method_21_code
def r_M_power : Room := { frames := 1, cells := 0, slots := 0, locals := 22 }
def y_M_settle : MethodName := ⟨"WideWordStackModel", "settle", "()I"⟩
abbrev c_M_settle : ByteArray := prog_10_method_45_code
def r_M_settle : Room := { frames := 2, cells := 0, slots := 0, locals := 46 }
def y_M_nearest : MethodName := ⟨"WideWordStackModel", "nearest", "(IZ)I"⟩
abbrev c_M_nearest : ByteArray := prog_10_method_47_code
def r_M_nearest : Room := { frames := 5, cells := 0, slots := 0, locals := 114 }
def y_M_fits : MethodName := ⟨"WideWordStackModel", "fits", "(IZ)Z"⟩
abbrev c_M_fits : ByteArray := prog_10_method_48_code
def r_M_fits : Room := { frames := 5, cells := 0, slots := 0, locals := 114 }
def y_M_key : MethodName := ⟨"WideWordStackModel", "key", "(C)Z"⟩
abbrev c_M_key : ByteArray := prog_10_method_49_code
def r_M_key : Room := { frames := 0, cells := 0, slots := 0, locals := 0 }
def y_M_clear : MethodName := ⟨"WideWordStackModel", "clear", "()I"⟩
abbrev c_M_clear : ByteArray := prog_10_method_50_code
def r_M_clear : Room := { frames := 0, cells := 0, slots := 0, locals := 0 }
def y_M_letter : MethodName := ⟨"WideWordStackModel", "letter", "(I)I"⟩
abbrev c_M_letter : ByteArray := prog_10_method_51_code
def r_M_letter : Room := { frames := 0, cells := 0, slots := 0, locals := 0 }
def y_M_print : MethodName := ⟨"WideWordStackModel", "print", "(IZ)I"⟩
abbrev c_M_print : ByteArray := prog_10_method_52_code
def r_M_print : Room := { frames := 2, cells := 0, slots := 0, locals := 51 }
def y_M_parse : MethodName := ⟨"WideWordStackModel", "parse", "(Z)I"⟩
abbrev c_M_parse : ByteArray := prog_10_method_56_code
def r_M_parse : Room := { frames := 3, cells := 0, slots := 0, locals := 66 }
def y_M_numeral : MethodName := ⟨"WideWordStackModel", "numeral", "(Z)Z"⟩
abbrev c_M_numeral : ByteArray := prog_10_method_54_code
def r_M_numeral : Room := { frames := 1, cells := 0, slots := 0, locals := 23 }
def y_M_digit : MethodName := ⟨"WideWordStackModel", "digit", "(I)I"⟩
abbrev c_M_digit : ByteArray := prog_10_method_53_code
def r_M_digit : Room := { frames := 0, cells := 0, slots := 0, locals := 0 }
def y_M_take : MethodName := ⟨"WideWordStackModel", "take", "(Z)I"⟩
abbrev c_M_take : ByteArray := prog_10_method_55_code
def r_M_take : Room := { frames := 2, cells := 0, slots := 0, locals := 45 }
def y_M_encode : MethodName := ⟨"WideWordStackModel", "encode", "(I)I"⟩
abbrev c_M_encode : ByteArray := prog_10_method_58_code
def r_M_encode : Room := { frames := 2, cells := 0, slots := 0, locals := 46 }
def y_M_bytes : MethodName := ⟨"WideWordStackModel", "bytes", "(I)I"⟩
abbrev c_M_bytes : ByteArray := prog_10_method_57_code
def r_M_bytes : Room := { frames := 0, cells := 0, slots := 0, locals := 0 }
def y_M_decode : MethodName := ⟨"WideWordStackModel", "decode", "()I"⟩
abbrev c_M_decode : ByteArray := prog_10_method_60_code
def r_M_decode : Room := { frames := 3, cells := 0, slots := 0, locals := 66 }
def y_M_coded : MethodName := ⟨"WideWordStackModel", "coded", "()Z"⟩
abbrev c_M_coded : ByteArray := prog_10_method_59_code
def r_M_coded : Room := { frames := 1, cells := 0, slots := 0, locals := 22 }
def f_R : Nat → Option (Nat × Nat) := fun j => match j with
  | _ => none
theorem fo_R : zFok "WideWordStack$Row" f_R := by
  intro j q h
  unfold f_R at h
  split at h
  · cases h
def kk_R : Nat → Option Value := fun j => match j with
  | 21 => some (.long (lN 4294967295))
  | 23 => some (.long (lN 2147483648))
  | 31 => some (.long (lN 255))
  | 33 => some (.long ((-(lN 1))))
  | 50 => some (.long (lN 2))
  | 64 => some (.long (lN 10))
  | _ => none
theorem kk_R_21 : kk_R 21 = some (.long (lN 4294967295)) := rfl
theorem kk_R_23 : kk_R 23 = some (.long (lN 2147483648)) := rfl
theorem kk_R_31 : kk_R 31 = some (.long (lN 255)) := rfl
theorem kk_R_33 : kk_R 33 = some (.long ((-(lN 1)))) := rfl
theorem kk_R_50 : kk_R 50 = some (.long (lN 2)) := rfl
theorem kk_R_64 : kk_R 64 = some (.long (lN 10)) := rfl
theorem ko_R : zKok "WideWordStack$Row" kk_R := by
  refine ⟨fun j x h => ?_, fun j x h => ?_⟩ <;> unfold kk_R at h <;> split at h <;> cases h <;> decide +kernel
def g_R : Nat → Option Nat := fun _ => none
theorem go_R : zGok "WideWordStack$Row" g_R := fun j a h => by cases h
def f_W : Nat → Option (Nat × Nat) := fun j => match j with
  | 9 => some (2, 0)
  | 15 => some (2, 1)
  | _ => none
theorem f_W_9 : f_W 9 = some (2, 0) := rfl
theorem f_W_15 : f_W 15 = some (2, 1) := rfl
theorem fo_W : zFok "WideWordStack$Whole" f_W := by
  intro j q h
  unfold f_W at h
  split at h
  · cases h; exact ⟨_, rfl, by decide, by decide +kernel⟩
  · cases h; exact ⟨_, rfl, by decide, by decide +kernel⟩
  · cases h
def kk_W : Nat → Option Value := fun j => match j with
  | 78 => some (.long (lN 4294967295))
  | 80 => some (.long (lN 2147483648))
  | _ => none
theorem kk_W_78 : kk_W 78 = some (.long (lN 4294967295)) := rfl
theorem kk_W_80 : kk_W 80 = some (.long (lN 2147483648)) := rfl
theorem ko_W : zKok "WideWordStack$Whole" kk_W := by
  refine ⟨fun j x h => ?_, fun j x h => ?_⟩ <;> unfold kk_W at h <;> split at h <;> cases h <;> decide +kernel
def g_W : Nat → Option Nat := fun j => match j with
  | 72 => some 1001
  | 75 => some 1000
  | _ => none
theorem g_W_72 : g_W 72 = some 1001 := rfl
theorem g_W_75 : g_W 75 = some 1000 := rfl
theorem go_W : zGok "WideWordStack$Whole" g_W := by
  intro j q h
  unfold g_W at h
  split at h
  · cases h; first | exact Or.inl ⟨rfl, by decide +kernel⟩ | exact Or.inr ⟨rfl, by decide +kernel⟩
  · cases h; first | exact Or.inl ⟨rfl, by decide +kernel⟩ | exact Or.inr ⟨rfl, by decide +kernel⟩
  · cases h
def f_E : Nat → Option (Nat × Nat) := fun j => match j with
  | 10 => some (0, 0)
  | 16 => some (0, 1)
  | 19 => some (0, 2)
  | 24 => some (0, 3)
  | _ => none
theorem f_E_10 : f_E 10 = some (0, 0) := rfl
theorem f_E_16 : f_E 16 = some (0, 1) := rfl
theorem f_E_19 : f_E 19 = some (0, 2) := rfl
theorem f_E_24 : f_E 24 = some (0, 3) := rfl
theorem fo_E : zFok "WideWordStack$Exact" f_E := by
  intro j q h
  unfold f_E at h
  split at h
  · cases h; exact ⟨_, rfl, by decide, by decide +kernel⟩
  · cases h; exact ⟨_, rfl, by decide, by decide +kernel⟩
  · cases h; exact ⟨_, rfl, by decide, by decide +kernel⟩
  · cases h; exact ⟨_, rfl, by decide, by decide +kernel⟩
  · cases h
def kk_E : Nat → Option Value := fun j => match j with
  | _ => none
theorem ko_E : zKok "WideWordStack$Exact" kk_E := by
  refine ⟨fun j x h => ?_, fun j x h => ?_⟩ <;> unfold kk_E at h <;> split at h <;> cases h <;> decide +kernel
def g_E : Nat → Option Nat := fun _ => none
theorem go_E : zGok "WideWordStack$Exact" g_E := fun j a h => by cases h
def f_P : Nat → Option (Nat × Nat) := fun j => match j with
  | 7 => some (3, 0)
  | 15 => some (3, 1)
  | _ => none
theorem f_P_7 : f_P 7 = some (3, 0) := rfl
theorem f_P_15 : f_P 15 = some (3, 1) := rfl
theorem fo_P : zFok "WideWordStack$Wrapping" f_P := by
  intro j q h
  unfold f_P at h
  split at h
  · cases h; exact ⟨_, rfl, by decide, by decide +kernel⟩
  · cases h; exact ⟨_, rfl, by decide, by decide +kernel⟩
  · cases h
def kk_P : Nat → Option Value := fun j => match j with
  | 27 => some (.long (lN 4294967295))
  | 93 => some (.long (lN 255))
  | _ => none
theorem kk_P_27 : kk_P 27 = some (.long (lN 4294967295)) := rfl
theorem kk_P_93 : kk_P 93 = some (.long (lN 255)) := rfl
theorem ko_P : zKok "WideWordStack$Wrapping" kk_P := by
  refine ⟨fun j x h => ?_, fun j x h => ?_⟩ <;> unfold kk_P at h <;> split at h <;> cases h <;> decide +kernel
def g_P : Nat → Option Nat := fun _ => none
theorem go_P : zGok "WideWordStack$Wrapping" g_P := fun j a h => by cases h
def f_T : Nat → Option (Nat × Nat) := fun j => match j with
  | 9 => some (1, 0)
  | 13 => some (1, 1)
  | _ => none
theorem f_T_9 : f_T 9 = some (1, 0) := rfl
theorem f_T_13 : f_T 13 = some (1, 1) := rfl
theorem fo_T : zFok "WideWordStack$Text" f_T := by
  intro j q h
  unfold f_T at h
  split at h
  · cases h; exact ⟨_, rfl, by decide, by decide +kernel⟩
  · cases h; exact ⟨_, rfl, by decide, by decide +kernel⟩
  · cases h
def kk_T : Nat → Option Value := fun j => match j with
  | _ => none
theorem ko_T : zKok "WideWordStack$Text" kk_T := by
  refine ⟨fun j x h => ?_, fun j x h => ?_⟩ <;> unfold kk_T at h <;> split at h <;> cases h <;> decide +kernel
def g_T : Nat → Option Nat := fun _ => none
theorem go_T : zGok "WideWordStack$Text" g_T := fun j a h => by cases h
def f_N : Nat → Option (Nat × Nat) := fun j => match j with
  | _ => none
theorem fo_N : zFok "WideWordStack$Numeral" f_N := by
  intro j q h
  unfold f_N at h
  split at h
  · cases h
def kk_N : Nat → Option Value := fun j => match j with
  | _ => none
theorem ko_N : zKok "WideWordStack$Numeral" kk_N := by
  refine ⟨fun j x h => ?_, fun j x h => ?_⟩ <;> unfold kk_N at h <;> split at h <;> cases h <;> decide +kernel
def g_N : Nat → Option Nat := fun _ => none
theorem go_N : zGok "WideWordStack$Numeral" g_N := fun j a h => by cases h
def f_C : Nat → Option (Nat × Nat) := fun j => match j with
  | _ => none
theorem fo_C : zFok "WideWordStack$Code" f_C := by
  intro j q h
  unfold f_C at h
  split at h
  · cases h
def kk_C : Nat → Option Value := fun j => match j with
  | _ => none
theorem ko_C : zKok "WideWordStack$Code" kk_C := by
  refine ⟨fun j x h => ?_, fun j x h => ?_⟩ <;> unfold kk_C at h <;> split at h <;> cases h <;> decide +kernel
def g_C : Nat → Option Nat := fun _ => none
theorem go_C : zGok "WideWordStack$Code" g_C := fun j a h => by cases h
def f_S : Nat → Option (Nat × Nat) := fun j => match j with
  | 13 => some (4, 0)
  | 16 => some (4, 1)
  | 23 => some (4, 2)
  | 30 => some (4, 3)
  | 39 => some (4, 4)
  | 43 => some (4, 5)
  | _ => none
theorem f_S_13 : f_S 13 = some (4, 0) := rfl
theorem f_S_16 : f_S 16 = some (4, 1) := rfl
theorem f_S_23 : f_S 23 = some (4, 2) := rfl
theorem f_S_30 : f_S 30 = some (4, 3) := rfl
theorem f_S_39 : f_S 39 = some (4, 4) := rfl
theorem f_S_43 : f_S 43 = some (4, 5) := rfl
theorem fo_S : zFok "WideWordStack" f_S := by
  intro j q h
  unfold f_S at h
  split at h
  · cases h; exact ⟨_, rfl, by decide, by decide +kernel⟩
  · cases h; exact ⟨_, rfl, by decide, by decide +kernel⟩
  · cases h; exact ⟨_, rfl, by decide, by decide +kernel⟩
  · cases h; exact ⟨_, rfl, by decide, by decide +kernel⟩
  · cases h; exact ⟨_, rfl, by decide, by decide +kernel⟩
  · cases h; exact ⟨_, rfl, by decide, by decide +kernel⟩
  · cases h
def kk_S : Nat → Option Value := fun j => match j with
  | _ => none
theorem ko_S : zKok "WideWordStack" kk_S := by
  refine ⟨fun j x h => ?_, fun j x h => ?_⟩ <;> unfold kk_S at h <;> split at h <;> cases h <;> decide +kernel
def g_S : Nat → Option Nat := fun _ => none
theorem go_S : zGok "WideWordStack" g_S := fun j a h => by cases h
def f_M : Nat → Option (Nat × Nat) := fun j => match j with
  | 7 => some (5, 0)
  | 13 => some (5, 2)
  | 16 => some (5, 5)
  | 19 => some (5, 4)
  | 27 => some (5, 1)
  | 123 => some (5, 6)
  | 148 => some (5, 3)
  | _ => none
theorem f_M_7 : f_M 7 = some (5, 0) := rfl
theorem f_M_13 : f_M 13 = some (5, 2) := rfl
theorem f_M_16 : f_M 16 = some (5, 5) := rfl
theorem f_M_19 : f_M 19 = some (5, 4) := rfl
theorem f_M_27 : f_M 27 = some (5, 1) := rfl
theorem f_M_123 : f_M 123 = some (5, 6) := rfl
theorem f_M_148 : f_M 148 = some (5, 3) := rfl
theorem fo_M : zFok "WideWordStackModel" f_M := by
  intro j q h
  unfold f_M at h
  split at h
  · cases h; exact ⟨_, rfl, by decide, by decide +kernel⟩
  · cases h; exact ⟨_, rfl, by decide, by decide +kernel⟩
  · cases h; exact ⟨_, rfl, by decide, by decide +kernel⟩
  · cases h; exact ⟨_, rfl, by decide, by decide +kernel⟩
  · cases h; exact ⟨_, rfl, by decide, by decide +kernel⟩
  · cases h; exact ⟨_, rfl, by decide, by decide +kernel⟩
  · cases h; exact ⟨_, rfl, by decide, by decide +kernel⟩
  · cases h
def kk_M : Nat → Option Value := fun j => match j with
  | 61 => some (.long (lN 255))
  | _ => none
theorem kk_M_61 : kk_M 61 = some (.long (lN 255)) := rfl
theorem ko_M : zKok "WideWordStackModel" kk_M := by
  refine ⟨fun j x h => ?_, fun j x h => ?_⟩ <;> unfold kk_M at h <;> split at h <;> cases h <;> decide +kernel
def g_M : Nat → Option Nat := fun _ => none
theorem go_M : zGok "WideWordStackModel" g_M := fun j a h => by cases h
def f_JA : Nat → Option (Nat × Nat) := fun j => match j with
  | _ => none
theorem fo_JA : zFok "java/util/Arrays" f_JA := by
  intro j q h
  unfold f_JA at h
  split at h
  · cases h
def kk_JA : Nat → Option Value := fun j => match j with
  | _ => none
theorem ko_JA : zKok "java/util/Arrays" kk_JA := by
  refine ⟨fun j x h => ?_, fun j x h => ?_⟩ <;> unfold kk_JA at h <;> split at h <;> cases h <;> decide +kernel
def g_JA : Nat → Option Nat := fun _ => none
theorem go_JA : zGok "java/util/Arrays" g_JA := fun j a h => by cases h
def f_JL : Nat → Option (Nat × Nat) := fun j => match j with
  | _ => none
theorem fo_JL : zFok "java/lang/Long" f_JL := by
  intro j q h
  unfold f_JL at h
  split at h
  · cases h
def kk_JL : Nat → Option Value := fun j => match j with
  | _ => none
theorem ko_JL : zKok "java/lang/Long" kk_JL := by
  refine ⟨fun j x h => ?_, fun j x h => ?_⟩ <;> unfold kk_JL at h <;> split at h <;> cases h <;> decide +kernel
def g_JL : Nat → Option Nat := fun _ => none
theorem go_JL : zGok "java/lang/Long" g_JL := fun j a h => by cases h
def f_JI : Nat → Option (Nat × Nat) := fun j => match j with
  | _ => none
theorem fo_JI : zFok "java/lang/Integer" f_JI := by
  intro j q h
  unfold f_JI at h
  split at h
  · cases h
def kk_JI : Nat → Option Value := fun j => match j with
  | 264 => some (.int (nI 65536))
  | _ => none
theorem kk_JI_264 : kk_JI 264 = some (.int (nI 65536)) := rfl
theorem ko_JI : zKok "java/lang/Integer" kk_JI := by
  refine ⟨fun j x h => ?_, fun j x h => ?_⟩ <;> unfold kk_JI at h <;> split at h <;> cases h <;> decide +kernel
def g_JI : Nat → Option Nat := fun _ => none
theorem go_JI : zGok "java/lang/Integer" g_JI := fun j a h => by cases h
def f_JM : Nat → Option (Nat × Nat) := fun j => match j with
  | _ => none
theorem fo_JM : zFok "java/lang/Math" f_JM := by
  intro j q h
  unfold f_JM at h
  split at h
  · cases h
def kk_JM : Nat → Option Value := fun j => match j with
  | _ => none
theorem ko_JM : zKok "java/lang/Math" kk_JM := by
  refine ⟨fun j x h => ?_, fun j x h => ?_⟩ <;> unfold kk_JM at h <;> split at h <;> cases h <;> decide +kernel
def g_JM : Nat → Option Nat := fun _ => none
theorem go_JM : zGok "java/lang/Math" g_JM := fun j a h => by cases h
