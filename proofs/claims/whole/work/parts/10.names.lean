/-! ===== names: methods and their bytes, decode rows, words among the tables (written by wip/whole/gen/names.py) ===== -/
abbrev RX : String := "WideFractions"
abbrev RM : String := "WideFractionsModel"
abbrev RL : String := "WideFractionsLaw"
abbrev RJl : String := "java/lang/Long"
abbrev RJi : String := "java/lang/Integer"
def y_X_init : MethodName := ⟨"WideFractions", "<init>", "()V"⟩
abbrev b_X_init : ByteArray := prog_1_method_1_code
def y_X_digit : MethodName := ⟨"WideFractions", "digit", "(I)I"⟩
abbrev b_X_digit : ByteArray := prog_1_method_14_code
def y_L_set : MethodName := ⟨"WideFractionsLaw", "set", "(LWideFractions;IJJ)I"⟩
abbrev b_L_set : ByteArray := method_3_code
def y_X_set : MethodName := ⟨"WideFractions", "set", "(IJJ)V"⟩
abbrev b_X_set : ByteArray := prog_1_method_2_code
def y_X_checkRegister : MethodName := ⟨"WideFractions", "checkRegister", "(I)V"⟩
abbrev b_X_checkRegister : ByteArray := prog_1_method_16_code
def y_X_store : MethodName := ⟨"WideFractions", "store", "(IJJ)V"⟩
abbrev b_X_store : ByteArray := prog_1_method_18_code
def y_L_half : MethodName := ⟨"WideFractionsLaw", "half", "(LWideFractions;IZ[J)I"⟩
abbrev b_L_half : ByteArray := method_4_code
def y_X_half : MethodName := ⟨"WideFractions", "half", "(IZ)J"⟩
abbrev b_X_half : ByteArray := prog_1_method_3_code
def y_L_add : MethodName := ⟨"WideFractionsLaw", "add", "(LWideFractions;III[J)I"⟩
abbrev b_L_add : ByteArray := method_5_code
def y_X_add : MethodName := ⟨"WideFractions", "add", "(III)Z"⟩
abbrev b_X_add : ByteArray := prog_1_method_4_code
def y_X_oneIfBelow : MethodName := ⟨"WideFractions", "oneIfBelow", "(JJ)J"⟩
abbrev b_X_oneIfBelow : ByteArray := prog_1_method_19_code
def y_Jl_compareUnsigned : MethodName := ⟨"java/lang/Long", "compareUnsigned", "(JJ)I"⟩
abbrev b_Jl_compareUnsigned : ByteArray := prog_9_method_43_code
def y_Jl_compare : MethodName := ⟨"java/lang/Long", "compare", "(JJ)I"⟩
abbrev b_Jl_compare : ByteArray := prog_9_method_42_code
def y_L_subtract : MethodName := ⟨"WideFractionsLaw", "subtract", "(LWideFractions;III[J)I"⟩
abbrev b_L_subtract : ByteArray := method_6_code
def y_X_subtract : MethodName := ⟨"WideFractions", "subtract", "(III)Z"⟩
abbrev b_X_subtract : ByteArray := prog_1_method_5_code
def y_X_isBelow : MethodName := ⟨"WideFractions", "isBelow", "(JJJJ)Z"⟩
abbrev b_X_isBelow : ByteArray := prog_1_method_20_code
def y_L_multiply : MethodName := ⟨"WideFractionsLaw", "multiply", "(LWideFractions;IIII)I"⟩
abbrev b_L_multiply : ByteArray := method_7_code
def y_X_multiply : MethodName := ⟨"WideFractions", "multiply", "(IIII)V"⟩
abbrev b_X_multiply : ByteArray := prog_1_method_6_code
def y_X_checkApart : MethodName := ⟨"WideFractions", "checkApart", "(II)V"⟩
abbrev b_X_checkApart : ByteArray := prog_1_method_17_code
def y_X_storeProduct : MethodName := ⟨"WideFractions", "storeProduct", "(JJJJII)V"⟩
abbrev b_X_storeProduct : ByteArray := prog_1_method_22_code
def y_X_productOver : MethodName := ⟨"WideFractions", "productOver", "(JJ)J"⟩
abbrev b_X_productOver : ByteArray := prog_1_method_21_code
def y_L_divide : MethodName := ⟨"WideFractionsLaw", "divide", "(LWideFractions;IIII)I"⟩
abbrev b_L_divide : ByteArray := method_8_code
def y_X_divide : MethodName := ⟨"WideFractions", "divide", "(IIII)V"⟩
abbrev b_X_divide : ByteArray := prog_1_method_7_code
def y_X_storeQuotient : MethodName := ⟨"WideFractions", "storeQuotient", "(JJJJII)V"⟩
abbrev b_X_storeQuotient : ByteArray := prog_1_method_23_code
def y_L_root : MethodName := ⟨"WideFractionsLaw", "root", "(LWideFractions;III)I"⟩
abbrev b_L_root : ByteArray := method_9_code
def y_X_root : MethodName := ⟨"WideFractions", "root", "(III)V"⟩
abbrev b_X_root : ByteArray := prog_1_method_8_code
def y_X_storeRoot : MethodName := ⟨"WideFractions", "storeRoot", "(JJII)V"⟩
abbrev b_X_storeRoot : ByteArray := prog_1_method_24_code
def y_L_shift : MethodName := ⟨"WideFractionsLaw", "shift", "(LWideFractions;III[J)I"⟩
abbrev b_L_shift : ByteArray := method_10_code
def y_X_shift : MethodName := ⟨"WideFractions", "shift", "(III)Z"⟩
abbrev b_X_shift : ByteArray := prog_1_method_9_code
def y_X_storeShiftedUp : MethodName := ⟨"WideFractions", "storeShiftedUp", "(JJII)Z"⟩
abbrev b_X_storeShiftedUp : ByteArray := prog_1_method_25_code
def y_X_zerosAbove : MethodName := ⟨"WideFractions", "zerosAbove", "(JJ)I"⟩
abbrev b_X_zerosAbove : ByteArray := prog_1_method_27_code
def y_Jl_numberOfLeadingZeros : MethodName := ⟨"java/lang/Long", "numberOfLeadingZeros", "(J)I"⟩
abbrev b_Jl_numberOfLeadingZeros : ByteArray := prog_9_method_48_code
def y_Ji_numberOfLeadingZeros : MethodName := ⟨"java/lang/Integer", "numberOfLeadingZeros", "(I)I"⟩
abbrev b_Ji_numberOfLeadingZeros : ByteArray := prog_8_method_47_code
def y_X_storeShiftedDown : MethodName := ⟨"WideFractions", "storeShiftedDown", "(JJII)Z"⟩
abbrev b_X_storeShiftedDown : ByteArray := prog_1_method_26_code
def y_X_zerosBelow : MethodName := ⟨"WideFractions", "zerosBelow", "(JJ)I"⟩
abbrev b_X_zerosBelow : ByteArray := prog_1_method_28_code
def y_Jl_numberOfTrailingZeros : MethodName := ⟨"java/lang/Long", "numberOfTrailingZeros", "(J)I"⟩
abbrev b_Jl_numberOfTrailingZeros : ByteArray := prog_9_method_49_code
def y_Ji_numberOfTrailingZeros : MethodName := ⟨"java/lang/Integer", "numberOfTrailingZeros", "(I)I"⟩
abbrev b_Ji_numberOfTrailingZeros : ByteArray := prog_8_method_48_code
def y_L_jam : MethodName := ⟨"WideFractionsLaw", "jam", "(LWideFractions;III)I"⟩
abbrev b_L_jam : ByteArray := method_11_code
def y_X_jam : MethodName := ⟨"WideFractions", "jam", "(III)V"⟩
abbrev b_X_jam : ByteArray := prog_1_method_10_code
def y_L_zeros : MethodName := ⟨"WideFractionsLaw", "zeros", "(LWideFractions;I[J)I"⟩
abbrev b_L_zeros : ByteArray := method_12_code
def y_X_zeros : MethodName := ⟨"WideFractions", "zeros", "(I)I"⟩
abbrev b_X_zeros : ByteArray := prog_1_method_11_code
def y_L_compare : MethodName := ⟨"WideFractionsLaw", "compare", "(LWideFractions;II[J)I"⟩
abbrev b_L_compare : ByteArray := method_13_code
def y_X_compare : MethodName := ⟨"WideFractions", "compare", "(II)I"⟩
abbrev b_X_compare : ByteArray := prog_1_method_12_code
def y_L_digits : MethodName := ⟨"WideFractionsLaw", "digits", "(LWideFractions;I[J)I"⟩
abbrev b_L_digits : ByteArray := method_14_code
def y_X_digits : MethodName := ⟨"WideFractions", "digits", "(I)I"⟩
abbrev b_X_digits : ByteArray := prog_1_method_13_code
def y_X_splitIntoParts : MethodName := ⟨"WideFractions", "splitIntoParts", "(JJ)V"⟩
abbrev b_X_splitIntoParts : ByteArray := prog_1_method_29_code
def y_X_takeLowestDigit : MethodName := ⟨"WideFractions", "takeLowestDigit", "()I"⟩
abbrev b_X_takeLowestDigit : ByteArray := prog_1_method_30_code
def y_X_partsAreZero : MethodName := ⟨"WideFractions", "partsAreZero", "()Z"⟩
abbrev b_X_partsAreZero : ByteArray := prog_1_method_31_code
def y_L_next : MethodName := ⟨"WideFractionsLaw", "next", "(LWideFractions;II[J)I"⟩
abbrev b_L_next : ByteArray := method_15_code
def y_X_next : MethodName := ⟨"WideFractions", "next", "(II)Z"⟩
abbrev b_X_next : ByteArray := prog_1_method_15_code
def y_M_init : MethodName := ⟨"WideFractionsModel", "<init>", "()V"⟩
abbrev b_M_init : ByteArray := prog_3_method_1_code
def y_M_thrown : MethodName := ⟨"WideFractionsModel", "thrown", "()I"⟩
abbrev b_M_thrown : ByteArray := prog_3_method_2_code
def y_M_set : MethodName := ⟨"WideFractionsModel", "set", "(IJJ)V"⟩
abbrev b_M_set : ByteArray := prog_3_method_6_code
def y_M_none : MethodName := ⟨"WideFractionsModel", "none", "(I)Z"⟩
abbrev b_M_none : ByteArray := prog_3_method_3_code
def y_M_half : MethodName := ⟨"WideFractionsModel", "half", "(IZ)J"⟩
abbrev b_M_half : ByteArray := prog_3_method_7_code
def y_M_add : MethodName := ⟨"WideFractionsModel", "add", "(III)Z"⟩
abbrev b_M_add : ByteArray := prog_3_method_9_code
def y_M_copy : MethodName := ⟨"WideFractionsModel", "copy", "(II)V"⟩
abbrev b_M_copy : ByteArray := prog_3_method_4_code
def y_M_join : MethodName := ⟨"WideFractionsModel", "join", "(Z)Z"⟩
abbrev b_M_join : ByteArray := prog_3_method_8_code
def y_M_subtract : MethodName := ⟨"WideFractionsModel", "subtract", "(III)Z"⟩
abbrev b_M_subtract : ByteArray := prog_3_method_10_code
def y_M_multiply : MethodName := ⟨"WideFractionsModel", "multiply", "(IIII)V"⟩
abbrev b_M_multiply : ByteArray := prog_3_method_12_code
def y_M_findProduct : MethodName := ⟨"WideFractionsModel", "findProduct", "(II)V"⟩
abbrev b_M_findProduct : ByteArray := prog_3_method_11_code
def y_M_take : MethodName := ⟨"WideFractionsModel", "take", "([ZII)V"⟩
abbrev b_M_take : ByteArray := prog_3_method_5_code
def y_M_divide : MethodName := ⟨"WideFractionsModel", "divide", "(IIII)V"⟩
abbrev b_M_divide : ByteArray := prog_3_method_17_code
def y_M_clearRest : MethodName := ⟨"WideFractionsModel", "clearRest", "()V"⟩
abbrev b_M_clearRest : ByteArray := prog_3_method_13_code
def y_M_bring : MethodName := ⟨"WideFractionsModel", "bring", "(Z)V"⟩
abbrev b_M_bring : ByteArray := prog_3_method_14_code
def y_M_takeAway : MethodName := ⟨"WideFractionsModel", "takeAway", "(I)Z"⟩
abbrev b_M_takeAway : ByteArray := prog_3_method_16_code
def y_M_lower : MethodName := ⟨"WideFractionsModel", "lower", "(II)Z"⟩
abbrev b_M_lower : ByteArray := prog_3_method_15_code
def y_M_root : MethodName := ⟨"WideFractionsModel", "root", "(III)V"⟩
abbrev b_M_root : ByteArray := prog_3_method_18_code
def y_M_shift : MethodName := ⟨"WideFractionsModel", "shift", "(III)Z"⟩
abbrev b_M_shift : ByteArray := prog_3_method_20_code
def y_M_move : MethodName := ⟨"WideFractionsModel", "move", "(IJI)Z"⟩
abbrev b_M_move : ByteArray := prog_3_method_19_code
def y_M_jam : MethodName := ⟨"WideFractionsModel", "jam", "(III)V"⟩
abbrev b_M_jam : ByteArray := prog_3_method_21_code
def y_M_zeros : MethodName := ⟨"WideFractionsModel", "zeros", "(I)I"⟩
abbrev b_M_zeros : ByteArray := prog_3_method_22_code
def y_M_compare : MethodName := ⟨"WideFractionsModel", "compare", "(II)I"⟩
abbrev b_M_compare : ByteArray := prog_3_method_23_code
def y_M_digits : MethodName := ⟨"WideFractionsModel", "digits", "(I)I"⟩
abbrev b_M_digits : ByteArray := prog_3_method_24_code
def y_M_digit : MethodName := ⟨"WideFractionsModel", "digit", "(I)I"⟩
abbrev b_M_digit : ByteArray := prog_3_method_25_code
def y_M_next : MethodName := ⟨"WideFractionsModel", "next", "(II)Z"⟩
abbrev b_M_next : ByteArray := prog_3_method_26_code
theorem k_in_L : Cond.initialized "WideFractionsLaw" ∈ wG := wG_in (List.mem_append_right _ (List.mem_append_left _ (List.mem_of_getElem? (i := 0) rfl))) rfl
theorem k_in_X : Cond.initialized "WideFractions" ∈ wG := wG_in (List.mem_append_right _ (List.mem_append_left _ (List.mem_of_getElem? (i := 1) rfl))) rfl
theorem k_in_M : Cond.initialized "WideFractionsModel" ∈ wG := wG_in (List.mem_append_right _ (List.mem_append_left _ (List.mem_of_getElem? (i := 2) rfl))) rfl
theorem k_in_Throwable : Cond.initialized "java/lang/Throwable" ∈ wG := wG_in (List.mem_append_right _ (List.mem_append_left _ (List.mem_of_getElem? (i := 3) rfl))) rfl
theorem k_in_Exception : Cond.initialized "java/lang/Exception" ∈ wG := wG_in (List.mem_append_right _ (List.mem_append_left _ (List.mem_of_getElem? (i := 4) rfl))) rfl
theorem k_in_RuntimeException : Cond.initialized "java/lang/RuntimeException" ∈ wG := wG_in (List.mem_append_right _ (List.mem_append_left _ (List.mem_of_getElem? (i := 5) rfl))) rfl
theorem k_in_IndexOutOfBoundsException : Cond.initialized "java/lang/IndexOutOfBoundsException" ∈ wG := wG_in (List.mem_append_right _ (List.mem_append_left _ (List.mem_of_getElem? (i := 6) rfl))) rfl
theorem k_in_Jl : Cond.initialized "java/lang/Long" ∈ wG := wG_in (List.mem_append_right _ (List.mem_append_left _ (List.mem_of_getElem? (i := 7) rfl))) rfl
theorem k_in_IllegalArgumentException : Cond.initialized "java/lang/IllegalArgumentException" ∈ wG := wG_in (List.mem_append_right _ (List.mem_append_left _ (List.mem_of_getElem? (i := 8) rfl))) rfl
theorem k_in_ArithmeticException : Cond.initialized "java/lang/ArithmeticException" ∈ wG := wG_in (List.mem_append_right _ (List.mem_append_left _ (List.mem_of_getElem? (i := 9) rfl))) rfl
theorem k_in_Ji : Cond.initialized "java/lang/Integer" ∈ wG := wG_in (List.mem_append_right _ (List.mem_append_left _ (List.mem_of_getElem? (i := 10) rfl))) rfl
theorem k_kl_L_8 : Cond.classLink "WideFractionsLaw" 8 "WideFractions" ∈ wG := wG_in (List.mem_append_right _ (List.mem_append_left _ (List.mem_of_getElem? (i := 11) rfl))) rfl
theorem k_it_X : Cond.instantiable "WideFractions" 5 ∈ wG := wG_in (List.mem_append_right _ (List.mem_append_left _ (List.mem_of_getElem? (i := 12) rfl))) rfl
theorem k_ml_L_62 : Cond.methodLink RL 62 y_X_init ∈ wG := wG_in (List.mem_append_right _ (List.mem_append_left _ (List.mem_of_getElem? (i := 13) rfl))) rfl
theorem k_im_X_init : Cond.instanceMethod y_X_init ∈ wG := wG_in (List.mem_append_right _ (List.mem_append_left _ (List.mem_of_getElem? (i := 14) rfl))) rfl
theorem k_X_init : Cond.code y_X_init b_X_init 1 none ∈ wG := wG_in (List.mem_append_right _ (List.mem_append_left _ (List.mem_of_getElem? (i := 15) rfl))) rfl
theorem k_ml_X_1 : Cond.methodLink RX 1 objectInit ∈ wG := wG_in (List.mem_append_right _ (List.mem_append_left _ (List.mem_of_getElem? (i := 16) rfl))) rfl
theorem k_im_Object : Cond.instanceMethod objectInit ∈ wG := wG_in (List.mem_append_right _ (List.mem_append_left _ (List.mem_of_getElem? (i := 17) rfl))) rfl
theorem k_fl_X_highs : Cond.fieldLink RX 9 RX "highs" "[J" ∈ wG := wG_in (List.mem_append_right _ (List.mem_append_left _ (List.mem_of_getElem? (i := 19) rfl))) rfl
theorem k_fl_X_lows : Cond.fieldLink RX 13 RX "lows" "[J" ∈ wG := wG_in (List.mem_append_right _ (List.mem_append_left _ (List.mem_of_getElem? (i := 20) rfl))) rfl
theorem k_fl_X_parts : Cond.fieldLink RX 16 RX "parts" "[J" ∈ wG := wG_in (List.mem_append_right _ (List.mem_append_left _ (List.mem_of_getElem? (i := 21) rfl))) rfl
theorem k_fl_X_digitRow : Cond.fieldLink RX 19 RX "digitRow" "[I" ∈ wG := wG_in (List.mem_append_right _ (List.mem_append_left _ (List.mem_of_getElem? (i := 22) rfl))) rfl
theorem k_fl_X_firstDigit : Cond.fieldLink RX 23 RX "firstDigit" "I" ∈ wG := wG_in (List.mem_append_right _ (List.mem_append_left _ (List.mem_of_getElem? (i := 23) rfl))) rfl
theorem k_ac_long : Cond.arrayClass .long ∈ wG := wG_in (List.mem_append_right _ (List.mem_append_left _ (List.mem_of_getElem? (i := 35) rfl))) rfl
theorem k_ac_int : Cond.arrayClass .int ∈ wG := wG_in (List.mem_append_right _ (List.mem_append_left _ (List.mem_of_getElem? (i := 36) rfl))) rfl
theorem k_ml_L_117 : Cond.methodLink RL 117 y_X_digit ∈ wG := wG_in (List.mem_append_right _ (List.mem_append_left _ (List.mem_of_getElem? (i := 37) rfl))) rfl
theorem k_im_X_digit : Cond.instanceMethod y_X_digit ∈ wG := wG_in (List.mem_append_right _ (List.mem_append_left _ (List.mem_of_getElem? (i := 38) rfl))) rfl
theorem k_se_X_digit : Cond.selects RX y_X_digit y_X_digit ∈ wG := wG_in (List.mem_append_right _ (List.mem_append_left _ (List.mem_of_getElem? (i := 39) rfl))) rfl
theorem k_X_digit : Cond.code y_X_digit b_X_digit 2 (some .int) ∈ wG := wG_in (List.mem_append_right _ (List.mem_append_left _ (List.mem_of_getElem? (i := 40) rfl))) rfl
theorem k_ml_L_68 : Cond.methodLink RL 68 y_L_set ∈ wG := wG_in (List.mem_append_right _ (List.mem_append_left _ (List.mem_of_getElem? (i := 41) rfl))) rfl
theorem k_st_L_set : Cond.static y_L_set ∈ wG := wG_in (List.mem_append_right _ (List.mem_append_left _ (List.mem_of_getElem? (i := 42) rfl))) rfl
theorem k_L_set : Cond.codeWith y_L_set b_L_set 7 (some .int) [(0, 8, 11, 13)] ∈ wG := wG_in (List.mem_append_right _ (List.mem_append_left _ (List.mem_of_getElem? (i := 43) rfl))) rfl
theorem k_kl_L_13 : Cond.classLink "WideFractionsLaw" 13 "java/lang/IndexOutOfBoundsException" ∈ wG := wG_in (List.mem_append_right _ (List.mem_append_left _ (List.mem_of_getElem? (i := 44) rfl))) rfl
theorem k_ml_L_7 : Cond.methodLink RL 7 y_X_set ∈ wG := wG_in (List.mem_append_right _ (List.mem_append_left _ (List.mem_of_getElem? (i := 45) rfl))) rfl
theorem k_im_X_set : Cond.instanceMethod y_X_set ∈ wG := wG_in (List.mem_append_right _ (List.mem_append_left _ (List.mem_of_getElem? (i := 46) rfl))) rfl
theorem k_se_X_set : Cond.selects RX y_X_set y_X_set ∈ wG := wG_in (List.mem_append_right _ (List.mem_append_left _ (List.mem_of_getElem? (i := 47) rfl))) rfl
theorem k_X_set : Cond.code y_X_set b_X_set 6 none ∈ wG := wG_in (List.mem_append_right _ (List.mem_append_left _ (List.mem_of_getElem? (i := 48) rfl))) rfl
theorem k_ml_X_27 : Cond.methodLink RX 27 y_X_checkRegister ∈ wG := wG_in (List.mem_append_right _ (List.mem_append_left _ (List.mem_of_getElem? (i := 49) rfl))) rfl
theorem k_st_X_checkRegister : Cond.static y_X_checkRegister ∈ wG := wG_in (List.mem_append_right _ (List.mem_append_left _ (List.mem_of_getElem? (i := 50) rfl))) rfl
theorem k_X_checkRegister : Cond.code y_X_checkRegister b_X_checkRegister 1 none ∈ wG := wG_in (List.mem_append_right _ (List.mem_append_left _ (List.mem_of_getElem? (i := 51) rfl))) rfl
theorem k_kl_X_100 : Cond.classLink "WideFractions" 100 "java/lang/IndexOutOfBoundsException" ∈ wG := wG_in (List.mem_append_right _ (List.mem_append_left _ (List.mem_of_getElem? (i := 52) rfl))) rfl
theorem k_it_IndexOutOfBoundsException : Cond.instantiable "java/lang/IndexOutOfBoundsException" 6 ∈ wG := wG_in (List.mem_append_right _ (List.mem_append_left _ (List.mem_of_getElem? (i := 53) rfl))) rfl
theorem k_it_Throwable : Cond.instantiable "java/lang/Throwable" 6 ∈ wG := wG_in (List.mem_append_right _ (List.mem_append_left _ (List.mem_of_getElem? (i := 91) rfl))) rfl
theorem k_ac_byte : Cond.arrayClass .byte ∈ wG := wG_in (List.mem_append_right _ (List.mem_append_left _ (List.mem_of_getElem? (i := 119) rfl))) rfl
theorem k_ml_X_31 : Cond.methodLink RX 31 y_X_store ∈ wG := wG_in (List.mem_append_right _ (List.mem_append_left _ (List.mem_of_getElem? (i := 120) rfl))) rfl
theorem k_im_X_store : Cond.instanceMethod y_X_store ∈ wG := wG_in (List.mem_append_right _ (List.mem_append_left _ (List.mem_of_getElem? (i := 122) rfl))) rfl
theorem k_X_store : Cond.code y_X_store b_X_store 6 none ∈ wG := wG_in (List.mem_append_right _ (List.mem_append_left _ (List.mem_of_getElem? (i := 123) rfl))) rfl
theorem k_ml_L_78 : Cond.methodLink RL 78 y_L_half ∈ wG := wG_in (List.mem_append_right _ (List.mem_append_left _ (List.mem_of_getElem? (i := 124) rfl))) rfl
theorem k_st_L_half : Cond.static y_L_half ∈ wG := wG_in (List.mem_append_right _ (List.mem_append_left _ (List.mem_of_getElem? (i := 125) rfl))) rfl
theorem k_L_half : Cond.codeWith y_L_half b_L_half 5 (some .int) [(0, 9, 12, 13)] ∈ wG := wG_in (List.mem_append_right _ (List.mem_append_left _ (List.mem_of_getElem? (i := 126) rfl))) rfl
theorem k_ml_L_15 : Cond.methodLink RL 15 y_X_half ∈ wG := wG_in (List.mem_append_right _ (List.mem_append_left _ (List.mem_of_getElem? (i := 127) rfl))) rfl
theorem k_im_X_half : Cond.instanceMethod y_X_half ∈ wG := wG_in (List.mem_append_right _ (List.mem_append_left _ (List.mem_of_getElem? (i := 128) rfl))) rfl
theorem k_se_X_half : Cond.selects RX y_X_half y_X_half ∈ wG := wG_in (List.mem_append_right _ (List.mem_append_left _ (List.mem_of_getElem? (i := 129) rfl))) rfl
theorem k_X_half : Cond.code y_X_half b_X_half 3 (some .long) ∈ wG := wG_in (List.mem_append_right _ (List.mem_append_left _ (List.mem_of_getElem? (i := 130) rfl))) rfl
theorem k_ml_L_82 : Cond.methodLink RL 82 y_L_add ∈ wG := wG_in (List.mem_append_right _ (List.mem_append_left _ (List.mem_of_getElem? (i := 131) rfl))) rfl
theorem k_st_L_add : Cond.static y_L_add ∈ wG := wG_in (List.mem_append_right _ (List.mem_append_left _ (List.mem_of_getElem? (i := 132) rfl))) rfl
theorem k_L_add : Cond.codeWith y_L_add b_L_add 6 (some .int) [(0, 19, 22, 13)] ∈ wG := wG_in (List.mem_append_right _ (List.mem_append_left _ (List.mem_of_getElem? (i := 133) rfl))) rfl
theorem k_ml_L_19 : Cond.methodLink RL 19 y_X_add ∈ wG := wG_in (List.mem_append_right _ (List.mem_append_left _ (List.mem_of_getElem? (i := 134) rfl))) rfl
theorem k_im_X_add : Cond.instanceMethod y_X_add ∈ wG := wG_in (List.mem_append_right _ (List.mem_append_left _ (List.mem_of_getElem? (i := 135) rfl))) rfl
theorem k_se_X_add : Cond.selects RX y_X_add y_X_add ∈ wG := wG_in (List.mem_append_right _ (List.mem_append_left _ (List.mem_of_getElem? (i := 136) rfl))) rfl
theorem k_X_add : Cond.code y_X_add b_X_add 13 (some .boolean) ∈ wG := wG_in (List.mem_append_right _ (List.mem_append_left _ (List.mem_of_getElem? (i := 137) rfl))) rfl
theorem k_ml_X_35 : Cond.methodLink RX 35 y_X_oneIfBelow ∈ wG := wG_in (List.mem_append_right _ (List.mem_append_left _ (List.mem_of_getElem? (i := 138) rfl))) rfl
theorem k_st_X_oneIfBelow : Cond.static y_X_oneIfBelow ∈ wG := wG_in (List.mem_append_right _ (List.mem_append_left _ (List.mem_of_getElem? (i := 139) rfl))) rfl
theorem k_X_oneIfBelow : Cond.code y_X_oneIfBelow b_X_oneIfBelow 4 (some .long) ∈ wG := wG_in (List.mem_append_right _ (List.mem_append_left _ (List.mem_of_getElem? (i := 140) rfl))) rfl
theorem k_ml_X_107 : Cond.methodLink RX 107 y_Jl_compareUnsigned ∈ wG := wG_in (List.mem_append_right _ (List.mem_append_left _ (List.mem_of_getElem? (i := 141) rfl))) rfl
theorem k_st_Jl_compareUnsigned : Cond.static y_Jl_compareUnsigned ∈ wG := wG_in (List.mem_append_right _ (List.mem_append_left _ (List.mem_of_getElem? (i := 142) rfl))) rfl
theorem k_Jl_compareUnsigned : Cond.code y_Jl_compareUnsigned b_Jl_compareUnsigned 4 (some .int) ∈ wG := wG_in (List.mem_append_right _ (List.mem_append_left _ (List.mem_of_getElem? (i := 143) rfl))) rfl
theorem k_cl_Jl_168 : Cond.constantLong RJl 168 (-9223372036854775808) ∈ wG := wG_in (List.mem_append_right _ (List.mem_append_left _ (List.mem_of_getElem? (i := 144) rfl))) rfl
theorem k_ml_Jl_302 : Cond.methodLink RJl 302 y_Jl_compare ∈ wG := wG_in (List.mem_append_right _ (List.mem_append_left _ (List.mem_of_getElem? (i := 145) rfl))) rfl
theorem k_st_Jl_compare : Cond.static y_Jl_compare ∈ wG := wG_in (List.mem_append_right _ (List.mem_append_left _ (List.mem_of_getElem? (i := 146) rfl))) rfl
theorem k_Jl_compare : Cond.code y_Jl_compare b_Jl_compare 4 (some .int) ∈ wG := wG_in (List.mem_append_right _ (List.mem_append_left _ (List.mem_of_getElem? (i := 147) rfl))) rfl
theorem k_ml_L_86 : Cond.methodLink RL 86 y_L_subtract ∈ wG := wG_in (List.mem_append_right _ (List.mem_append_left _ (List.mem_of_getElem? (i := 148) rfl))) rfl
theorem k_st_L_subtract : Cond.static y_L_subtract ∈ wG := wG_in (List.mem_append_right _ (List.mem_append_left _ (List.mem_of_getElem? (i := 149) rfl))) rfl
theorem k_L_subtract : Cond.codeWith y_L_subtract b_L_subtract 6 (some .int) [(0, 19, 22, 13)] ∈ wG := wG_in (List.mem_append_right _ (List.mem_append_left _ (List.mem_of_getElem? (i := 150) rfl))) rfl
theorem k_ml_L_23 : Cond.methodLink RL 23 y_X_subtract ∈ wG := wG_in (List.mem_append_right _ (List.mem_append_left _ (List.mem_of_getElem? (i := 151) rfl))) rfl
theorem k_im_X_subtract : Cond.instanceMethod y_X_subtract ∈ wG := wG_in (List.mem_append_right _ (List.mem_append_left _ (List.mem_of_getElem? (i := 152) rfl))) rfl
theorem k_se_X_subtract : Cond.selects RX y_X_subtract y_X_subtract ∈ wG := wG_in (List.mem_append_right _ (List.mem_append_left _ (List.mem_of_getElem? (i := 153) rfl))) rfl
theorem k_X_subtract : Cond.code y_X_subtract b_X_subtract 7 (some .boolean) ∈ wG := wG_in (List.mem_append_right _ (List.mem_append_left _ (List.mem_of_getElem? (i := 154) rfl))) rfl
theorem k_ml_X_39 : Cond.methodLink RX 39 y_X_isBelow ∈ wG := wG_in (List.mem_append_right _ (List.mem_append_left _ (List.mem_of_getElem? (i := 155) rfl))) rfl
theorem k_st_X_isBelow : Cond.static y_X_isBelow ∈ wG := wG_in (List.mem_append_right _ (List.mem_append_left _ (List.mem_of_getElem? (i := 156) rfl))) rfl
theorem k_X_isBelow : Cond.code y_X_isBelow b_X_isBelow 9 (some .boolean) ∈ wG := wG_in (List.mem_append_right _ (List.mem_append_left _ (List.mem_of_getElem? (i := 157) rfl))) rfl
theorem k_ml_L_89 : Cond.methodLink RL 89 y_L_multiply ∈ wG := wG_in (List.mem_append_right _ (List.mem_append_left _ (List.mem_of_getElem? (i := 158) rfl))) rfl
theorem k_st_L_multiply : Cond.static y_L_multiply ∈ wG := wG_in (List.mem_append_right _ (List.mem_append_left _ (List.mem_of_getElem? (i := 159) rfl))) rfl
theorem k_L_multiply : Cond.codeWith y_L_multiply b_L_multiply 6 (some .int) [(0, 9, 12, 13), (0, 9, 16, 30)] ∈ wG := wG_in (List.mem_append_right _ (List.mem_append_left _ (List.mem_of_getElem? (i := 160) rfl))) rfl
theorem k_kl_L_30 : Cond.classLink "WideFractionsLaw" 30 "java/lang/IllegalArgumentException" ∈ wG := wG_in (List.mem_append_right _ (List.mem_append_left _ (List.mem_of_getElem? (i := 161) rfl))) rfl
theorem k_ml_L_26 : Cond.methodLink RL 26 y_X_multiply ∈ wG := wG_in (List.mem_append_right _ (List.mem_append_left _ (List.mem_of_getElem? (i := 162) rfl))) rfl
theorem k_im_X_multiply : Cond.instanceMethod y_X_multiply ∈ wG := wG_in (List.mem_append_right _ (List.mem_append_left _ (List.mem_of_getElem? (i := 163) rfl))) rfl
theorem k_se_X_multiply : Cond.selects RX y_X_multiply y_X_multiply ∈ wG := wG_in (List.mem_append_right _ (List.mem_append_left _ (List.mem_of_getElem? (i := 164) rfl))) rfl
theorem k_X_multiply : Cond.code y_X_multiply b_X_multiply 5 none ∈ wG := wG_in (List.mem_append_right _ (List.mem_append_left _ (List.mem_of_getElem? (i := 165) rfl))) rfl
theorem k_ml_X_43 : Cond.methodLink RX 43 y_X_checkApart ∈ wG := wG_in (List.mem_append_right _ (List.mem_append_left _ (List.mem_of_getElem? (i := 166) rfl))) rfl
theorem k_st_X_checkApart : Cond.static y_X_checkApart ∈ wG := wG_in (List.mem_append_right _ (List.mem_append_left _ (List.mem_of_getElem? (i := 167) rfl))) rfl
theorem k_X_checkApart : Cond.code y_X_checkApart b_X_checkApart 2 none ∈ wG := wG_in (List.mem_append_right _ (List.mem_append_left _ (List.mem_of_getElem? (i := 168) rfl))) rfl
theorem k_kl_X_72 : Cond.classLink "WideFractions" 72 "java/lang/IllegalArgumentException" ∈ wG := wG_in (List.mem_append_right _ (List.mem_append_left _ (List.mem_of_getElem? (i := 169) rfl))) rfl
theorem k_it_IllegalArgumentException : Cond.instantiable "java/lang/IllegalArgumentException" 6 ∈ wG := wG_in (List.mem_append_right _ (List.mem_append_left _ (List.mem_of_getElem? (i := 170) rfl))) rfl
theorem k_ml_X_47 : Cond.methodLink RX 47 y_X_storeProduct ∈ wG := wG_in (List.mem_append_right _ (List.mem_append_left _ (List.mem_of_getElem? (i := 185) rfl))) rfl
theorem k_im_X_storeProduct : Cond.instanceMethod y_X_storeProduct ∈ wG := wG_in (List.mem_append_right _ (List.mem_append_left _ (List.mem_of_getElem? (i := 187) rfl))) rfl
theorem k_X_storeProduct : Cond.code y_X_storeProduct b_X_storeProduct 31 none ∈ wG := wG_in (List.mem_append_right _ (List.mem_append_left _ (List.mem_of_getElem? (i := 188) rfl))) rfl
theorem k_ml_X_97 : Cond.methodLink RX 97 y_X_productOver ∈ wG := wG_in (List.mem_append_right _ (List.mem_append_left _ (List.mem_of_getElem? (i := 189) rfl))) rfl
theorem k_st_X_productOver : Cond.static y_X_productOver ∈ wG := wG_in (List.mem_append_right _ (List.mem_append_left _ (List.mem_of_getElem? (i := 190) rfl))) rfl
theorem k_X_productOver : Cond.code y_X_productOver b_X_productOver 16 (some .long) ∈ wG := wG_in (List.mem_append_right _ (List.mem_append_left _ (List.mem_of_getElem? (i := 191) rfl))) rfl
theorem k_cl_X_112 : Cond.constantLong RX 112 4294967295 ∈ wG := wG_in (List.mem_append_right _ (List.mem_append_left _ (List.mem_of_getElem? (i := 192) rfl))) rfl
theorem k_ml_L_93 : Cond.methodLink RL 93 y_L_divide ∈ wG := wG_in (List.mem_append_right _ (List.mem_append_left _ (List.mem_of_getElem? (i := 193) rfl))) rfl
theorem k_st_L_divide : Cond.static y_L_divide ∈ wG := wG_in (List.mem_append_right _ (List.mem_append_left _ (List.mem_of_getElem? (i := 194) rfl))) rfl
theorem k_L_divide : Cond.codeWith y_L_divide b_L_divide 6 (some .int) [(0, 9, 12, 13), (0, 9, 16, 30), (0, 9, 20, 35)] ∈ wG := wG_in (List.mem_append_right _ (List.mem_append_left _ (List.mem_of_getElem? (i := 195) rfl))) rfl
theorem k_kl_L_35 : Cond.classLink "WideFractionsLaw" 35 "java/lang/ArithmeticException" ∈ wG := wG_in (List.mem_append_right _ (List.mem_append_left _ (List.mem_of_getElem? (i := 196) rfl))) rfl
theorem k_ml_L_32 : Cond.methodLink RL 32 y_X_divide ∈ wG := wG_in (List.mem_append_right _ (List.mem_append_left _ (List.mem_of_getElem? (i := 197) rfl))) rfl
theorem k_im_X_divide : Cond.instanceMethod y_X_divide ∈ wG := wG_in (List.mem_append_right _ (List.mem_append_left _ (List.mem_of_getElem? (i := 198) rfl))) rfl
theorem k_se_X_divide : Cond.selects RX y_X_divide y_X_divide ∈ wG := wG_in (List.mem_append_right _ (List.mem_append_left _ (List.mem_of_getElem? (i := 199) rfl))) rfl
theorem k_X_divide : Cond.code y_X_divide b_X_divide 5 none ∈ wG := wG_in (List.mem_append_right _ (List.mem_append_left _ (List.mem_of_getElem? (i := 200) rfl))) rfl
theorem k_kl_X_51 : Cond.classLink "WideFractions" 51 "java/lang/ArithmeticException" ∈ wG := wG_in (List.mem_append_right _ (List.mem_append_left _ (List.mem_of_getElem? (i := 201) rfl))) rfl
theorem k_it_ArithmeticException : Cond.instantiable "java/lang/ArithmeticException" 6 ∈ wG := wG_in (List.mem_append_right _ (List.mem_append_left _ (List.mem_of_getElem? (i := 202) rfl))) rfl
theorem k_ml_X_58 : Cond.methodLink RX 58 y_X_storeQuotient ∈ wG := wG_in (List.mem_append_right _ (List.mem_append_left _ (List.mem_of_getElem? (i := 217) rfl))) rfl
theorem k_im_X_storeQuotient : Cond.instanceMethod y_X_storeQuotient ∈ wG := wG_in (List.mem_append_right _ (List.mem_append_left _ (List.mem_of_getElem? (i := 219) rfl))) rfl
theorem k_X_storeQuotient : Cond.code y_X_storeQuotient b_X_storeQuotient 21 none ∈ wG := wG_in (List.mem_append_right _ (List.mem_append_left _ (List.mem_of_getElem? (i := 220) rfl))) rfl
theorem k_ml_L_96 : Cond.methodLink RL 96 y_L_root ∈ wG := wG_in (List.mem_append_right _ (List.mem_append_left _ (List.mem_of_getElem? (i := 221) rfl))) rfl
theorem k_st_L_root : Cond.static y_L_root ∈ wG := wG_in (List.mem_append_right _ (List.mem_append_left _ (List.mem_of_getElem? (i := 222) rfl))) rfl
theorem k_L_root : Cond.codeWith y_L_root b_L_root 5 (some .int) [(0, 7, 10, 13), (0, 7, 14, 30)] ∈ wG := wG_in (List.mem_append_right _ (List.mem_append_left _ (List.mem_of_getElem? (i := 223) rfl))) rfl
theorem k_ml_L_37 : Cond.methodLink RL 37 y_X_root ∈ wG := wG_in (List.mem_append_right _ (List.mem_append_left _ (List.mem_of_getElem? (i := 224) rfl))) rfl
theorem k_im_X_root : Cond.instanceMethod y_X_root ∈ wG := wG_in (List.mem_append_right _ (List.mem_append_left _ (List.mem_of_getElem? (i := 225) rfl))) rfl
theorem k_se_X_root : Cond.selects RX y_X_root y_X_root ∈ wG := wG_in (List.mem_append_right _ (List.mem_append_left _ (List.mem_of_getElem? (i := 226) rfl))) rfl
theorem k_X_root : Cond.code y_X_root b_X_root 4 none ∈ wG := wG_in (List.mem_append_right _ (List.mem_append_left _ (List.mem_of_getElem? (i := 227) rfl))) rfl
theorem k_ml_X_61 : Cond.methodLink RX 61 y_X_storeRoot ∈ wG := wG_in (List.mem_append_right _ (List.mem_append_left _ (List.mem_of_getElem? (i := 228) rfl))) rfl
theorem k_im_X_storeRoot : Cond.instanceMethod y_X_storeRoot ∈ wG := wG_in (List.mem_append_right _ (List.mem_append_left _ (List.mem_of_getElem? (i := 230) rfl))) rfl
theorem k_X_storeRoot : Cond.code y_X_storeRoot b_X_storeRoot 22 none ∈ wG := wG_in (List.mem_append_right _ (List.mem_append_left _ (List.mem_of_getElem? (i := 231) rfl))) rfl
theorem k_ml_L_100 : Cond.methodLink RL 100 y_L_shift ∈ wG := wG_in (List.mem_append_right _ (List.mem_append_left _ (List.mem_of_getElem? (i := 232) rfl))) rfl
theorem k_st_L_shift : Cond.static y_L_shift ∈ wG := wG_in (List.mem_append_right _ (List.mem_append_left _ (List.mem_of_getElem? (i := 233) rfl))) rfl
theorem k_L_shift : Cond.codeWith y_L_shift b_L_shift 6 (some .int) [(0, 19, 22, 13)] ∈ wG := wG_in (List.mem_append_right _ (List.mem_append_left _ (List.mem_of_getElem? (i := 234) rfl))) rfl
theorem k_ml_L_41 : Cond.methodLink RL 41 y_X_shift ∈ wG := wG_in (List.mem_append_right _ (List.mem_append_left _ (List.mem_of_getElem? (i := 235) rfl))) rfl
theorem k_im_X_shift : Cond.instanceMethod y_X_shift ∈ wG := wG_in (List.mem_append_right _ (List.mem_append_left _ (List.mem_of_getElem? (i := 236) rfl))) rfl
theorem k_se_X_shift : Cond.selects RX y_X_shift y_X_shift ∈ wG := wG_in (List.mem_append_right _ (List.mem_append_left _ (List.mem_of_getElem? (i := 237) rfl))) rfl
theorem k_X_shift : Cond.code y_X_shift b_X_shift 5 (some .boolean) ∈ wG := wG_in (List.mem_append_right _ (List.mem_append_left _ (List.mem_of_getElem? (i := 238) rfl))) rfl
theorem k_ml_X_65 : Cond.methodLink RX 65 y_X_storeShiftedUp ∈ wG := wG_in (List.mem_append_right _ (List.mem_append_left _ (List.mem_of_getElem? (i := 239) rfl))) rfl
theorem k_im_X_storeShiftedUp : Cond.instanceMethod y_X_storeShiftedUp ∈ wG := wG_in (List.mem_append_right _ (List.mem_append_right _ (List.mem_of_getElem? (i := 1) rfl))) rfl
theorem k_X_storeShiftedUp : Cond.code y_X_storeShiftedUp b_X_storeShiftedUp 7 (some .boolean) ∈ wG := wG_in (List.mem_append_right _ (List.mem_append_right _ (List.mem_of_getElem? (i := 2) rfl))) rfl
theorem k_ml_X_77 : Cond.methodLink RX 77 y_X_zerosAbove ∈ wG := wG_in (List.mem_append_right _ (List.mem_append_right _ (List.mem_of_getElem? (i := 3) rfl))) rfl
theorem k_st_X_zerosAbove : Cond.static y_X_zerosAbove ∈ wG := wG_in (List.mem_append_right _ (List.mem_append_right _ (List.mem_of_getElem? (i := 4) rfl))) rfl
theorem k_X_zerosAbove : Cond.code y_X_zerosAbove b_X_zerosAbove 4 (some .int) ∈ wG := wG_in (List.mem_append_right _ (List.mem_append_right _ (List.mem_of_getElem? (i := 5) rfl))) rfl
theorem k_ml_X_117 : Cond.methodLink RX 117 y_Jl_numberOfLeadingZeros ∈ wG := wG_in (List.mem_append_right _ (List.mem_append_right _ (List.mem_of_getElem? (i := 6) rfl))) rfl
theorem k_st_Jl_numberOfLeadingZeros : Cond.static y_Jl_numberOfLeadingZeros ∈ wG := wG_in (List.mem_append_right _ (List.mem_append_right _ (List.mem_of_getElem? (i := 7) rfl))) rfl
theorem k_Jl_numberOfLeadingZeros : Cond.code y_Jl_numberOfLeadingZeros b_Jl_numberOfLeadingZeros 3 (some .int) ∈ wG := wG_in (List.mem_append_right _ (List.mem_append_right _ (List.mem_of_getElem? (i := 8) rfl))) rfl
theorem k_ml_Jl_308 : Cond.methodLink RJl 308 y_Ji_numberOfLeadingZeros ∈ wG := wG_in (List.mem_append_right _ (List.mem_append_right _ (List.mem_of_getElem? (i := 9) rfl))) rfl
theorem k_st_Ji_numberOfLeadingZeros : Cond.static y_Ji_numberOfLeadingZeros ∈ wG := wG_in (List.mem_append_right _ (List.mem_append_right _ (List.mem_of_getElem? (i := 10) rfl))) rfl
theorem k_Ji_numberOfLeadingZeros : Cond.code y_Ji_numberOfLeadingZeros b_Ji_numberOfLeadingZeros 2 (some .int) ∈ wG := wG_in (List.mem_append_right _ (List.mem_append_right _ (List.mem_of_getElem? (i := 11) rfl))) rfl
theorem k_ci_Ji_264 : Cond.constant RJi 264 65536 ∈ wG := wG_in (List.mem_append_right _ (List.mem_append_right _ (List.mem_of_getElem? (i := 12) rfl))) rfl
theorem k_ml_X_69 : Cond.methodLink RX 69 y_X_storeShiftedDown ∈ wG := wG_in (List.mem_append_right _ (List.mem_append_right _ (List.mem_of_getElem? (i := 13) rfl))) rfl
theorem k_im_X_storeShiftedDown : Cond.instanceMethod y_X_storeShiftedDown ∈ wG := wG_in (List.mem_append_right _ (List.mem_append_right _ (List.mem_of_getElem? (i := 15) rfl))) rfl
theorem k_X_storeShiftedDown : Cond.code y_X_storeShiftedDown b_X_storeShiftedDown 7 (some .boolean) ∈ wG := wG_in (List.mem_append_right _ (List.mem_append_right _ (List.mem_of_getElem? (i := 16) rfl))) rfl
theorem k_ml_X_114 : Cond.methodLink RX 114 y_X_zerosBelow ∈ wG := wG_in (List.mem_append_right _ (List.mem_append_right _ (List.mem_of_getElem? (i := 17) rfl))) rfl
theorem k_st_X_zerosBelow : Cond.static y_X_zerosBelow ∈ wG := wG_in (List.mem_append_right _ (List.mem_append_right _ (List.mem_of_getElem? (i := 18) rfl))) rfl
theorem k_X_zerosBelow : Cond.code y_X_zerosBelow b_X_zerosBelow 4 (some .int) ∈ wG := wG_in (List.mem_append_right _ (List.mem_append_right _ (List.mem_of_getElem? (i := 19) rfl))) rfl
theorem k_ml_X_121 : Cond.methodLink RX 121 y_Jl_numberOfTrailingZeros ∈ wG := wG_in (List.mem_append_right _ (List.mem_append_right _ (List.mem_of_getElem? (i := 20) rfl))) rfl
theorem k_st_Jl_numberOfTrailingZeros : Cond.static y_Jl_numberOfTrailingZeros ∈ wG := wG_in (List.mem_append_right _ (List.mem_append_right _ (List.mem_of_getElem? (i := 21) rfl))) rfl
theorem k_Jl_numberOfTrailingZeros : Cond.code y_Jl_numberOfTrailingZeros b_Jl_numberOfTrailingZeros 3 (some .int) ∈ wG := wG_in (List.mem_append_right _ (List.mem_append_right _ (List.mem_of_getElem? (i := 22) rfl))) rfl
theorem k_ml_Jl_311 : Cond.methodLink RJl 311 y_Ji_numberOfTrailingZeros ∈ wG := wG_in (List.mem_append_right _ (List.mem_append_right _ (List.mem_of_getElem? (i := 23) rfl))) rfl
theorem k_st_Ji_numberOfTrailingZeros : Cond.static y_Ji_numberOfTrailingZeros ∈ wG := wG_in (List.mem_append_right _ (List.mem_append_right _ (List.mem_of_getElem? (i := 24) rfl))) rfl
theorem k_Ji_numberOfTrailingZeros : Cond.code y_Ji_numberOfTrailingZeros b_Ji_numberOfTrailingZeros 2 (some .int) ∈ wG := wG_in (List.mem_append_right _ (List.mem_append_right _ (List.mem_of_getElem? (i := 25) rfl))) rfl
theorem k_ml_L_103 : Cond.methodLink RL 103 y_L_jam ∈ wG := wG_in (List.mem_append_right _ (List.mem_append_right _ (List.mem_of_getElem? (i := 26) rfl))) rfl
theorem k_st_L_jam : Cond.static y_L_jam ∈ wG := wG_in (List.mem_append_right _ (List.mem_append_right _ (List.mem_of_getElem? (i := 27) rfl))) rfl
theorem k_L_jam : Cond.codeWith y_L_jam b_L_jam 5 (some .int) [(0, 7, 10, 13), (0, 7, 14, 30)] ∈ wG := wG_in (List.mem_append_right _ (List.mem_append_right _ (List.mem_of_getElem? (i := 28) rfl))) rfl
theorem k_ml_L_44 : Cond.methodLink RL 44 y_X_jam ∈ wG := wG_in (List.mem_append_right _ (List.mem_append_right _ (List.mem_of_getElem? (i := 29) rfl))) rfl
theorem k_im_X_jam : Cond.instanceMethod y_X_jam ∈ wG := wG_in (List.mem_append_right _ (List.mem_append_right _ (List.mem_of_getElem? (i := 30) rfl))) rfl
theorem k_se_X_jam : Cond.selects RX y_X_jam y_X_jam ∈ wG := wG_in (List.mem_append_right _ (List.mem_append_right _ (List.mem_of_getElem? (i := 31) rfl))) rfl
theorem k_X_jam : Cond.code y_X_jam b_X_jam 4 none ∈ wG := wG_in (List.mem_append_right _ (List.mem_append_right _ (List.mem_of_getElem? (i := 32) rfl))) rfl
theorem k_ml_L_106 : Cond.methodLink RL 106 y_L_zeros ∈ wG := wG_in (List.mem_append_right _ (List.mem_append_right _ (List.mem_of_getElem? (i := 34) rfl))) rfl
theorem k_st_L_zeros : Cond.static y_L_zeros ∈ wG := wG_in (List.mem_append_right _ (List.mem_append_right _ (List.mem_of_getElem? (i := 35) rfl))) rfl
theorem k_L_zeros : Cond.codeWith y_L_zeros b_L_zeros 4 (some .int) [(0, 9, 12, 13)] ∈ wG := wG_in (List.mem_append_right _ (List.mem_append_right _ (List.mem_of_getElem? (i := 36) rfl))) rfl
theorem k_ml_L_47 : Cond.methodLink RL 47 y_X_zeros ∈ wG := wG_in (List.mem_append_right _ (List.mem_append_right _ (List.mem_of_getElem? (i := 37) rfl))) rfl
theorem k_im_X_zeros : Cond.instanceMethod y_X_zeros ∈ wG := wG_in (List.mem_append_right _ (List.mem_append_right _ (List.mem_of_getElem? (i := 38) rfl))) rfl
theorem k_se_X_zeros : Cond.selects RX y_X_zeros y_X_zeros ∈ wG := wG_in (List.mem_append_right _ (List.mem_append_right _ (List.mem_of_getElem? (i := 39) rfl))) rfl
theorem k_X_zeros : Cond.code y_X_zeros b_X_zeros 2 (some .int) ∈ wG := wG_in (List.mem_append_right _ (List.mem_append_right _ (List.mem_of_getElem? (i := 40) rfl))) rfl
theorem k_ml_L_110 : Cond.methodLink RL 110 y_L_compare ∈ wG := wG_in (List.mem_append_right _ (List.mem_append_right _ (List.mem_of_getElem? (i := 41) rfl))) rfl
theorem k_st_L_compare : Cond.static y_L_compare ∈ wG := wG_in (List.mem_append_right _ (List.mem_append_right _ (List.mem_of_getElem? (i := 42) rfl))) rfl
theorem k_L_compare : Cond.codeWith y_L_compare b_L_compare 5 (some .int) [(0, 10, 13, 13)] ∈ wG := wG_in (List.mem_append_right _ (List.mem_append_right _ (List.mem_of_getElem? (i := 43) rfl))) rfl
theorem k_ml_L_51 : Cond.methodLink RL 51 y_X_compare ∈ wG := wG_in (List.mem_append_right _ (List.mem_append_right _ (List.mem_of_getElem? (i := 44) rfl))) rfl
theorem k_im_X_compare : Cond.instanceMethod y_X_compare ∈ wG := wG_in (List.mem_append_right _ (List.mem_append_right _ (List.mem_of_getElem? (i := 45) rfl))) rfl
theorem k_se_X_compare : Cond.selects RX y_X_compare y_X_compare ∈ wG := wG_in (List.mem_append_right _ (List.mem_append_right _ (List.mem_of_getElem? (i := 46) rfl))) rfl
theorem k_X_compare : Cond.code y_X_compare b_X_compare 3 (some .int) ∈ wG := wG_in (List.mem_append_right _ (List.mem_append_right _ (List.mem_of_getElem? (i := 47) rfl))) rfl
theorem k_ml_L_114 : Cond.methodLink RL 114 y_L_digits ∈ wG := wG_in (List.mem_append_right _ (List.mem_append_right _ (List.mem_of_getElem? (i := 48) rfl))) rfl
theorem k_st_L_digits : Cond.static y_L_digits ∈ wG := wG_in (List.mem_append_right _ (List.mem_append_right _ (List.mem_of_getElem? (i := 49) rfl))) rfl
theorem k_L_digits : Cond.codeWith y_L_digits b_L_digits 4 (some .int) [(0, 9, 12, 13)] ∈ wG := wG_in (List.mem_append_right _ (List.mem_append_right _ (List.mem_of_getElem? (i := 50) rfl))) rfl
theorem k_ml_L_55 : Cond.methodLink RL 55 y_X_digits ∈ wG := wG_in (List.mem_append_right _ (List.mem_append_right _ (List.mem_of_getElem? (i := 51) rfl))) rfl
theorem k_im_X_digits : Cond.instanceMethod y_X_digits ∈ wG := wG_in (List.mem_append_right _ (List.mem_append_right _ (List.mem_of_getElem? (i := 52) rfl))) rfl
theorem k_se_X_digits : Cond.selects RX y_X_digits y_X_digits ∈ wG := wG_in (List.mem_append_right _ (List.mem_append_right _ (List.mem_of_getElem? (i := 53) rfl))) rfl
theorem k_X_digits : Cond.code y_X_digits b_X_digits 3 (some .int) ∈ wG := wG_in (List.mem_append_right _ (List.mem_append_right _ (List.mem_of_getElem? (i := 54) rfl))) rfl
theorem k_ml_X_81 : Cond.methodLink RX 81 y_X_splitIntoParts ∈ wG := wG_in (List.mem_append_right _ (List.mem_append_right _ (List.mem_of_getElem? (i := 55) rfl))) rfl
theorem k_im_X_splitIntoParts : Cond.instanceMethod y_X_splitIntoParts ∈ wG := wG_in (List.mem_append_right _ (List.mem_append_right _ (List.mem_of_getElem? (i := 57) rfl))) rfl
theorem k_X_splitIntoParts : Cond.code y_X_splitIntoParts b_X_splitIntoParts 5 none ∈ wG := wG_in (List.mem_append_right _ (List.mem_append_right _ (List.mem_of_getElem? (i := 58) rfl))) rfl
theorem k_ml_X_85 : Cond.methodLink RX 85 y_X_takeLowestDigit ∈ wG := wG_in (List.mem_append_right _ (List.mem_append_right _ (List.mem_of_getElem? (i := 59) rfl))) rfl
theorem k_im_X_takeLowestDigit : Cond.instanceMethod y_X_takeLowestDigit ∈ wG := wG_in (List.mem_append_right _ (List.mem_append_right _ (List.mem_of_getElem? (i := 61) rfl))) rfl
theorem k_X_takeLowestDigit : Cond.code y_X_takeLowestDigit b_X_takeLowestDigit 6 (some .int) ∈ wG := wG_in (List.mem_append_right _ (List.mem_append_right _ (List.mem_of_getElem? (i := 62) rfl))) rfl
theorem k_cl_X_93 : Cond.constantLong RX 93 10 ∈ wG := wG_in (List.mem_append_right _ (List.mem_append_right _ (List.mem_of_getElem? (i := 63) rfl))) rfl
theorem k_ml_X_89 : Cond.methodLink RX 89 y_X_partsAreZero ∈ wG := wG_in (List.mem_append_right _ (List.mem_append_right _ (List.mem_of_getElem? (i := 64) rfl))) rfl
theorem k_im_X_partsAreZero : Cond.instanceMethod y_X_partsAreZero ∈ wG := wG_in (List.mem_append_right _ (List.mem_append_right _ (List.mem_of_getElem? (i := 66) rfl))) rfl
theorem k_X_partsAreZero : Cond.code y_X_partsAreZero b_X_partsAreZero 1 (some .boolean) ∈ wG := wG_in (List.mem_append_right _ (List.mem_append_right _ (List.mem_of_getElem? (i := 67) rfl))) rfl
theorem k_ml_L_121 : Cond.methodLink RL 121 y_L_next ∈ wG := wG_in (List.mem_append_right _ (List.mem_append_right _ (List.mem_of_getElem? (i := 68) rfl))) rfl
theorem k_st_L_next : Cond.static y_L_next ∈ wG := wG_in (List.mem_append_right _ (List.mem_append_right _ (List.mem_of_getElem? (i := 69) rfl))) rfl
theorem k_L_next : Cond.codeWith y_L_next b_L_next 5 (some .int) [(0, 17, 20, 13), (0, 17, 24, 30)] ∈ wG := wG_in (List.mem_append_right _ (List.mem_append_right _ (List.mem_of_getElem? (i := 70) rfl))) rfl
theorem k_ml_L_58 : Cond.methodLink RL 58 y_X_next ∈ wG := wG_in (List.mem_append_right _ (List.mem_append_right _ (List.mem_of_getElem? (i := 71) rfl))) rfl
theorem k_im_X_next : Cond.instanceMethod y_X_next ∈ wG := wG_in (List.mem_append_right _ (List.mem_append_right _ (List.mem_of_getElem? (i := 72) rfl))) rfl
theorem k_se_X_next : Cond.selects RX y_X_next y_X_next ∈ wG := wG_in (List.mem_append_right _ (List.mem_append_right _ (List.mem_of_getElem? (i := 73) rfl))) rfl
theorem k_X_next : Cond.code y_X_next b_X_next 11 (some .boolean) ∈ wG := wG_in (List.mem_append_right _ (List.mem_append_right _ (List.mem_of_getElem? (i := 74) rfl))) rfl
theorem k_kl_L_63 : Cond.classLink "WideFractionsLaw" 63 "WideFractionsModel" ∈ wG := wG_in (List.mem_append_right _ (List.mem_append_right _ (List.mem_of_getElem? (i := 76) rfl))) rfl
theorem k_it_M : Cond.instantiable "WideFractionsModel" 7 ∈ wG := wG_in (List.mem_append_right _ (List.mem_append_right _ (List.mem_of_getElem? (i := 77) rfl))) rfl
theorem k_ml_L_65 : Cond.methodLink RL 65 y_M_init ∈ wG := wG_in (List.mem_append_right _ (List.mem_append_right _ (List.mem_of_getElem? (i := 78) rfl))) rfl
theorem k_im_M_init : Cond.instanceMethod y_M_init ∈ wG := wG_in (List.mem_append_right _ (List.mem_append_right _ (List.mem_of_getElem? (i := 79) rfl))) rfl
theorem k_M_init : Cond.code y_M_init b_M_init 1 none ∈ wG := wG_in (List.mem_append_right _ (List.mem_append_right _ (List.mem_of_getElem? (i := 80) rfl))) rfl
theorem k_ml_M_1 : Cond.methodLink RM 1 objectInit ∈ wG := wG_in (List.mem_append_right _ (List.mem_append_right _ (List.mem_of_getElem? (i := 81) rfl))) rfl
theorem k_fl_M_code : Cond.fieldLink RM 26 RM "code" "I" ∈ wG := wG_in (List.mem_append_right _ (List.mem_append_right _ (List.mem_of_getElem? (i := 82) rfl))) rfl
theorem k_fl_M_bits : Cond.fieldLink RM 7 RM "bits" "[Z" ∈ wG := wG_in (List.mem_append_right _ (List.mem_append_right _ (List.mem_of_getElem? (i := 83) rfl))) rfl
theorem k_fl_M_product : Cond.fieldLink RM 13 RM "product" "[Z" ∈ wG := wG_in (List.mem_append_right _ (List.mem_append_right _ (List.mem_of_getElem? (i := 84) rfl))) rfl
theorem k_fl_M_answer : Cond.fieldLink RM 16 RM "answer" "[Z" ∈ wG := wG_in (List.mem_append_right _ (List.mem_append_right _ (List.mem_of_getElem? (i := 85) rfl))) rfl
theorem k_fl_M_rest : Cond.fieldLink RM 19 RM "rest" "[Z" ∈ wG := wG_in (List.mem_append_right _ (List.mem_append_right _ (List.mem_of_getElem? (i := 86) rfl))) rfl
theorem k_fl_M_digits : Cond.fieldLink RM 22 RM "digits" "[I" ∈ wG := wG_in (List.mem_append_right _ (List.mem_append_right _ (List.mem_of_getElem? (i := 87) rfl))) rfl
theorem k_fl_M_written : Cond.fieldLink RM 71 RM "written" "I" ∈ wG := wG_in (List.mem_append_right _ (List.mem_append_right _ (List.mem_of_getElem? (i := 88) rfl))) rfl
theorem k_ac_boolean : Cond.arrayClass .boolean ∈ wG := wG_in (List.mem_append_right _ (List.mem_append_right _ (List.mem_of_getElem? (i := 104) rfl))) rfl
theorem k_ml_L_74 : Cond.methodLink RL 74 y_M_thrown ∈ wG := wG_in (List.mem_append_right _ (List.mem_append_right _ (List.mem_of_getElem? (i := 105) rfl))) rfl
theorem k_im_M_thrown : Cond.instanceMethod y_M_thrown ∈ wG := wG_in (List.mem_append_right _ (List.mem_append_right _ (List.mem_of_getElem? (i := 106) rfl))) rfl
theorem k_se_M_thrown : Cond.selects RM y_M_thrown y_M_thrown ∈ wG := wG_in (List.mem_append_right _ (List.mem_append_right _ (List.mem_of_getElem? (i := 107) rfl))) rfl
theorem k_M_thrown : Cond.code y_M_thrown b_M_thrown 1 (some .int) ∈ wG := wG_in (List.mem_append_right _ (List.mem_append_right _ (List.mem_of_getElem? (i := 108) rfl))) rfl
theorem k_ml_L_73 : Cond.methodLink RL 73 y_M_set ∈ wG := wG_in (List.mem_append_right _ (List.mem_append_right _ (List.mem_of_getElem? (i := 109) rfl))) rfl
theorem k_im_M_set : Cond.instanceMethod y_M_set ∈ wG := wG_in (List.mem_append_right _ (List.mem_append_right _ (List.mem_of_getElem? (i := 110) rfl))) rfl
theorem k_se_M_set : Cond.selects RM y_M_set y_M_set ∈ wG := wG_in (List.mem_append_right _ (List.mem_append_right _ (List.mem_of_getElem? (i := 111) rfl))) rfl
theorem k_M_set : Cond.code y_M_set b_M_set 7 none ∈ wG := wG_in (List.mem_append_right _ (List.mem_append_right _ (List.mem_of_getElem? (i := 112) rfl))) rfl
theorem k_ml_M_30 : Cond.methodLink RM 30 y_M_none ∈ wG := wG_in (List.mem_append_right _ (List.mem_append_right _ (List.mem_of_getElem? (i := 113) rfl))) rfl
theorem k_st_M_none : Cond.static y_M_none ∈ wG := wG_in (List.mem_append_right _ (List.mem_append_right _ (List.mem_of_getElem? (i := 114) rfl))) rfl
theorem k_M_none : Cond.code y_M_none b_M_none 1 (some .boolean) ∈ wG := wG_in (List.mem_append_right _ (List.mem_append_right _ (List.mem_of_getElem? (i := 115) rfl))) rfl
theorem k_ml_L_81 : Cond.methodLink RL 81 y_M_half ∈ wG := wG_in (List.mem_append_right _ (List.mem_append_right _ (List.mem_of_getElem? (i := 116) rfl))) rfl
theorem k_im_M_half : Cond.instanceMethod y_M_half ∈ wG := wG_in (List.mem_append_right _ (List.mem_append_right _ (List.mem_of_getElem? (i := 117) rfl))) rfl
theorem k_se_M_half : Cond.selects RM y_M_half y_M_half ∈ wG := wG_in (List.mem_append_right _ (List.mem_append_right _ (List.mem_of_getElem? (i := 118) rfl))) rfl
theorem k_M_half : Cond.code y_M_half b_M_half 6 (some .long) ∈ wG := wG_in (List.mem_append_right _ (List.mem_append_right _ (List.mem_of_getElem? (i := 119) rfl))) rfl
theorem k_cl_M_34 : Cond.constantLong RM 34 2 ∈ wG := wG_in (List.mem_append_right _ (List.mem_append_right _ (List.mem_of_getElem? (i := 120) rfl))) rfl
theorem k_ml_L_85 : Cond.methodLink RL 85 y_M_add ∈ wG := wG_in (List.mem_append_right _ (List.mem_append_right _ (List.mem_of_getElem? (i := 121) rfl))) rfl
theorem k_im_M_add : Cond.instanceMethod y_M_add ∈ wG := wG_in (List.mem_append_right _ (List.mem_append_right _ (List.mem_of_getElem? (i := 122) rfl))) rfl
theorem k_se_M_add : Cond.selects RM y_M_add y_M_add ∈ wG := wG_in (List.mem_append_right _ (List.mem_append_right _ (List.mem_of_getElem? (i := 123) rfl))) rfl
theorem k_M_add : Cond.code y_M_add b_M_add 5 (some .boolean) ∈ wG := wG_in (List.mem_append_right _ (List.mem_append_right _ (List.mem_of_getElem? (i := 124) rfl))) rfl
theorem k_ml_M_36 : Cond.methodLink RM 36 y_M_copy ∈ wG := wG_in (List.mem_append_right _ (List.mem_append_right _ (List.mem_of_getElem? (i := 125) rfl))) rfl
theorem k_im_M_copy : Cond.instanceMethod y_M_copy ∈ wG := wG_in (List.mem_append_right _ (List.mem_append_right _ (List.mem_of_getElem? (i := 127) rfl))) rfl
theorem k_M_copy : Cond.code y_M_copy b_M_copy 4 none ∈ wG := wG_in (List.mem_append_right _ (List.mem_append_right _ (List.mem_of_getElem? (i := 128) rfl))) rfl
theorem k_ml_M_40 : Cond.methodLink RM 40 y_M_join ∈ wG := wG_in (List.mem_append_right _ (List.mem_append_right _ (List.mem_of_getElem? (i := 129) rfl))) rfl
theorem k_im_M_join : Cond.instanceMethod y_M_join ∈ wG := wG_in (List.mem_append_right _ (List.mem_append_right _ (List.mem_of_getElem? (i := 131) rfl))) rfl
theorem k_M_join : Cond.code y_M_join b_M_join 7 (some .boolean) ∈ wG := wG_in (List.mem_append_right _ (List.mem_append_right _ (List.mem_of_getElem? (i := 132) rfl))) rfl
theorem k_ml_L_88 : Cond.methodLink RL 88 y_M_subtract ∈ wG := wG_in (List.mem_append_right _ (List.mem_append_right _ (List.mem_of_getElem? (i := 133) rfl))) rfl
theorem k_im_M_subtract : Cond.instanceMethod y_M_subtract ∈ wG := wG_in (List.mem_append_right _ (List.mem_append_right _ (List.mem_of_getElem? (i := 134) rfl))) rfl
theorem k_se_M_subtract : Cond.selects RM y_M_subtract y_M_subtract ∈ wG := wG_in (List.mem_append_right _ (List.mem_append_right _ (List.mem_of_getElem? (i := 135) rfl))) rfl
theorem k_M_subtract : Cond.code y_M_subtract b_M_subtract 5 (some .boolean) ∈ wG := wG_in (List.mem_append_right _ (List.mem_append_right _ (List.mem_of_getElem? (i := 136) rfl))) rfl
theorem k_ml_L_92 : Cond.methodLink RL 92 y_M_multiply ∈ wG := wG_in (List.mem_append_right _ (List.mem_append_right _ (List.mem_of_getElem? (i := 137) rfl))) rfl
theorem k_im_M_multiply : Cond.instanceMethod y_M_multiply ∈ wG := wG_in (List.mem_append_right _ (List.mem_append_right _ (List.mem_of_getElem? (i := 138) rfl))) rfl
theorem k_se_M_multiply : Cond.selects RM y_M_multiply y_M_multiply ∈ wG := wG_in (List.mem_append_right _ (List.mem_append_right _ (List.mem_of_getElem? (i := 139) rfl))) rfl
theorem k_M_multiply : Cond.code y_M_multiply b_M_multiply 5 none ∈ wG := wG_in (List.mem_append_right _ (List.mem_append_right _ (List.mem_of_getElem? (i := 140) rfl))) rfl
theorem k_ml_M_44 : Cond.methodLink RM 44 y_M_findProduct ∈ wG := wG_in (List.mem_append_right _ (List.mem_append_right _ (List.mem_of_getElem? (i := 141) rfl))) rfl
theorem k_im_M_findProduct : Cond.instanceMethod y_M_findProduct ∈ wG := wG_in (List.mem_append_right _ (List.mem_append_right _ (List.mem_of_getElem? (i := 143) rfl))) rfl
theorem k_M_findProduct : Cond.code y_M_findProduct b_M_findProduct 8 none ∈ wG := wG_in (List.mem_append_right _ (List.mem_append_right _ (List.mem_of_getElem? (i := 144) rfl))) rfl
theorem k_ml_M_47 : Cond.methodLink RM 47 y_M_take ∈ wG := wG_in (List.mem_append_right _ (List.mem_append_right _ (List.mem_of_getElem? (i := 145) rfl))) rfl
theorem k_im_M_take : Cond.instanceMethod y_M_take ∈ wG := wG_in (List.mem_append_right _ (List.mem_append_right _ (List.mem_of_getElem? (i := 147) rfl))) rfl
theorem k_M_take : Cond.code y_M_take b_M_take 5 none ∈ wG := wG_in (List.mem_append_right _ (List.mem_append_right _ (List.mem_of_getElem? (i := 148) rfl))) rfl
theorem k_ml_L_95 : Cond.methodLink RL 95 y_M_divide ∈ wG := wG_in (List.mem_append_right _ (List.mem_append_right _ (List.mem_of_getElem? (i := 149) rfl))) rfl
theorem k_im_M_divide : Cond.instanceMethod y_M_divide ∈ wG := wG_in (List.mem_append_right _ (List.mem_append_right _ (List.mem_of_getElem? (i := 150) rfl))) rfl
theorem k_se_M_divide : Cond.selects RM y_M_divide y_M_divide ∈ wG := wG_in (List.mem_append_right _ (List.mem_append_right _ (List.mem_of_getElem? (i := 151) rfl))) rfl
theorem k_M_divide : Cond.code y_M_divide b_M_divide 7 none ∈ wG := wG_in (List.mem_append_right _ (List.mem_append_right _ (List.mem_of_getElem? (i := 152) rfl))) rfl
theorem k_ml_M_55 : Cond.methodLink RM 55 y_M_clearRest ∈ wG := wG_in (List.mem_append_right _ (List.mem_append_right _ (List.mem_of_getElem? (i := 153) rfl))) rfl
theorem k_im_M_clearRest : Cond.instanceMethod y_M_clearRest ∈ wG := wG_in (List.mem_append_right _ (List.mem_append_right _ (List.mem_of_getElem? (i := 155) rfl))) rfl
theorem k_M_clearRest : Cond.code y_M_clearRest b_M_clearRest 2 none ∈ wG := wG_in (List.mem_append_right _ (List.mem_append_right _ (List.mem_of_getElem? (i := 156) rfl))) rfl
theorem k_ml_M_58 : Cond.methodLink RM 58 y_M_bring ∈ wG := wG_in (List.mem_append_right _ (List.mem_append_right _ (List.mem_of_getElem? (i := 157) rfl))) rfl
theorem k_im_M_bring : Cond.instanceMethod y_M_bring ∈ wG := wG_in (List.mem_append_right _ (List.mem_append_right _ (List.mem_of_getElem? (i := 159) rfl))) rfl
theorem k_M_bring : Cond.code y_M_bring b_M_bring 3 none ∈ wG := wG_in (List.mem_append_right _ (List.mem_append_right _ (List.mem_of_getElem? (i := 160) rfl))) rfl
theorem k_ml_M_62 : Cond.methodLink RM 62 y_M_takeAway ∈ wG := wG_in (List.mem_append_right _ (List.mem_append_right _ (List.mem_of_getElem? (i := 161) rfl))) rfl
theorem k_im_M_takeAway : Cond.instanceMethod y_M_takeAway ∈ wG := wG_in (List.mem_append_right _ (List.mem_append_right _ (List.mem_of_getElem? (i := 163) rfl))) rfl
theorem k_M_takeAway : Cond.code y_M_takeAway b_M_takeAway 7 (some .boolean) ∈ wG := wG_in (List.mem_append_right _ (List.mem_append_right _ (List.mem_of_getElem? (i := 164) rfl))) rfl
theorem k_ml_M_51 : Cond.methodLink RM 51 y_M_lower ∈ wG := wG_in (List.mem_append_right _ (List.mem_append_right _ (List.mem_of_getElem? (i := 165) rfl))) rfl
theorem k_im_M_lower : Cond.instanceMethod y_M_lower ∈ wG := wG_in (List.mem_append_right _ (List.mem_append_right _ (List.mem_of_getElem? (i := 167) rfl))) rfl
theorem k_M_lower : Cond.code y_M_lower b_M_lower 3 (some .boolean) ∈ wG := wG_in (List.mem_append_right _ (List.mem_append_right _ (List.mem_of_getElem? (i := 168) rfl))) rfl
theorem k_ml_L_99 : Cond.methodLink RL 99 y_M_root ∈ wG := wG_in (List.mem_append_right _ (List.mem_append_right _ (List.mem_of_getElem? (i := 169) rfl))) rfl
theorem k_im_M_root : Cond.instanceMethod y_M_root ∈ wG := wG_in (List.mem_append_right _ (List.mem_append_right _ (List.mem_of_getElem? (i := 170) rfl))) rfl
theorem k_se_M_root : Cond.selects RM y_M_root y_M_root ∈ wG := wG_in (List.mem_append_right _ (List.mem_append_right _ (List.mem_of_getElem? (i := 171) rfl))) rfl
theorem k_M_root : Cond.code y_M_root b_M_root 7 none ∈ wG := wG_in (List.mem_append_right _ (List.mem_append_right _ (List.mem_of_getElem? (i := 172) rfl))) rfl
theorem k_ml_L_102 : Cond.methodLink RL 102 y_M_shift ∈ wG := wG_in (List.mem_append_right _ (List.mem_append_right _ (List.mem_of_getElem? (i := 173) rfl))) rfl
theorem k_im_M_shift : Cond.instanceMethod y_M_shift ∈ wG := wG_in (List.mem_append_right _ (List.mem_append_right _ (List.mem_of_getElem? (i := 174) rfl))) rfl
theorem k_se_M_shift : Cond.selects RM y_M_shift y_M_shift ∈ wG := wG_in (List.mem_append_right _ (List.mem_append_right _ (List.mem_of_getElem? (i := 175) rfl))) rfl
theorem k_M_shift : Cond.code y_M_shift b_M_shift 4 (some .boolean) ∈ wG := wG_in (List.mem_append_right _ (List.mem_append_right _ (List.mem_of_getElem? (i := 176) rfl))) rfl
theorem k_ml_M_67 : Cond.methodLink RM 67 y_M_move ∈ wG := wG_in (List.mem_append_right _ (List.mem_append_right _ (List.mem_of_getElem? (i := 177) rfl))) rfl
theorem k_im_M_move : Cond.instanceMethod y_M_move ∈ wG := wG_in (List.mem_append_right _ (List.mem_append_right _ (List.mem_of_getElem? (i := 179) rfl))) rfl
theorem k_M_move : Cond.code y_M_move b_M_move 9 (some .boolean) ∈ wG := wG_in (List.mem_append_right _ (List.mem_append_right _ (List.mem_of_getElem? (i := 180) rfl))) rfl
theorem k_cl_M_65 : Cond.constantLong RM 65 128 ∈ wG := wG_in (List.mem_append_right _ (List.mem_append_right _ (List.mem_of_getElem? (i := 181) rfl))) rfl
theorem k_ml_L_105 : Cond.methodLink RL 105 y_M_jam ∈ wG := wG_in (List.mem_append_right _ (List.mem_append_right _ (List.mem_of_getElem? (i := 182) rfl))) rfl
theorem k_im_M_jam : Cond.instanceMethod y_M_jam ∈ wG := wG_in (List.mem_append_right _ (List.mem_append_right _ (List.mem_of_getElem? (i := 183) rfl))) rfl
theorem k_se_M_jam : Cond.selects RM y_M_jam y_M_jam ∈ wG := wG_in (List.mem_append_right _ (List.mem_append_right _ (List.mem_of_getElem? (i := 184) rfl))) rfl
theorem k_M_jam : Cond.code y_M_jam b_M_jam 4 none ∈ wG := wG_in (List.mem_append_right _ (List.mem_append_right _ (List.mem_of_getElem? (i := 185) rfl))) rfl
theorem k_ml_L_109 : Cond.methodLink RL 109 y_M_zeros ∈ wG := wG_in (List.mem_append_right _ (List.mem_append_right _ (List.mem_of_getElem? (i := 186) rfl))) rfl
theorem k_im_M_zeros : Cond.instanceMethod y_M_zeros ∈ wG := wG_in (List.mem_append_right _ (List.mem_append_right _ (List.mem_of_getElem? (i := 187) rfl))) rfl
theorem k_se_M_zeros : Cond.selects RM y_M_zeros y_M_zeros ∈ wG := wG_in (List.mem_append_right _ (List.mem_append_right _ (List.mem_of_getElem? (i := 188) rfl))) rfl
theorem k_M_zeros : Cond.code y_M_zeros b_M_zeros 3 (some .int) ∈ wG := wG_in (List.mem_append_right _ (List.mem_append_right _ (List.mem_of_getElem? (i := 189) rfl))) rfl
theorem k_ml_L_113 : Cond.methodLink RL 113 y_M_compare ∈ wG := wG_in (List.mem_append_right _ (List.mem_append_right _ (List.mem_of_getElem? (i := 190) rfl))) rfl
theorem k_im_M_compare : Cond.instanceMethod y_M_compare ∈ wG := wG_in (List.mem_append_right _ (List.mem_append_right _ (List.mem_of_getElem? (i := 191) rfl))) rfl
theorem k_se_M_compare : Cond.selects RM y_M_compare y_M_compare ∈ wG := wG_in (List.mem_append_right _ (List.mem_append_right _ (List.mem_of_getElem? (i := 192) rfl))) rfl
theorem k_M_compare : Cond.code y_M_compare b_M_compare 7 (some .int) ∈ wG := wG_in (List.mem_append_right _ (List.mem_append_right _ (List.mem_of_getElem? (i := 193) rfl))) rfl
theorem k_ml_L_116 : Cond.methodLink RL 116 y_M_digits ∈ wG := wG_in (List.mem_append_right _ (List.mem_append_right _ (List.mem_of_getElem? (i := 194) rfl))) rfl
theorem k_im_M_digits : Cond.instanceMethod y_M_digits ∈ wG := wG_in (List.mem_append_right _ (List.mem_append_right _ (List.mem_of_getElem? (i := 195) rfl))) rfl
theorem k_se_M_digits : Cond.selects RM y_M_digits y_M_digits ∈ wG := wG_in (List.mem_append_right _ (List.mem_append_right _ (List.mem_of_getElem? (i := 196) rfl))) rfl
theorem k_M_digits : Cond.code y_M_digits b_M_digits 5 (some .int) ∈ wG := wG_in (List.mem_append_right _ (List.mem_append_right _ (List.mem_of_getElem? (i := 197) rfl))) rfl
theorem k_ml_L_120 : Cond.methodLink RL 120 y_M_digit ∈ wG := wG_in (List.mem_append_right _ (List.mem_append_right _ (List.mem_of_getElem? (i := 198) rfl))) rfl
theorem k_im_M_digit : Cond.instanceMethod y_M_digit ∈ wG := wG_in (List.mem_append_right _ (List.mem_append_right _ (List.mem_of_getElem? (i := 199) rfl))) rfl
theorem k_se_M_digit : Cond.selects RM y_M_digit y_M_digit ∈ wG := wG_in (List.mem_append_right _ (List.mem_append_right _ (List.mem_of_getElem? (i := 200) rfl))) rfl
theorem k_M_digit : Cond.code y_M_digit b_M_digit 2 (some .int) ∈ wG := wG_in (List.mem_append_right _ (List.mem_append_right _ (List.mem_of_getElem? (i := 201) rfl))) rfl
theorem k_ml_L_123 : Cond.methodLink RL 123 y_M_next ∈ wG := wG_in (List.mem_append_right _ (List.mem_append_right _ (List.mem_of_getElem? (i := 202) rfl))) rfl
theorem k_im_M_next : Cond.instanceMethod y_M_next ∈ wG := wG_in (List.mem_append_right _ (List.mem_append_right _ (List.mem_of_getElem? (i := 203) rfl))) rfl
theorem k_se_M_next : Cond.selects RM y_M_next y_M_next ∈ wG := wG_in (List.mem_append_right _ (List.mem_append_right _ (List.mem_of_getElem? (i := 204) rfl))) rfl
theorem k_M_next : Cond.code y_M_next b_M_next 5 (some .boolean) ∈ wG := wG_in (List.mem_append_right _ (List.mem_append_right _ (List.mem_of_getElem? (i := 205) rfl))) rfl
theorem k_cl_L_66 : Cond.constantLong RL 66 4294967295 ∈ wG := wG_in (List.mem_append_right _ (List.mem_append_right _ (List.mem_of_getElem? (i := 206) rfl))) rfl
theorem k_se_X_store : Cond.selects RX y_X_store y_X_store ∈ wG := wG_in (List.mem_append_left _ (List.mem_of_getElem? (i := 1) rfl)) rfl
theorem k_se_X_storeProduct : Cond.selects RX y_X_storeProduct y_X_storeProduct ∈ wG := wG_in (List.mem_append_left _ (List.mem_of_getElem? (i := 2) rfl)) rfl
theorem k_se_X_storeQuotient : Cond.selects RX y_X_storeQuotient y_X_storeQuotient ∈ wG := wG_in (List.mem_append_left _ (List.mem_of_getElem? (i := 3) rfl)) rfl
theorem k_se_X_storeRoot : Cond.selects RX y_X_storeRoot y_X_storeRoot ∈ wG := wG_in (List.mem_append_left _ (List.mem_of_getElem? (i := 4) rfl)) rfl
theorem k_se_X_storeShiftedUp : Cond.selects RX y_X_storeShiftedUp y_X_storeShiftedUp ∈ wG := wG_in (List.mem_append_left _ (List.mem_of_getElem? (i := 5) rfl)) rfl
theorem k_se_X_storeShiftedDown : Cond.selects RX y_X_storeShiftedDown y_X_storeShiftedDown ∈ wG := wG_in (List.mem_append_left _ (List.mem_of_getElem? (i := 6) rfl)) rfl
theorem k_se_X_splitIntoParts : Cond.selects RX y_X_splitIntoParts y_X_splitIntoParts ∈ wG := wG_in (List.mem_append_left _ (List.mem_of_getElem? (i := 7) rfl)) rfl
theorem k_se_X_takeLowestDigit : Cond.selects RX y_X_takeLowestDigit y_X_takeLowestDigit ∈ wG := wG_in (List.mem_append_left _ (List.mem_of_getElem? (i := 8) rfl)) rfl
theorem k_se_X_partsAreZero : Cond.selects RX y_X_partsAreZero y_X_partsAreZero ∈ wG := wG_in (List.mem_append_left _ (List.mem_of_getElem? (i := 9) rfl)) rfl
theorem k_se_M_copy : Cond.selects RM y_M_copy y_M_copy ∈ wG := wG_in (List.mem_append_left _ (List.mem_of_getElem? (i := 10) rfl)) rfl
theorem k_se_M_join : Cond.selects RM y_M_join y_M_join ∈ wG := wG_in (List.mem_append_left _ (List.mem_of_getElem? (i := 11) rfl)) rfl
theorem k_se_M_findProduct : Cond.selects RM y_M_findProduct y_M_findProduct ∈ wG := wG_in (List.mem_append_left _ (List.mem_of_getElem? (i := 12) rfl)) rfl
theorem k_se_M_take : Cond.selects RM y_M_take y_M_take ∈ wG := wG_in (List.mem_append_left _ (List.mem_of_getElem? (i := 13) rfl)) rfl
theorem k_se_M_clearRest : Cond.selects RM y_M_clearRest y_M_clearRest ∈ wG := wG_in (List.mem_append_left _ (List.mem_of_getElem? (i := 14) rfl)) rfl
theorem k_se_M_bring : Cond.selects RM y_M_bring y_M_bring ∈ wG := wG_in (List.mem_append_left _ (List.mem_of_getElem? (i := 15) rfl)) rfl
theorem k_se_M_takeAway : Cond.selects RM y_M_takeAway y_M_takeAway ∈ wG := wG_in (List.mem_append_left _ (List.mem_of_getElem? (i := 16) rfl)) rfl
theorem k_se_M_lower : Cond.selects RM y_M_lower y_M_lower ∈ wG := wG_in (List.mem_append_left _ (List.mem_of_getElem? (i := 17) rfl)) rfl
theorem k_se_M_move : Cond.selects RM y_M_move y_M_move ∈ wG := wG_in (List.mem_append_left _ (List.mem_of_getElem? (i := 18) rfl)) rfl
