def w_T_init : List Cond := .code y_T_init b_T_init 2 none :: ([.methodLink R_T 3 objectInit, .instanceMethod objectInit, .code objectInit ⟨#[0xb1]⟩ 1 none, .classLink R_T 9 R_W, .fieldLink R_T 11 "TripleSums" "sums" "[LTripleSums$Whole;", .instantiable R_W 1, .initialized R_W, .instanceMethod y_W_init, .code y_W_init b_W_init 1 none, .methodLink R_W 3 objectInit, .arrayClass .long, .fieldLink R_W 9 "TripleSums$Whole" "limbs" "[J", .fieldLink R_T 16 "TripleSums" "product" "LTripleSums$Whole;", .fieldLink R_T 20 "TripleSums" "result" "LTripleSums$Whole;", .fieldLink R_T 23 "TripleSums" "size" "LTripleSums$Whole;"] ++ v_T ++ v_W)
def w_T_clear : List Cond := .code y_T_clear b_T_clear 2 none :: ([.methodLink R_T 26 y_T_sumAt, .instanceMethod y_T_sumAt, .selects R_T y_T_sumAt y_T_sumAt, .initialized R_T, .code y_T_sumAt b_T_sumAt 2 (some (.object "TripleSums$Whole")), .fieldLink R_T 11 "TripleSums" "sums" "[LTripleSums$Whole;", .methodLink R_T 30 y_W_setZero, .instanceMethod y_W_setZero, .selects R_W y_W_setZero y_W_setZero, .initialized R_W, .code y_W_setZero b_W_setZero 1 none, .fieldLink R_W 9 "TripleSums$Whole" "limbs" "[J", .methodLink R_W 15 y_A_fill, .static y_A_fill, .initialized R_A, .code y_A_fill b_A_fill 5 none] ++ v_T ++ v_W)
def w_T_sumAt : List Cond := .code y_T_sumAt b_T_sumAt 2 (some (.object "TripleSums$Whole")) :: ([.fieldLink R_T 11 "TripleSums" "sums" "[LTripleSums$Whole;"] ++ v_T)
def w_T_add : List Cond := .code y_T_add b_T_add 11 none :: ([.methodLink R_T 26 y_T_sumAt, .instanceMethod y_T_sumAt, .selects R_T y_T_sumAt y_T_sumAt, .initialized R_T, .code y_T_sumAt b_T_sumAt 2 (some (.object "TripleSums$Whole")), .fieldLink R_T 11 "TripleSums" "sums" "[LTripleSums$Whole;", .methodLink R_T 33 y_T_refuseUnlessFinite, .static y_T_refuseUnlessFinite, .code y_T_refuseUnlessFinite b_T_refuseUnlessFinite 2 none, .methodLink R_T 105 y_T_exponentOf, .static y_T_exponentOf, .code y_T_exponentOf b_T_exponentOf 2 (some .int), .methodLink R_T 37 y_T_refuseUnlessInRange, .static y_T_refuseUnlessInRange, .code y_T_refuseUnlessInRange b_T_refuseUnlessInRange 1 none, .constant R_T 113 (-1000000), .constant R_T 114 (1000000), .fieldLink R_T 16 "TripleSums" "product" "LTripleSums$Whole;", .methodLink R_T 41 y_T_shiftOf, .static y_T_shiftOf, .code y_T_shiftOf b_T_shiftOf 2 (some .int), .methodLink R_T 121 Lib.Math.max.name, .static Lib.Math.max.name, .initialized "java/lang/Math", .code Lib.Math.max.name Lib.Math.max.code 2 (some .int), .methodLink R_T 45 y_W_setPowerOfTwo, .instanceMethod y_W_setPowerOfTwo, .selects R_W y_W_setPowerOfTwo y_W_setPowerOfTwo, .initialized R_W, .code y_W_setPowerOfTwo b_W_setPowerOfTwo 3 none, .methodLink R_W 21 y_W_setZero, .instanceMethod y_W_setZero, .selects R_W y_W_setZero y_W_setZero, .code y_W_setZero b_W_setZero 1 none, .fieldLink R_W 9 "TripleSums$Whole" "limbs" "[J", .methodLink R_W 15 y_A_fill, .static y_A_fill, .initialized R_A, .code y_A_fill b_A_fill 5 none, .methodLink R_T 48 y_T_significandOf, .static y_T_significandOf, .code y_T_significandOf b_T_significandOf 4 (some .long), .constantLong R_T 117 (4503599627370495), .constantLong R_T 119 (4503599627370496), .methodLink R_T 52 y_W_multiply, .instanceMethod y_W_multiply, .selects R_W y_W_multiply y_W_multiply, .code y_W_multiply b_W_multiply 12 none, .constantLong R_W 30 (4294967295), .methodLink R_T 55 y_W_increase, .instanceMethod y_W_increase, .selects R_W y_W_increase y_W_increase, .code y_W_increase b_W_increase 8 none] ++ v_T ++ v_W)
def w_T_refuseUnlessFinite : List Cond := .code y_T_refuseUnlessFinite b_T_refuseUnlessFinite 2 none :: ([.methodLink R_T 105 y_T_exponentOf, .static y_T_exponentOf, .initialized R_T, .code y_T_exponentOf b_T_exponentOf 2 (some .int)])
def w_T_exponentOf : List Cond := .code y_T_exponentOf b_T_exponentOf 2 (some .int) :: ([])
def w_T_refuseUnlessInRange : List Cond := .code y_T_refuseUnlessInRange b_T_refuseUnlessInRange 1 none :: ([.constant R_T 113 (-1000000), .constant R_T 114 (1000000)])
def w_T_shiftOf : List Cond := .code y_T_shiftOf b_T_shiftOf 2 (some .int) :: ([.methodLink R_T 105 y_T_exponentOf, .static y_T_exponentOf, .initialized R_T, .code y_T_exponentOf b_T_exponentOf 2 (some .int), .methodLink R_T 121 Lib.Math.max.name, .static Lib.Math.max.name, .initialized "java/lang/Math", .code Lib.Math.max.name Lib.Math.max.code 2 (some .int)])
def w_T_significandOf : List Cond := .code y_T_significandOf b_T_significandOf 4 (some .long) :: ([.constantLong R_T 117 (4503599627370495), .methodLink R_T 105 y_T_exponentOf, .static y_T_exponentOf, .initialized R_T, .code y_T_exponentOf b_T_exponentOf 2 (some .int), .constantLong R_T 119 (4503599627370496)])
def w_T_plus : List Cond := .code y_T_plus b_T_plus 6 none :: ([.methodLink R_T 26 y_T_sumAt, .instanceMethod y_T_sumAt, .selects R_T y_T_sumAt y_T_sumAt, .initialized R_T, .code y_T_sumAt b_T_sumAt 2 (some (.object "TripleSums$Whole")), .fieldLink R_T 11 "TripleSums" "sums" "[LTripleSums$Whole;", .methodLink R_T 37 y_T_refuseUnlessInRange, .static y_T_refuseUnlessInRange, .code y_T_refuseUnlessInRange b_T_refuseUnlessInRange 1 none, .constant R_T 113 (-1000000), .constant R_T 114 (1000000), .fieldLink R_T 20 "TripleSums" "result" "LTripleSums$Whole;", .methodLink R_T 59 y_W_copyFrom, .instanceMethod y_W_copyFrom, .selects R_W y_W_copyFrom y_W_copyFrom, .initialized R_W, .code y_W_copyFrom b_W_copyFrom 2 none, .fieldLink R_W 9 "TripleSums$Whole" "limbs" "[J", .methodLink R_W 24 arraycopyName, .native arraycopyName, .static arraycopyName, .initialized "java/lang/System", .methodLink R_T 55 y_W_increase, .instanceMethod y_W_increase, .selects R_W y_W_increase y_W_increase, .code y_W_increase b_W_increase 8 none, .constantLong R_W 30 (4294967295), .methodLink R_T 63 y_T_sizeOf, .instanceMethod y_T_sizeOf, .selects R_T y_T_sizeOf y_T_sizeOf, .code y_T_sizeOf b_T_sizeOf 2 (some (.object "TripleSums$Whole")), .fieldLink R_T 23 "TripleSums" "size" "LTripleSums$Whole;", .methodLink R_T 30 y_W_setZero, .instanceMethod y_W_setZero, .selects R_W y_W_setZero y_W_setZero, .code y_W_setZero b_W_setZero 1 none, .methodLink R_W 15 y_A_fill, .static y_A_fill, .initialized R_A, .code y_A_fill b_A_fill 5 none, .methodLink R_T 78 y_W_signum, .instanceMethod y_W_signum, .selects R_W y_W_signum y_W_signum, .code y_W_signum b_W_signum 1 (some .int), .constantLong R_W 32 (2147483648), .methodLink R_W 34 y_W_highestPlace, .instanceMethod y_W_highestPlace, .selects R_W y_W_highestPlace y_W_highestPlace, .code y_W_highestPlace b_W_highestPlace 2 (some .int), .methodLink R_W 39 y_J_numberOfLeadingZeros, .static y_J_numberOfLeadingZeros, .initialized R_J, .code y_J_numberOfLeadingZeros b_J_numberOfLeadingZeros 3 (some .int), .methodLink R_J 308 y_I_numberOfLeadingZeros, .static y_I_numberOfLeadingZeros, .initialized R_I, .code y_I_numberOfLeadingZeros b_I_numberOfLeadingZeros 2 (some .int), .constant R_I 264 (65536), .constant R_W 38 (-100000), .methodLink R_T 67 y_W_highestPlace] ++ v_T ++ v_W)
def w_T_sizeOf : List Cond := .code y_T_sizeOf b_T_sizeOf 2 (some (.object "TripleSums$Whole")) :: ([.fieldLink R_T 23 "TripleSums" "size" "LTripleSums$Whole;", .methodLink R_T 30 y_W_setZero, .instanceMethod y_W_setZero, .selects R_W y_W_setZero y_W_setZero, .initialized R_W, .code y_W_setZero b_W_setZero 1 none, .fieldLink R_W 9 "TripleSums$Whole" "limbs" "[J", .methodLink R_W 15 y_A_fill, .static y_A_fill, .initialized R_A, .code y_A_fill b_A_fill 5 none, .methodLink R_T 78 y_W_signum, .instanceMethod y_W_signum, .selects R_W y_W_signum y_W_signum, .code y_W_signum b_W_signum 1 (some .int), .constantLong R_W 32 (2147483648), .methodLink R_W 34 y_W_highestPlace, .instanceMethod y_W_highestPlace, .selects R_W y_W_highestPlace y_W_highestPlace, .code y_W_highestPlace b_W_highestPlace 2 (some .int), .methodLink R_W 39 y_J_numberOfLeadingZeros, .static y_J_numberOfLeadingZeros, .initialized R_J, .code y_J_numberOfLeadingZeros b_J_numberOfLeadingZeros 3 (some .int), .methodLink R_J 308 y_I_numberOfLeadingZeros, .static y_I_numberOfLeadingZeros, .initialized R_I, .code y_I_numberOfLeadingZeros b_I_numberOfLeadingZeros 2 (some .int), .constant R_I 264 (65536), .constant R_W 38 (-100000), .methodLink R_T 55 y_W_increase, .instanceMethod y_W_increase, .selects R_W y_W_increase y_W_increase, .code y_W_increase b_W_increase 8 none, .constantLong R_W 30 (4294967295)] ++ v_T ++ v_W)
def w_T_sign : List Cond := .code y_T_sign b_T_sign 2 (some .int) :: ([.methodLink R_T 26 y_T_sumAt, .instanceMethod y_T_sumAt, .selects R_T y_T_sumAt y_T_sumAt, .initialized R_T, .code y_T_sumAt b_T_sumAt 2 (some (.object "TripleSums$Whole")), .fieldLink R_T 11 "TripleSums" "sums" "[LTripleSums$Whole;", .methodLink R_T 78 y_W_signum, .instanceMethod y_W_signum, .selects R_W y_W_signum y_W_signum, .initialized R_W, .code y_W_signum b_W_signum 1 (some .int), .fieldLink R_W 9 "TripleSums$Whole" "limbs" "[J", .constantLong R_W 32 (2147483648), .methodLink R_W 34 y_W_highestPlace, .instanceMethod y_W_highestPlace, .selects R_W y_W_highestPlace y_W_highestPlace, .code y_W_highestPlace b_W_highestPlace 2 (some .int), .methodLink R_W 39 y_J_numberOfLeadingZeros, .static y_J_numberOfLeadingZeros, .initialized R_J, .code y_J_numberOfLeadingZeros b_J_numberOfLeadingZeros 3 (some .int), .methodLink R_J 308 y_I_numberOfLeadingZeros, .static y_I_numberOfLeadingZeros, .initialized R_I, .code y_I_numberOfLeadingZeros b_I_numberOfLeadingZeros 2 (some .int), .constant R_I 264 (65536), .constant R_W 38 (-100000)] ++ v_T ++ v_W)
def w_T_compare : List Cond := .code y_T_compare b_T_compare 5 (some .int) :: ([.methodLink R_T 26 y_T_sumAt, .instanceMethod y_T_sumAt, .selects R_T y_T_sumAt y_T_sumAt, .initialized R_T, .code y_T_sumAt b_T_sumAt 2 (some (.object "TripleSums$Whole")), .fieldLink R_T 11 "TripleSums" "sums" "[LTripleSums$Whole;", .fieldLink R_T 20 "TripleSums" "result" "LTripleSums$Whole;", .methodLink R_T 59 y_W_copyFrom, .instanceMethod y_W_copyFrom, .selects R_W y_W_copyFrom y_W_copyFrom, .initialized R_W, .code y_W_copyFrom b_W_copyFrom 2 none, .fieldLink R_W 9 "TripleSums$Whole" "limbs" "[J", .methodLink R_W 24 arraycopyName, .native arraycopyName, .static arraycopyName, .initialized "java/lang/System", .methodLink R_T 55 y_W_increase, .instanceMethod y_W_increase, .selects R_W y_W_increase y_W_increase, .code y_W_increase b_W_increase 8 none, .constantLong R_W 30 (4294967295), .methodLink R_T 78 y_W_signum, .instanceMethod y_W_signum, .selects R_W y_W_signum y_W_signum, .code y_W_signum b_W_signum 1 (some .int), .constantLong R_W 32 (2147483648), .methodLink R_W 34 y_W_highestPlace, .instanceMethod y_W_highestPlace, .selects R_W y_W_highestPlace y_W_highestPlace, .code y_W_highestPlace b_W_highestPlace 2 (some .int), .methodLink R_W 39 y_J_numberOfLeadingZeros, .static y_J_numberOfLeadingZeros, .initialized R_J, .code y_J_numberOfLeadingZeros b_J_numberOfLeadingZeros 3 (some .int), .methodLink R_J 308 y_I_numberOfLeadingZeros, .static y_I_numberOfLeadingZeros, .initialized R_I, .code y_I_numberOfLeadingZeros b_I_numberOfLeadingZeros 2 (some .int), .constant R_I 264 (65536), .constant R_W 38 (-100000)] ++ v_T ++ v_W)
def w_T_compareSizes : List Cond := .code y_T_compareSizes b_T_compareSizes 6 (some .int) :: ([.methodLink R_T 26 y_T_sumAt, .instanceMethod y_T_sumAt, .selects R_T y_T_sumAt y_T_sumAt, .initialized R_T, .code y_T_sumAt b_T_sumAt 2 (some (.object "TripleSums$Whole")), .fieldLink R_T 11 "TripleSums" "sums" "[LTripleSums$Whole;", .methodLink R_T 63 y_T_sizeOf, .instanceMethod y_T_sizeOf, .selects R_T y_T_sizeOf y_T_sizeOf, .code y_T_sizeOf b_T_sizeOf 2 (some (.object "TripleSums$Whole")), .fieldLink R_T 23 "TripleSums" "size" "LTripleSums$Whole;", .methodLink R_T 30 y_W_setZero, .instanceMethod y_W_setZero, .selects R_W y_W_setZero y_W_setZero, .initialized R_W, .code y_W_setZero b_W_setZero 1 none, .fieldLink R_W 9 "TripleSums$Whole" "limbs" "[J", .methodLink R_W 15 y_A_fill, .static y_A_fill, .initialized R_A, .code y_A_fill b_A_fill 5 none, .methodLink R_T 78 y_W_signum, .instanceMethod y_W_signum, .selects R_W y_W_signum y_W_signum, .code y_W_signum b_W_signum 1 (some .int), .constantLong R_W 32 (2147483648), .methodLink R_W 34 y_W_highestPlace, .instanceMethod y_W_highestPlace, .selects R_W y_W_highestPlace y_W_highestPlace, .code y_W_highestPlace b_W_highestPlace 2 (some .int), .methodLink R_W 39 y_J_numberOfLeadingZeros, .static y_J_numberOfLeadingZeros, .initialized R_J, .code y_J_numberOfLeadingZeros b_J_numberOfLeadingZeros 3 (some .int), .methodLink R_J 308 y_I_numberOfLeadingZeros, .static y_I_numberOfLeadingZeros, .initialized R_I, .code y_I_numberOfLeadingZeros b_I_numberOfLeadingZeros 2 (some .int), .constant R_I 264 (65536), .constant R_W 38 (-100000), .methodLink R_T 55 y_W_increase, .instanceMethod y_W_increase, .selects R_W y_W_increase y_W_increase, .code y_W_increase b_W_increase 8 none, .constantLong R_W 30 (4294967295)] ++ v_T ++ v_W)
def w_T_nearest : List Cond := .code y_T_nearest b_T_nearest 5 (some .long) :: ([.methodLink R_T 26 y_T_sumAt, .instanceMethod y_T_sumAt, .selects R_T y_T_sumAt y_T_sumAt, .initialized R_T, .code y_T_sumAt b_T_sumAt 2 (some (.object "TripleSums$Whole")), .fieldLink R_T 11 "TripleSums" "sums" "[LTripleSums$Whole;", .methodLink R_T 78 y_W_signum, .instanceMethod y_W_signum, .selects R_W y_W_signum y_W_signum, .initialized R_W, .code y_W_signum b_W_signum 1 (some .int), .fieldLink R_W 9 "TripleSums$Whole" "limbs" "[J", .constantLong R_W 32 (2147483648), .methodLink R_W 34 y_W_highestPlace, .instanceMethod y_W_highestPlace, .selects R_W y_W_highestPlace y_W_highestPlace, .code y_W_highestPlace b_W_highestPlace 2 (some .int), .methodLink R_W 39 y_J_numberOfLeadingZeros, .static y_J_numberOfLeadingZeros, .initialized R_J, .code y_J_numberOfLeadingZeros b_J_numberOfLeadingZeros 3 (some .int), .methodLink R_J 308 y_I_numberOfLeadingZeros, .static y_I_numberOfLeadingZeros, .initialized R_I, .code y_I_numberOfLeadingZeros b_I_numberOfLeadingZeros 2 (some .int), .constant R_I 264 (65536), .constant R_W 38 (-100000), .constantLong R_T 83 (-9223372036854775808), .methodLink R_T 63 y_T_sizeOf, .instanceMethod y_T_sizeOf, .selects R_T y_T_sizeOf y_T_sizeOf, .code y_T_sizeOf b_T_sizeOf 2 (some (.object "TripleSums$Whole")), .fieldLink R_T 23 "TripleSums" "size" "LTripleSums$Whole;", .methodLink R_T 30 y_W_setZero, .instanceMethod y_W_setZero, .selects R_W y_W_setZero y_W_setZero, .code y_W_setZero b_W_setZero 1 none, .methodLink R_W 15 y_A_fill, .static y_A_fill, .initialized R_A, .code y_A_fill b_A_fill 5 none, .methodLink R_T 55 y_W_increase, .instanceMethod y_W_increase, .selects R_W y_W_increase y_W_increase, .code y_W_increase b_W_increase 8 none, .constantLong R_W 30 (4294967295), .methodLink R_T 85 y_T_nearestToSize, .static y_T_nearestToSize, .code y_T_nearestToSize b_T_nearestToSize 5 (some .long), .methodLink R_T 67 y_W_highestPlace, .constantLong R_T 133 (9218868437227405312), .methodLink R_T 121 Lib.Math.max.name, .static Lib.Math.max.name, .initialized "java/lang/Math", .code Lib.Math.max.name Lib.Math.max.code 2 (some .int), .methodLink R_T 130 y_W_wordFrom, .instanceMethod y_W_wordFrom, .selects R_W y_W_wordFrom y_W_wordFrom, .code y_W_wordFrom b_W_wordFrom 7 (some .long), .constantLong R_W 48 (31), .methodLink R_W 50 y_W_limbAt, .instanceMethod y_W_limbAt, .selects R_W y_W_limbAt y_W_limbAt, .code y_W_limbAt b_W_limbAt 2 (some .long), .methodLink R_T 135 y_T_roundsUp, .static y_T_roundsUp, .code y_T_roundsUp b_T_roundsUp 5 (some .boolean), .methodLink R_T 93 y_W_lowestPlace, .instanceMethod y_W_lowestPlace, .selects R_W y_W_lowestPlace y_W_lowestPlace, .code y_W_lowestPlace b_W_lowestPlace 2 (some .int), .methodLink R_W 45 y_J_numberOfTrailingZeros, .static y_J_numberOfTrailingZeros, .code y_J_numberOfTrailingZeros b_J_numberOfTrailingZeros 3 (some .int), .methodLink R_J 311 y_I_numberOfTrailingZeros, .static y_I_numberOfTrailingZeros, .code y_I_numberOfTrailingZeros b_I_numberOfTrailingZeros 2 (some .int)] ++ v_T ++ v_W)
def w_T_nearestToSize : List Cond := .code y_T_nearestToSize b_T_nearestToSize 5 (some .long) :: ([.methodLink R_T 67 y_W_highestPlace, .instanceMethod y_W_highestPlace, .selects R_W y_W_highestPlace y_W_highestPlace, .initialized R_W, .code y_W_highestPlace b_W_highestPlace 2 (some .int), .fieldLink R_W 9 "TripleSums$Whole" "limbs" "[J", .methodLink R_W 39 y_J_numberOfLeadingZeros, .static y_J_numberOfLeadingZeros, .initialized R_J, .code y_J_numberOfLeadingZeros b_J_numberOfLeadingZeros 3 (some .int), .methodLink R_J 308 y_I_numberOfLeadingZeros, .static y_I_numberOfLeadingZeros, .initialized R_I, .code y_I_numberOfLeadingZeros b_I_numberOfLeadingZeros 2 (some .int), .constant R_I 264 (65536), .constant R_W 38 (-100000), .constantLong R_T 133 (9218868437227405312), .methodLink R_T 121 Lib.Math.max.name, .static Lib.Math.max.name, .initialized "java/lang/Math", .code Lib.Math.max.name Lib.Math.max.code 2 (some .int), .methodLink R_T 130 y_W_wordFrom, .instanceMethod y_W_wordFrom, .selects R_W y_W_wordFrom y_W_wordFrom, .code y_W_wordFrom b_W_wordFrom 7 (some .long), .constantLong R_W 48 (31), .methodLink R_W 50 y_W_limbAt, .instanceMethod y_W_limbAt, .selects R_W y_W_limbAt y_W_limbAt, .code y_W_limbAt b_W_limbAt 2 (some .long), .methodLink R_T 135 y_T_roundsUp, .static y_T_roundsUp, .initialized R_T, .code y_T_roundsUp b_T_roundsUp 5 (some .boolean), .methodLink R_T 93 y_W_lowestPlace, .instanceMethod y_W_lowestPlace, .selects R_W y_W_lowestPlace y_W_lowestPlace, .code y_W_lowestPlace b_W_lowestPlace 2 (some .int), .methodLink R_W 45 y_J_numberOfTrailingZeros, .static y_J_numberOfTrailingZeros, .code y_J_numberOfTrailingZeros b_J_numberOfTrailingZeros 3 (some .int), .methodLink R_J 311 y_I_numberOfTrailingZeros, .static y_I_numberOfTrailingZeros, .code y_I_numberOfTrailingZeros b_I_numberOfTrailingZeros 2 (some .int)] ++ v_W)
def w_T_roundsUp : List Cond := .code y_T_roundsUp b_T_roundsUp 5 (some .boolean) :: ([.methodLink R_T 130 y_W_wordFrom, .instanceMethod y_W_wordFrom, .selects R_W y_W_wordFrom y_W_wordFrom, .initialized R_W, .code y_W_wordFrom b_W_wordFrom 7 (some .long), .constantLong R_W 48 (31), .methodLink R_W 50 y_W_limbAt, .instanceMethod y_W_limbAt, .selects R_W y_W_limbAt y_W_limbAt, .code y_W_limbAt b_W_limbAt 2 (some .long), .fieldLink R_W 9 "TripleSums$Whole" "limbs" "[J", .methodLink R_T 93 y_W_lowestPlace, .instanceMethod y_W_lowestPlace, .selects R_W y_W_lowestPlace y_W_lowestPlace, .code y_W_lowestPlace b_W_lowestPlace 2 (some .int), .methodLink R_W 45 y_J_numberOfTrailingZeros, .static y_J_numberOfTrailingZeros, .initialized R_J, .code y_J_numberOfTrailingZeros b_J_numberOfTrailingZeros 3 (some .int), .methodLink R_J 311 y_I_numberOfTrailingZeros, .static y_I_numberOfTrailingZeros, .initialized R_I, .code y_I_numberOfTrailingZeros b_I_numberOfTrailingZeros 2 (some .int), .constant R_I 264 (65536), .constant R_W 38 (-100000)] ++ v_W)
def w_T_top : List Cond := .code y_T_top b_T_top 2 (some .int) :: ([.methodLink R_T 26 y_T_sumAt, .instanceMethod y_T_sumAt, .selects R_T y_T_sumAt y_T_sumAt, .initialized R_T, .code y_T_sumAt b_T_sumAt 2 (some (.object "TripleSums$Whole")), .fieldLink R_T 11 "TripleSums" "sums" "[LTripleSums$Whole;", .methodLink R_T 63 y_T_sizeOf, .instanceMethod y_T_sizeOf, .selects R_T y_T_sizeOf y_T_sizeOf, .code y_T_sizeOf b_T_sizeOf 2 (some (.object "TripleSums$Whole")), .fieldLink R_T 23 "TripleSums" "size" "LTripleSums$Whole;", .methodLink R_T 30 y_W_setZero, .instanceMethod y_W_setZero, .selects R_W y_W_setZero y_W_setZero, .initialized R_W, .code y_W_setZero b_W_setZero 1 none, .fieldLink R_W 9 "TripleSums$Whole" "limbs" "[J", .methodLink R_W 15 y_A_fill, .static y_A_fill, .initialized R_A, .code y_A_fill b_A_fill 5 none, .methodLink R_T 78 y_W_signum, .instanceMethod y_W_signum, .selects R_W y_W_signum y_W_signum, .code y_W_signum b_W_signum 1 (some .int), .constantLong R_W 32 (2147483648), .methodLink R_W 34 y_W_highestPlace, .instanceMethod y_W_highestPlace, .selects R_W y_W_highestPlace y_W_highestPlace, .code y_W_highestPlace b_W_highestPlace 2 (some .int), .methodLink R_W 39 y_J_numberOfLeadingZeros, .static y_J_numberOfLeadingZeros, .initialized R_J, .code y_J_numberOfLeadingZeros b_J_numberOfLeadingZeros 3 (some .int), .methodLink R_J 308 y_I_numberOfLeadingZeros, .static y_I_numberOfLeadingZeros, .initialized R_I, .code y_I_numberOfLeadingZeros b_I_numberOfLeadingZeros 2 (some .int), .constant R_I 264 (65536), .constant R_W 38 (-100000), .methodLink R_T 55 y_W_increase, .instanceMethod y_W_increase, .selects R_W y_W_increase y_W_increase, .code y_W_increase b_W_increase 8 none, .constantLong R_W 30 (4294967295), .methodLink R_T 67 y_W_highestPlace, .methodLink R_T 89 y_T_powerAt, .static y_T_powerAt, .code y_T_powerAt b_T_powerAt 1 (some .int), .constant R_T 127 (-100000)] ++ v_T ++ v_W)
def w_T_powerAt : List Cond := .code y_T_powerAt b_T_powerAt 1 (some .int) :: ([.constant R_T 127 (-100000)])
def w_T_bottom : List Cond := .code y_T_bottom b_T_bottom 2 (some .int) :: ([.methodLink R_T 26 y_T_sumAt, .instanceMethod y_T_sumAt, .selects R_T y_T_sumAt y_T_sumAt, .initialized R_T, .code y_T_sumAt b_T_sumAt 2 (some (.object "TripleSums$Whole")), .fieldLink R_T 11 "TripleSums" "sums" "[LTripleSums$Whole;", .methodLink R_T 63 y_T_sizeOf, .instanceMethod y_T_sizeOf, .selects R_T y_T_sizeOf y_T_sizeOf, .code y_T_sizeOf b_T_sizeOf 2 (some (.object "TripleSums$Whole")), .fieldLink R_T 23 "TripleSums" "size" "LTripleSums$Whole;", .methodLink R_T 30 y_W_setZero, .instanceMethod y_W_setZero, .selects R_W y_W_setZero y_W_setZero, .initialized R_W, .code y_W_setZero b_W_setZero 1 none, .fieldLink R_W 9 "TripleSums$Whole" "limbs" "[J", .methodLink R_W 15 y_A_fill, .static y_A_fill, .initialized R_A, .code y_A_fill b_A_fill 5 none, .methodLink R_T 78 y_W_signum, .instanceMethod y_W_signum, .selects R_W y_W_signum y_W_signum, .code y_W_signum b_W_signum 1 (some .int), .constantLong R_W 32 (2147483648), .methodLink R_W 34 y_W_highestPlace, .instanceMethod y_W_highestPlace, .selects R_W y_W_highestPlace y_W_highestPlace, .code y_W_highestPlace b_W_highestPlace 2 (some .int), .methodLink R_W 39 y_J_numberOfLeadingZeros, .static y_J_numberOfLeadingZeros, .initialized R_J, .code y_J_numberOfLeadingZeros b_J_numberOfLeadingZeros 3 (some .int), .methodLink R_J 308 y_I_numberOfLeadingZeros, .static y_I_numberOfLeadingZeros, .initialized R_I, .code y_I_numberOfLeadingZeros b_I_numberOfLeadingZeros 2 (some .int), .constant R_I 264 (65536), .constant R_W 38 (-100000), .methodLink R_T 55 y_W_increase, .instanceMethod y_W_increase, .selects R_W y_W_increase y_W_increase, .code y_W_increase b_W_increase 8 none, .constantLong R_W 30 (4294967295), .methodLink R_T 93 y_W_lowestPlace, .instanceMethod y_W_lowestPlace, .selects R_W y_W_lowestPlace y_W_lowestPlace, .code y_W_lowestPlace b_W_lowestPlace 2 (some .int), .methodLink R_W 45 y_J_numberOfTrailingZeros, .static y_J_numberOfTrailingZeros, .code y_J_numberOfTrailingZeros b_J_numberOfTrailingZeros 3 (some .int), .methodLink R_J 311 y_I_numberOfTrailingZeros, .static y_I_numberOfTrailingZeros, .code y_I_numberOfTrailingZeros b_I_numberOfTrailingZeros 2 (some .int), .methodLink R_T 89 y_T_powerAt, .static y_T_powerAt, .code y_T_powerAt b_T_powerAt 1 (some .int), .constant R_T 127 (-100000)] ++ v_T ++ v_W)
def w_T_bit : List Cond := .code y_T_bit b_T_bit 3 (some .boolean) :: ([.methodLink R_T 26 y_T_sumAt, .instanceMethod y_T_sumAt, .selects R_T y_T_sumAt y_T_sumAt, .initialized R_T, .code y_T_sumAt b_T_sumAt 2 (some (.object "TripleSums$Whole")), .fieldLink R_T 11 "TripleSums" "sums" "[LTripleSums$Whole;", .methodLink R_T 96 y_T_wordOfSize, .instanceMethod y_T_wordOfSize, .selects R_T y_T_wordOfSize y_T_wordOfSize, .code y_T_wordOfSize b_T_wordOfSize 3 (some .long), .methodLink R_T 63 y_T_sizeOf, .instanceMethod y_T_sizeOf, .selects R_T y_T_sizeOf y_T_sizeOf, .code y_T_sizeOf b_T_sizeOf 2 (some (.object "TripleSums$Whole")), .fieldLink R_T 23 "TripleSums" "size" "LTripleSums$Whole;", .methodLink R_T 30 y_W_setZero, .instanceMethod y_W_setZero, .selects R_W y_W_setZero y_W_setZero, .initialized R_W, .code y_W_setZero b_W_setZero 1 none, .fieldLink R_W 9 "TripleSums$Whole" "limbs" "[J", .methodLink R_W 15 y_A_fill, .static y_A_fill, .initialized R_A, .code y_A_fill b_A_fill 5 none, .methodLink R_T 78 y_W_signum, .instanceMethod y_W_signum, .selects R_W y_W_signum y_W_signum, .code y_W_signum b_W_signum 1 (some .int), .constantLong R_W 32 (2147483648), .methodLink R_W 34 y_W_highestPlace, .instanceMethod y_W_highestPlace, .selects R_W y_W_highestPlace y_W_highestPlace, .code y_W_highestPlace b_W_highestPlace 2 (some .int), .methodLink R_W 39 y_J_numberOfLeadingZeros, .static y_J_numberOfLeadingZeros, .initialized R_J, .code y_J_numberOfLeadingZeros b_J_numberOfLeadingZeros 3 (some .int), .methodLink R_J 308 y_I_numberOfLeadingZeros, .static y_I_numberOfLeadingZeros, .initialized R_I, .code y_I_numberOfLeadingZeros b_I_numberOfLeadingZeros 2 (some .int), .constant R_I 264 (65536), .constant R_W 38 (-100000), .methodLink R_T 55 y_W_increase, .instanceMethod y_W_increase, .selects R_W y_W_increase y_W_increase, .code y_W_increase b_W_increase 8 none, .constantLong R_W 30 (4294967295), .constantLong R_T 128 (-3222), .methodLink R_T 130 y_W_wordFrom, .instanceMethod y_W_wordFrom, .selects R_W y_W_wordFrom y_W_wordFrom, .code y_W_wordFrom b_W_wordFrom 7 (some .long), .constantLong R_W 48 (31), .methodLink R_W 50 y_W_limbAt, .instanceMethod y_W_limbAt, .selects R_W y_W_limbAt y_W_limbAt, .code y_W_limbAt b_W_limbAt 2 (some .long)] ++ v_T ++ v_W)
def w_T_wordOfSize : List Cond := .code y_T_wordOfSize b_T_wordOfSize 3 (some .long) :: ([.methodLink R_T 63 y_T_sizeOf, .instanceMethod y_T_sizeOf, .selects R_T y_T_sizeOf y_T_sizeOf, .initialized R_T, .code y_T_sizeOf b_T_sizeOf 2 (some (.object "TripleSums$Whole")), .fieldLink R_T 23 "TripleSums" "size" "LTripleSums$Whole;", .methodLink R_T 30 y_W_setZero, .instanceMethod y_W_setZero, .selects R_W y_W_setZero y_W_setZero, .initialized R_W, .code y_W_setZero b_W_setZero 1 none, .fieldLink R_W 9 "TripleSums$Whole" "limbs" "[J", .methodLink R_W 15 y_A_fill, .static y_A_fill, .initialized R_A, .code y_A_fill b_A_fill 5 none, .methodLink R_T 78 y_W_signum, .instanceMethod y_W_signum, .selects R_W y_W_signum y_W_signum, .code y_W_signum b_W_signum 1 (some .int), .constantLong R_W 32 (2147483648), .methodLink R_W 34 y_W_highestPlace, .instanceMethod y_W_highestPlace, .selects R_W y_W_highestPlace y_W_highestPlace, .code y_W_highestPlace b_W_highestPlace 2 (some .int), .methodLink R_W 39 y_J_numberOfLeadingZeros, .static y_J_numberOfLeadingZeros, .initialized R_J, .code y_J_numberOfLeadingZeros b_J_numberOfLeadingZeros 3 (some .int), .methodLink R_J 308 y_I_numberOfLeadingZeros, .static y_I_numberOfLeadingZeros, .initialized R_I, .code y_I_numberOfLeadingZeros b_I_numberOfLeadingZeros 2 (some .int), .constant R_I 264 (65536), .constant R_W 38 (-100000), .methodLink R_T 55 y_W_increase, .instanceMethod y_W_increase, .selects R_W y_W_increase y_W_increase, .code y_W_increase b_W_increase 8 none, .constantLong R_W 30 (4294967295), .constantLong R_T 128 (-3222), .methodLink R_T 130 y_W_wordFrom, .instanceMethod y_W_wordFrom, .selects R_W y_W_wordFrom y_W_wordFrom, .code y_W_wordFrom b_W_wordFrom 7 (some .long), .constantLong R_W 48 (31), .methodLink R_W 50 y_W_limbAt, .instanceMethod y_W_limbAt, .selects R_W y_W_limbAt y_W_limbAt, .code y_W_limbAt b_W_limbAt 2 (some .long)] ++ v_T ++ v_W)
def w_T_word : List Cond := .code y_T_word b_T_word 3 (some .long) :: ([.methodLink R_T 26 y_T_sumAt, .instanceMethod y_T_sumAt, .selects R_T y_T_sumAt y_T_sumAt, .initialized R_T, .code y_T_sumAt b_T_sumAt 2 (some (.object "TripleSums$Whole")), .fieldLink R_T 11 "TripleSums" "sums" "[LTripleSums$Whole;", .methodLink R_T 96 y_T_wordOfSize, .instanceMethod y_T_wordOfSize, .selects R_T y_T_wordOfSize y_T_wordOfSize, .code y_T_wordOfSize b_T_wordOfSize 3 (some .long), .methodLink R_T 63 y_T_sizeOf, .instanceMethod y_T_sizeOf, .selects R_T y_T_sizeOf y_T_sizeOf, .code y_T_sizeOf b_T_sizeOf 2 (some (.object "TripleSums$Whole")), .fieldLink R_T 23 "TripleSums" "size" "LTripleSums$Whole;", .methodLink R_T 30 y_W_setZero, .instanceMethod y_W_setZero, .selects R_W y_W_setZero y_W_setZero, .initialized R_W, .code y_W_setZero b_W_setZero 1 none, .fieldLink R_W 9 "TripleSums$Whole" "limbs" "[J", .methodLink R_W 15 y_A_fill, .static y_A_fill, .initialized R_A, .code y_A_fill b_A_fill 5 none, .methodLink R_T 78 y_W_signum, .instanceMethod y_W_signum, .selects R_W y_W_signum y_W_signum, .code y_W_signum b_W_signum 1 (some .int), .constantLong R_W 32 (2147483648), .methodLink R_W 34 y_W_highestPlace, .instanceMethod y_W_highestPlace, .selects R_W y_W_highestPlace y_W_highestPlace, .code y_W_highestPlace b_W_highestPlace 2 (some .int), .methodLink R_W 39 y_J_numberOfLeadingZeros, .static y_J_numberOfLeadingZeros, .initialized R_J, .code y_J_numberOfLeadingZeros b_J_numberOfLeadingZeros 3 (some .int), .methodLink R_J 308 y_I_numberOfLeadingZeros, .static y_I_numberOfLeadingZeros, .initialized R_I, .code y_I_numberOfLeadingZeros b_I_numberOfLeadingZeros 2 (some .int), .constant R_I 264 (65536), .constant R_W 38 (-100000), .methodLink R_T 55 y_W_increase, .instanceMethod y_W_increase, .selects R_W y_W_increase y_W_increase, .code y_W_increase b_W_increase 8 none, .constantLong R_W 30 (4294967295), .constantLong R_T 128 (-3222), .methodLink R_T 130 y_W_wordFrom, .instanceMethod y_W_wordFrom, .selects R_W y_W_wordFrom y_W_wordFrom, .code y_W_wordFrom b_W_wordFrom 7 (some .long), .constantLong R_W 48 (31), .methodLink R_W 50 y_W_limbAt, .instanceMethod y_W_limbAt, .selects R_W y_W_limbAt y_W_limbAt, .code y_W_limbAt b_W_limbAt 2 (some .long)] ++ v_T ++ v_W)
set_option maxRecDepth 20000 in
theorem gg_T_init_W_init : GoodIn w_T_init w_W_init := goodIn_r _ [9, 10, 2, 3, 11, 12, 20] (by decide +kernel) (by decide +kernel)
set_option maxRecDepth 20000 in
theorem gg_T_clear_T_sumAt : GoodIn w_T_clear w_T_sumAt := goodIn_r _ [5, 6, 17, 18, 19, 20] (by decide +kernel) (by decide +kernel)
set_option maxRecDepth 20000 in
theorem g_T_clear_T_sumAt : GoodIn w_T_clear (wsV R_T 26 R_T y_T_sumAt w_T_sumAt) := goodIn_app (goodIn_of _ (by decide +kernel)) gg_T_clear_T_sumAt
set_option maxRecDepth 20000 in
theorem gg_T_clear_W_setZero : GoodIn w_T_clear w_W_setZero := goodIn_r _ [11, 12, 13, 14, 15, 16, 21] (by decide +kernel) (by decide +kernel)
set_option maxRecDepth 20000 in
theorem g_T_clear_W_setZero : GoodIn w_T_clear (wsV R_T 30 R_W y_W_setZero w_W_setZero) := goodIn_app (goodIn_of _ (by decide +kernel)) gg_T_clear_W_setZero
set_option maxRecDepth 20000 in
theorem gg_T_add_T_sumAt : GoodIn w_T_add w_T_sumAt := goodIn_r _ [5, 6, 54, 55, 56, 57] (by decide +kernel) (by decide +kernel)
set_option maxRecDepth 20000 in
theorem g_T_add_T_sumAt : GoodIn w_T_add (wsV R_T 26 R_T y_T_sumAt w_T_sumAt) := goodIn_app (goodIn_of _ (by decide +kernel)) gg_T_add_T_sumAt
set_option maxRecDepth 20000 in
theorem gg_T_add_T_refuseUnlessFinite : GoodIn w_T_add w_T_refuseUnlessFinite := goodIn_r _ [9, 10, 11, 4, 12] (by decide +kernel) (by decide +kernel)
set_option maxRecDepth 20000 in
theorem g_T_add_T_refuseUnlessFinite : GoodIn w_T_add (va_wsS R_T 33 y_T_refuseUnlessFinite w_T_refuseUnlessFinite) := goodIn_app (goodIn_of _ (by decide +kernel)) gg_T_add_T_refuseUnlessFinite
set_option maxRecDepth 20000 in
theorem gg_T_add_T_refuseUnlessInRange : GoodIn w_T_add w_T_refuseUnlessInRange := goodIn_r _ [15, 16, 17] (by decide +kernel) (by decide +kernel)
set_option maxRecDepth 20000 in
theorem g_T_add_T_refuseUnlessInRange : GoodIn w_T_add (va_wsS R_T 37 y_T_refuseUnlessInRange w_T_refuseUnlessInRange) := goodIn_app (goodIn_of _ (by decide +kernel)) gg_T_add_T_refuseUnlessInRange
set_option maxRecDepth 20000 in
theorem gg_T_add_T_shiftOf : GoodIn w_T_add w_T_shiftOf := goodIn_r _ [21, 10, 11, 4, 12, 22, 23, 24, 25] (by decide +kernel) (by decide +kernel)
set_option maxRecDepth 20000 in
theorem g_T_add_T_shiftOf : GoodIn w_T_add (va_wsS R_T 41 y_T_shiftOf w_T_shiftOf) := goodIn_app (goodIn_of _ (by decide +kernel)) gg_T_add_T_shiftOf
set_option maxRecDepth 20000 in
theorem gg_T_add_W_setPowerOfTwo : GoodIn w_T_add w_W_setPowerOfTwo := goodIn_r _ [30, 31, 32, 33, 29, 34, 35, 36, 37, 38, 39, 58] (by decide +kernel) (by decide +kernel)
set_option maxRecDepth 20000 in
theorem g_T_add_W_setPowerOfTwo : GoodIn w_T_add (wsV R_T 45 R_W y_W_setPowerOfTwo w_W_setPowerOfTwo) := goodIn_app (goodIn_of _ (by decide +kernel)) gg_T_add_W_setPowerOfTwo
set_option maxRecDepth 20000 in
theorem gg_T_add_T_significandOf : GoodIn w_T_add w_T_significandOf := goodIn_r _ [42, 43, 10, 11, 4, 12, 44] (by decide +kernel) (by decide +kernel)
set_option maxRecDepth 20000 in
theorem g_T_add_T_significandOf : GoodIn w_T_add (va_wsS R_T 48 y_T_significandOf w_T_significandOf) := goodIn_app (goodIn_of _ (by decide +kernel)) gg_T_add_T_significandOf
set_option maxRecDepth 20000 in
theorem gg_T_add_W_multiply : GoodIn w_T_add w_W_multiply := goodIn_r _ [48, 49, 35, 58] (by decide +kernel) (by decide +kernel)
set_option maxRecDepth 20000 in
theorem g_T_add_W_multiply : GoodIn w_T_add (wsV R_T 52 R_W y_W_multiply w_W_multiply) := goodIn_app (goodIn_of _ (by decide +kernel)) gg_T_add_W_multiply
set_option maxRecDepth 20000 in
theorem gg_T_add_W_increase : GoodIn w_T_add w_W_increase := goodIn_r _ [53, 35, 49, 58] (by decide +kernel) (by decide +kernel)
set_option maxRecDepth 20000 in
theorem g_T_add_W_increase : GoodIn w_T_add (wsV R_T 55 R_W y_W_increase w_W_increase) := goodIn_app (goodIn_of _ (by decide +kernel)) gg_T_add_W_increase
set_option maxRecDepth 20000 in
theorem gg_T_refuseUnlessFinite_T_exponentOf : GoodIn w_T_refuseUnlessFinite w_T_exponentOf := goodIn_r _ [4] (by decide +kernel) (by decide +kernel)
set_option maxRecDepth 20000 in
theorem g_T_refuseUnlessFinite_T_exponentOf : GoodIn w_T_refuseUnlessFinite (va_wsS R_T 105 y_T_exponentOf w_T_exponentOf) := goodIn_app (goodIn_of _ (by decide +kernel)) gg_T_refuseUnlessFinite_T_exponentOf
set_option maxRecDepth 20000 in
theorem gg_T_shiftOf_T_exponentOf : GoodIn w_T_shiftOf w_T_exponentOf := goodIn_r _ [4] (by decide +kernel) (by decide +kernel)
set_option maxRecDepth 20000 in
theorem g_T_shiftOf_T_exponentOf : GoodIn w_T_shiftOf (va_wsS R_T 105 y_T_exponentOf w_T_exponentOf) := goodIn_app (goodIn_of _ (by decide +kernel)) gg_T_shiftOf_T_exponentOf
set_option maxRecDepth 20000 in
theorem gg_T_significandOf_T_exponentOf : GoodIn w_T_significandOf w_T_exponentOf := goodIn_r _ [5] (by decide +kernel) (by decide +kernel)
set_option maxRecDepth 20000 in
theorem g_T_significandOf_T_exponentOf : GoodIn w_T_significandOf (va_wsS R_T 105 y_T_exponentOf w_T_exponentOf) := goodIn_app (goodIn_of _ (by decide +kernel)) gg_T_significandOf_T_exponentOf
set_option maxRecDepth 20000 in
theorem gg_T_plus_T_sumAt : GoodIn w_T_plus w_T_sumAt := goodIn_r _ [5, 6, 61, 62, 63, 64] (by decide +kernel) (by decide +kernel)
set_option maxRecDepth 20000 in
theorem g_T_plus_T_sumAt : GoodIn w_T_plus (wsV R_T 26 R_T y_T_sumAt w_T_sumAt) := goodIn_app (goodIn_of _ (by decide +kernel)) gg_T_plus_T_sumAt
set_option maxRecDepth 20000 in
theorem gg_T_plus_T_refuseUnlessInRange : GoodIn w_T_plus w_T_refuseUnlessInRange := goodIn_r _ [9, 10, 11] (by decide +kernel) (by decide +kernel)
set_option maxRecDepth 20000 in
theorem g_T_plus_T_refuseUnlessInRange : GoodIn w_T_plus (va_wsS R_T 37 y_T_refuseUnlessInRange w_T_refuseUnlessInRange) := goodIn_app (goodIn_of _ (by decide +kernel)) gg_T_plus_T_refuseUnlessInRange
set_option maxRecDepth 20000 in
theorem gg_T_plus_W_copyFrom : GoodIn w_T_plus w_W_copyFrom := goodIn_r _ [17, 18, 19, 20, 21, 22, 65] (by decide +kernel) (by decide +kernel)
set_option maxRecDepth 20000 in
theorem g_T_plus_W_copyFrom : GoodIn w_T_plus (wsV R_T 59 R_W y_W_copyFrom w_W_copyFrom) := goodIn_app (goodIn_of _ (by decide +kernel)) gg_T_plus_W_copyFrom
set_option maxRecDepth 20000 in
theorem gg_T_plus_W_increase : GoodIn w_T_plus w_W_increase := goodIn_r _ [26, 18, 27, 65] (by decide +kernel) (by decide +kernel)
set_option maxRecDepth 20000 in
theorem g_T_plus_W_increase : GoodIn w_T_plus (wsV R_T 55 R_W y_W_increase w_W_increase) := goodIn_app (goodIn_of _ (by decide +kernel)) gg_T_plus_W_increase
set_option maxRecDepth 20000 in
theorem gg_T_plus_T_sizeOf : GoodIn w_T_plus w_T_sizeOf := goodIn_r _ [31, 32, 33, 34, 35, 16, 36, 18, 37, 38, 39, 40, 41, 42, 43, 44, 45, 46, 47, 48, 49, 50, 51, 52, 53, 54, 55, 56, 57, 58, 59, 23, 24, 25, 26, 27, 61, 62, 63, 64, 65] (by decide +kernel) (by decide +kernel)
set_option maxRecDepth 20000 in
theorem g_T_plus_T_sizeOf : GoodIn w_T_plus (wsV R_T 63 R_T y_T_sizeOf w_T_sizeOf) := goodIn_app (goodIn_of _ (by decide +kernel)) gg_T_plus_T_sizeOf
set_option maxRecDepth 20000 in
theorem gg_T_plus_W_highestPlace : GoodIn w_T_plus w_W_highestPlace := goodIn_r _ [49, 18, 50, 51, 52, 53, 54, 55, 56, 57, 58, 59, 65] (by decide +kernel) (by decide +kernel)
set_option maxRecDepth 20000 in
theorem g_T_plus_W_highestPlace : GoodIn w_T_plus (wsV R_T 67 R_W y_W_highestPlace w_W_highestPlace) := goodIn_app (goodIn_of _ (by decide +kernel)) gg_T_plus_W_highestPlace
set_option maxRecDepth 20000 in
theorem gg_T_sizeOf_W_setZero : GoodIn w_T_sizeOf w_W_setZero := goodIn_r _ [6, 7, 8, 9, 10, 11, 40] (by decide +kernel) (by decide +kernel)
set_option maxRecDepth 20000 in
theorem g_T_sizeOf_W_setZero : GoodIn w_T_sizeOf (wsV R_T 30 R_W y_W_setZero w_W_setZero) := goodIn_app (goodIn_of _ (by decide +kernel)) gg_T_sizeOf_W_setZero
set_option maxRecDepth 20000 in
theorem gg_T_sizeOf_W_signum : GoodIn w_T_sizeOf w_W_signum := goodIn_r _ [15, 7, 16, 17, 18, 19, 5, 20, 21, 22, 23, 24, 25, 26, 27, 28, 29, 30, 40] (by decide +kernel) (by decide +kernel)
set_option maxRecDepth 20000 in
theorem g_T_sizeOf_W_signum : GoodIn w_T_sizeOf (wsV R_T 78 R_W y_W_signum w_W_signum) := goodIn_app (goodIn_of _ (by decide +kernel)) gg_T_sizeOf_W_signum
set_option maxRecDepth 20000 in
theorem gg_T_sizeOf_W_increase : GoodIn w_T_sizeOf w_W_increase := goodIn_r _ [34, 7, 35, 40] (by decide +kernel) (by decide +kernel)
set_option maxRecDepth 20000 in
theorem g_T_sizeOf_W_increase : GoodIn w_T_sizeOf (wsV R_T 55 R_W y_W_increase w_W_increase) := goodIn_app (goodIn_of _ (by decide +kernel)) gg_T_sizeOf_W_increase
set_option maxRecDepth 20000 in
theorem gg_T_sign_T_sumAt : GoodIn w_T_sign w_T_sumAt := goodIn_r _ [5, 6, 28, 29, 30, 31] (by decide +kernel) (by decide +kernel)
set_option maxRecDepth 20000 in
theorem g_T_sign_T_sumAt : GoodIn w_T_sign (wsV R_T 26 R_T y_T_sumAt w_T_sumAt) := goodIn_app (goodIn_of _ (by decide +kernel)) gg_T_sign_T_sumAt
set_option maxRecDepth 20000 in
theorem gg_T_sign_W_signum : GoodIn w_T_sign w_W_signum := goodIn_r _ [11, 12, 13, 14, 15, 16, 10, 17, 18, 19, 20, 21, 22, 23, 24, 25, 26, 27, 32] (by decide +kernel) (by decide +kernel)
set_option maxRecDepth 20000 in
theorem g_T_sign_W_signum : GoodIn w_T_sign (wsV R_T 78 R_W y_W_signum w_W_signum) := goodIn_app (goodIn_of _ (by decide +kernel)) gg_T_sign_W_signum
set_option maxRecDepth 20000 in
theorem gg_T_compare_T_sumAt : GoodIn w_T_compare w_T_sumAt := goodIn_r _ [5, 6, 42, 43, 44, 45] (by decide +kernel) (by decide +kernel)
set_option maxRecDepth 20000 in
theorem g_T_compare_T_sumAt : GoodIn w_T_compare (wsV R_T 26 R_T y_T_sumAt w_T_sumAt) := goodIn_app (goodIn_of _ (by decide +kernel)) gg_T_compare_T_sumAt
set_option maxRecDepth 20000 in
theorem gg_T_compare_W_copyFrom : GoodIn w_T_compare w_W_copyFrom := goodIn_r _ [12, 13, 14, 15, 16, 17, 46] (by decide +kernel) (by decide +kernel)
set_option maxRecDepth 20000 in
theorem g_T_compare_W_copyFrom : GoodIn w_T_compare (wsV R_T 59 R_W y_W_copyFrom w_W_copyFrom) := goodIn_app (goodIn_of _ (by decide +kernel)) gg_T_compare_W_copyFrom
set_option maxRecDepth 20000 in
theorem gg_T_compare_W_increase : GoodIn w_T_compare w_W_increase := goodIn_r _ [21, 13, 22, 46] (by decide +kernel) (by decide +kernel)
set_option maxRecDepth 20000 in
theorem g_T_compare_W_increase : GoodIn w_T_compare (wsV R_T 55 R_W y_W_increase w_W_increase) := goodIn_app (goodIn_of _ (by decide +kernel)) gg_T_compare_W_increase
set_option maxRecDepth 20000 in
theorem gg_T_compare_W_signum : GoodIn w_T_compare w_W_signum := goodIn_r _ [26, 13, 27, 28, 29, 30, 11, 31, 32, 33, 34, 35, 36, 37, 38, 39, 40, 41, 46] (by decide +kernel) (by decide +kernel)
set_option maxRecDepth 20000 in
theorem g_T_compare_W_signum : GoodIn w_T_compare (wsV R_T 78 R_W y_W_signum w_W_signum) := goodIn_app (goodIn_of _ (by decide +kernel)) gg_T_compare_W_signum
set_option maxRecDepth 20000 in
theorem gg_T_compareSizes_T_sumAt : GoodIn w_T_compareSizes w_T_sumAt := goodIn_r _ [5, 6, 46, 47, 48, 49] (by decide +kernel) (by decide +kernel)
set_option maxRecDepth 20000 in
theorem g_T_compareSizes_T_sumAt : GoodIn w_T_compareSizes (wsV R_T 26 R_T y_T_sumAt w_T_sumAt) := goodIn_app (goodIn_of _ (by decide +kernel)) gg_T_compareSizes_T_sumAt
set_option maxRecDepth 20000 in
theorem gg_T_compareSizes_T_sizeOf : GoodIn w_T_compareSizes w_T_sizeOf := goodIn_r _ [10, 11, 12, 13, 14, 15, 16, 17, 18, 19, 20, 21, 22, 23, 24, 25, 26, 27, 28, 29, 30, 31, 32, 33, 34, 35, 36, 37, 38, 39, 40, 41, 42, 43, 44, 45, 46, 47, 48, 49, 50] (by decide +kernel) (by decide +kernel)
set_option maxRecDepth 20000 in
theorem g_T_compareSizes_T_sizeOf : GoodIn w_T_compareSizes (wsV R_T 63 R_T y_T_sizeOf w_T_sizeOf) := goodIn_app (goodIn_of _ (by decide +kernel)) gg_T_compareSizes_T_sizeOf
set_option maxRecDepth 20000 in
theorem gg_T_compareSizes_W_signum : GoodIn w_T_compareSizes w_W_signum := goodIn_r _ [25, 17, 26, 27, 28, 29, 15, 30, 31, 32, 33, 34, 35, 36, 37, 38, 39, 40, 50] (by decide +kernel) (by decide +kernel)
set_option maxRecDepth 20000 in
theorem g_T_compareSizes_W_signum : GoodIn w_T_compareSizes (wsV R_T 78 R_W y_W_signum w_W_signum) := goodIn_app (goodIn_of _ (by decide +kernel)) gg_T_compareSizes_W_signum
set_option maxRecDepth 20000 in
theorem gg_T_compareSizes_W_increase : GoodIn w_T_compareSizes w_W_increase := goodIn_r _ [44, 17, 45, 50] (by decide +kernel) (by decide +kernel)
set_option maxRecDepth 20000 in
theorem g_T_compareSizes_W_increase : GoodIn w_T_compareSizes (wsV R_T 55 R_W y_W_increase w_W_increase) := goodIn_app (goodIn_of _ (by decide +kernel)) gg_T_compareSizes_W_increase
set_option maxRecDepth 20000 in
theorem gg_T_nearest_T_sumAt : GoodIn w_T_nearest w_T_sumAt := goodIn_r _ [5, 6, 78, 79, 80, 81] (by decide +kernel) (by decide +kernel)
set_option maxRecDepth 20000 in
theorem g_T_nearest_T_sumAt : GoodIn w_T_nearest (wsV R_T 26 R_T y_T_sumAt w_T_sumAt) := goodIn_app (goodIn_of _ (by decide +kernel)) gg_T_nearest_T_sumAt
set_option maxRecDepth 20000 in
theorem gg_T_nearest_W_signum : GoodIn w_T_nearest w_W_signum := goodIn_r _ [11, 12, 13, 14, 15, 16, 10, 17, 18, 19, 20, 21, 22, 23, 24, 25, 26, 27, 82] (by decide +kernel) (by decide +kernel)
set_option maxRecDepth 20000 in
theorem g_T_nearest_W_signum : GoodIn w_T_nearest (wsV R_T 78 R_W y_W_signum w_W_signum) := goodIn_app (goodIn_of _ (by decide +kernel)) gg_T_nearest_W_signum
set_option maxRecDepth 20000 in
theorem gg_T_nearest_T_sizeOf : GoodIn w_T_nearest w_T_sizeOf := goodIn_r _ [32, 33, 34, 35, 36, 10, 37, 12, 38, 39, 40, 41, 7, 8, 9, 11, 13, 14, 15, 16, 17, 18, 19, 20, 21, 22, 23, 24, 25, 26, 27, 42, 43, 44, 45, 46, 78, 79, 80, 81, 82] (by decide +kernel) (by decide +kernel)
set_option maxRecDepth 20000 in
theorem g_T_nearest_T_sizeOf : GoodIn w_T_nearest (wsV R_T 63 R_T y_T_sizeOf w_T_sizeOf) := goodIn_app (goodIn_of _ (by decide +kernel)) gg_T_nearest_T_sizeOf
set_option maxRecDepth 20000 in
theorem gg_T_nearest_T_nearestToSize : GoodIn w_T_nearest w_T_nearestToSize := goodIn_r _ [49, 50, 15, 16, 10, 17, 12, 18, 19, 20, 21, 22, 23, 24, 25, 26, 27, 51, 52, 53, 54, 55, 56, 57, 58, 59, 60, 61, 62, 63, 64, 65, 66, 4, 67, 68, 69, 70, 71, 72, 73, 74, 75, 76, 77, 82] (by decide +kernel) (by decide +kernel)
set_option maxRecDepth 20000 in
theorem g_T_nearest_T_nearestToSize : GoodIn w_T_nearest (va_wsS R_T 85 y_T_nearestToSize w_T_nearestToSize) := goodIn_app (goodIn_of _ (by decide +kernel)) gg_T_nearest_T_nearestToSize
set_option maxRecDepth 20000 in
theorem gg_T_nearestToSize_W_highestPlace : GoodIn w_T_nearestToSize w_W_highestPlace := goodIn_r _ [5, 6, 7, 8, 9, 10, 11, 12, 13, 14, 15, 16, 45] (by decide +kernel) (by decide +kernel)
set_option maxRecDepth 20000 in
theorem g_T_nearestToSize_W_highestPlace : GoodIn w_T_nearestToSize (wsV R_T 67 R_W y_W_highestPlace w_W_highestPlace) := goodIn_app (goodIn_of _ (by decide +kernel)) gg_T_nearestToSize_W_highestPlace
set_option maxRecDepth 20000 in
theorem gg_T_nearestToSize_W_wordFrom : GoodIn w_T_nearestToSize w_W_wordFrom := goodIn_r _ [25, 26, 27, 28, 29, 4, 30, 6, 45] (by decide +kernel) (by decide +kernel)
set_option maxRecDepth 20000 in
theorem g_T_nearestToSize_W_wordFrom : GoodIn w_T_nearestToSize (wsV R_T 130 R_W y_W_wordFrom w_W_wordFrom) := goodIn_app (goodIn_of _ (by decide +kernel)) gg_T_nearestToSize_W_wordFrom
set_option maxRecDepth 20000 in
theorem gg_T_nearestToSize_T_roundsUp : GoodIn w_T_nearestToSize w_T_roundsUp := goodIn_r _ [34, 22, 23, 24, 4, 25, 26, 27, 28, 29, 30, 6, 35, 36, 37, 38, 39, 40, 9, 41, 42, 43, 13, 44, 15, 16, 45] (by decide +kernel) (by decide +kernel)
set_option maxRecDepth 20000 in
theorem g_T_nearestToSize_T_roundsUp : GoodIn w_T_nearestToSize (va_wsS R_T 135 y_T_roundsUp w_T_roundsUp) := goodIn_app (goodIn_of _ (by decide +kernel)) gg_T_nearestToSize_T_roundsUp
set_option maxRecDepth 20000 in
theorem gg_T_roundsUp_W_wordFrom : GoodIn w_T_roundsUp w_W_wordFrom := goodIn_r _ [5, 6, 7, 8, 9, 4, 10, 11, 26] (by decide +kernel) (by decide +kernel)
set_option maxRecDepth 20000 in
theorem g_T_roundsUp_W_wordFrom : GoodIn w_T_roundsUp (wsV R_T 130 R_W y_W_wordFrom w_W_wordFrom) := goodIn_app (goodIn_of _ (by decide +kernel)) gg_T_roundsUp_W_wordFrom
set_option maxRecDepth 20000 in
theorem gg_T_roundsUp_W_lowestPlace : GoodIn w_T_roundsUp w_W_lowestPlace := goodIn_r _ [15, 11, 16, 17, 18, 19, 20, 21, 22, 23, 24, 25, 26] (by decide +kernel) (by decide +kernel)
set_option maxRecDepth 20000 in
theorem g_T_roundsUp_W_lowestPlace : GoodIn w_T_roundsUp (wsV R_T 93 R_W y_W_lowestPlace w_W_lowestPlace) := goodIn_app (goodIn_of _ (by decide +kernel)) gg_T_roundsUp_W_lowestPlace
set_option maxRecDepth 20000 in
theorem gg_T_top_T_sumAt : GoodIn w_T_top w_T_sumAt := goodIn_r _ [5, 6, 51, 52, 53, 54] (by decide +kernel) (by decide +kernel)
set_option maxRecDepth 20000 in
theorem g_T_top_T_sumAt : GoodIn w_T_top (wsV R_T 26 R_T y_T_sumAt w_T_sumAt) := goodIn_app (goodIn_of _ (by decide +kernel)) gg_T_top_T_sumAt
set_option maxRecDepth 20000 in
theorem gg_T_top_T_sizeOf : GoodIn w_T_top w_T_sizeOf := goodIn_r _ [10, 11, 12, 13, 14, 15, 16, 17, 18, 19, 20, 21, 22, 23, 24, 25, 26, 27, 28, 29, 30, 31, 32, 33, 34, 35, 36, 37, 38, 39, 40, 41, 42, 43, 44, 45, 51, 52, 53, 54, 55] (by decide +kernel) (by decide +kernel)
set_option maxRecDepth 20000 in
theorem g_T_top_T_sizeOf : GoodIn w_T_top (wsV R_T 63 R_T y_T_sizeOf w_T_sizeOf) := goodIn_app (goodIn_of _ (by decide +kernel)) gg_T_top_T_sizeOf
set_option maxRecDepth 20000 in
theorem gg_T_top_W_highestPlace : GoodIn w_T_top w_W_highestPlace := goodIn_r _ [30, 17, 31, 32, 33, 34, 35, 36, 37, 38, 39, 40, 55] (by decide +kernel) (by decide +kernel)
set_option maxRecDepth 20000 in
theorem g_T_top_W_highestPlace : GoodIn w_T_top (wsV R_T 67 R_W y_W_highestPlace w_W_highestPlace) := goodIn_app (goodIn_of _ (by decide +kernel)) gg_T_top_W_highestPlace
set_option maxRecDepth 20000 in
theorem gg_T_top_T_powerAt : GoodIn w_T_top w_T_powerAt := goodIn_r _ [49, 50] (by decide +kernel) (by decide +kernel)
set_option maxRecDepth 20000 in
theorem g_T_top_T_powerAt : GoodIn w_T_top (va_wsS R_T 89 y_T_powerAt w_T_powerAt) := goodIn_app (goodIn_of _ (by decide +kernel)) gg_T_top_T_powerAt
set_option maxRecDepth 20000 in
theorem gg_T_bottom_T_sumAt : GoodIn w_T_bottom w_T_sumAt := goodIn_r _ [5, 6, 60, 61, 62, 63] (by decide +kernel) (by decide +kernel)
set_option maxRecDepth 20000 in
theorem g_T_bottom_T_sumAt : GoodIn w_T_bottom (wsV R_T 26 R_T y_T_sumAt w_T_sumAt) := goodIn_app (goodIn_of _ (by decide +kernel)) gg_T_bottom_T_sumAt
set_option maxRecDepth 20000 in
theorem gg_T_bottom_T_sizeOf : GoodIn w_T_bottom w_T_sizeOf := goodIn_r _ [10, 11, 12, 13, 14, 15, 16, 17, 18, 19, 20, 21, 22, 23, 24, 25, 26, 27, 28, 29, 30, 31, 32, 33, 34, 35, 36, 37, 38, 39, 40, 41, 42, 43, 44, 45, 60, 61, 62, 63, 64] (by decide +kernel) (by decide +kernel)
set_option maxRecDepth 20000 in
theorem g_T_bottom_T_sizeOf : GoodIn w_T_bottom (wsV R_T 63 R_T y_T_sizeOf w_T_sizeOf) := goodIn_app (goodIn_of _ (by decide +kernel)) gg_T_bottom_T_sizeOf
set_option maxRecDepth 20000 in
theorem gg_T_bottom_W_lowestPlace : GoodIn w_T_bottom w_W_lowestPlace := goodIn_r _ [49, 17, 50, 51, 33, 52, 53, 54, 37, 55, 39, 40, 64] (by decide +kernel) (by decide +kernel)
set_option maxRecDepth 20000 in
theorem g_T_bottom_W_lowestPlace : GoodIn w_T_bottom (wsV R_T 93 R_W y_W_lowestPlace w_W_lowestPlace) := goodIn_app (goodIn_of _ (by decide +kernel)) gg_T_bottom_W_lowestPlace
set_option maxRecDepth 20000 in
theorem gg_T_bottom_T_powerAt : GoodIn w_T_bottom w_T_powerAt := goodIn_r _ [58, 59] (by decide +kernel) (by decide +kernel)
set_option maxRecDepth 20000 in
theorem g_T_bottom_T_powerAt : GoodIn w_T_bottom (va_wsS R_T 89 y_T_powerAt w_T_powerAt) := goodIn_app (goodIn_of _ (by decide +kernel)) gg_T_bottom_T_powerAt
set_option maxRecDepth 20000 in
theorem gg_T_bit_T_sumAt : GoodIn w_T_bit w_T_sumAt := goodIn_r _ [5, 6, 60, 61, 62, 63] (by decide +kernel) (by decide +kernel)
set_option maxRecDepth 20000 in
theorem g_T_bit_T_sumAt : GoodIn w_T_bit (wsV R_T 26 R_T y_T_sumAt w_T_sumAt) := goodIn_app (goodIn_of _ (by decide +kernel)) gg_T_bit_T_sumAt
set_option maxRecDepth 20000 in
theorem gg_T_bit_T_wordOfSize : GoodIn w_T_bit w_T_wordOfSize := goodIn_r _ [10, 11, 12, 13, 4, 14, 15, 16, 17, 18, 19, 20, 21, 22, 23, 24, 25, 26, 27, 28, 29, 30, 31, 32, 33, 34, 35, 36, 37, 38, 39, 40, 41, 42, 43, 44, 45, 46, 47, 48, 49, 50, 51, 52, 53, 54, 55, 56, 57, 58, 59, 60, 61, 62, 63, 64] (by decide +kernel) (by decide +kernel)
set_option maxRecDepth 20000 in
theorem g_T_bit_T_wordOfSize : GoodIn w_T_bit (wsV R_T 96 R_T y_T_wordOfSize w_T_wordOfSize) := goodIn_app (goodIn_of _ (by decide +kernel)) gg_T_bit_T_wordOfSize
set_option maxRecDepth 20000 in
theorem gg_T_wordOfSize_T_sizeOf : GoodIn w_T_wordOfSize w_T_sizeOf := goodIn_r _ [5, 6, 7, 8, 9, 10, 11, 12, 13, 14, 15, 16, 17, 18, 19, 20, 21, 22, 23, 24, 25, 26, 27, 28, 29, 30, 31, 32, 33, 34, 35, 36, 37, 38, 39, 40, 51, 52, 53, 54, 55] (by decide +kernel) (by decide +kernel)
set_option maxRecDepth 20000 in
theorem g_T_wordOfSize_T_sizeOf : GoodIn w_T_wordOfSize (wsV R_T 63 R_T y_T_sizeOf w_T_sizeOf) := goodIn_app (goodIn_of _ (by decide +kernel)) gg_T_wordOfSize_T_sizeOf
set_option maxRecDepth 20000 in
theorem gg_T_wordOfSize_W_wordFrom : GoodIn w_T_wordOfSize w_W_wordFrom := goodIn_r _ [45, 46, 47, 48, 49, 10, 50, 12, 55] (by decide +kernel) (by decide +kernel)
set_option maxRecDepth 20000 in
theorem g_T_wordOfSize_W_wordFrom : GoodIn w_T_wordOfSize (wsV R_T 130 R_W y_W_wordFrom w_W_wordFrom) := goodIn_app (goodIn_of _ (by decide +kernel)) gg_T_wordOfSize_W_wordFrom
set_option maxRecDepth 20000 in
theorem gg_T_word_T_sumAt : GoodIn w_T_word w_T_sumAt := goodIn_r _ [5, 6, 60, 61, 62, 63] (by decide +kernel) (by decide +kernel)
set_option maxRecDepth 20000 in
theorem g_T_word_T_sumAt : GoodIn w_T_word (wsV R_T 26 R_T y_T_sumAt w_T_sumAt) := goodIn_app (goodIn_of _ (by decide +kernel)) gg_T_word_T_sumAt
set_option maxRecDepth 20000 in
theorem gg_T_word_T_wordOfSize : GoodIn w_T_word w_T_wordOfSize := goodIn_r _ [10, 11, 12, 13, 4, 14, 15, 16, 17, 18, 19, 20, 21, 22, 23, 24, 25, 26, 27, 28, 29, 30, 31, 32, 33, 34, 35, 36, 37, 38, 39, 40, 41, 42, 43, 44, 45, 46, 47, 48, 49, 50, 51, 52, 53, 54, 55, 56, 57, 58, 59, 60, 61, 62, 63, 64] (by decide +kernel) (by decide +kernel)
set_option maxRecDepth 20000 in
theorem g_T_word_T_wordOfSize : GoodIn w_T_word (wsV R_T 96 R_T y_T_wordOfSize w_T_wordOfSize) := goodIn_app (goodIn_of _ (by decide +kernel)) gg_T_word_T_wordOfSize
theorem d_T_init_0 : decode b_T_init 0 = .ok (.aload_n 0, 1) := by decide +kernel
theorem d_T_init_1 : decode b_T_init 1 = .ok (.invokespecial 3, 3) := by decide +kernel
theorem d_T_init_4 : decode b_T_init 4 = .ok (.aload_n 0, 1) := by decide +kernel
theorem d_T_init_5 : decode b_T_init 5 = .ok (.bipush 8, 2) := by decide +kernel
theorem d_T_init_7 : decode b_T_init 7 = .ok (.anewarray 9, 3) := by decide +kernel
theorem d_T_init_10 : decode b_T_init 10 = .ok (.putfield 11, 3) := by decide +kernel
theorem d_T_init_13 : decode b_T_init 13 = .ok (.aload_n 0, 1) := by decide +kernel
theorem d_T_init_14 : decode b_T_init 14 = .ok (.new 9, 3) := by decide +kernel
theorem d_T_init_17 : decode b_T_init 17 = .ok (.dup, 1) := by decide +kernel
theorem d_T_init_18 : decode b_T_init 18 = .ok (.invokespecial 15, 3) := by decide +kernel
theorem d_T_init_21 : decode b_T_init 21 = .ok (.putfield 16, 3) := by decide +kernel
theorem d_T_init_24 : decode b_T_init 24 = .ok (.aload_n 0, 1) := by decide +kernel
theorem d_T_init_25 : decode b_T_init 25 = .ok (.new 9, 3) := by decide +kernel
theorem d_T_init_28 : decode b_T_init 28 = .ok (.dup, 1) := by decide +kernel
theorem d_T_init_29 : decode b_T_init 29 = .ok (.invokespecial 15, 3) := by decide +kernel
theorem d_T_init_32 : decode b_T_init 32 = .ok (.putfield 20, 3) := by decide +kernel
theorem d_T_init_35 : decode b_T_init 35 = .ok (.aload_n 0, 1) := by decide +kernel
theorem d_T_init_36 : decode b_T_init 36 = .ok (.new 9, 3) := by decide +kernel
theorem d_T_init_39 : decode b_T_init 39 = .ok (.dup, 1) := by decide +kernel
theorem d_T_init_40 : decode b_T_init 40 = .ok (.invokespecial 15, 3) := by decide +kernel
theorem d_T_init_43 : decode b_T_init 43 = .ok (.putfield 23, 3) := by decide +kernel
theorem d_T_init_46 : decode b_T_init 46 = .ok (.iconst 0, 1) := by decide +kernel
theorem d_T_init_47 : decode b_T_init 47 = .ok (.istore_n 1, 1) := by decide +kernel
theorem d_T_init_48 : decode b_T_init 48 = .ok (.iload_n 1, 1) := by decide +kernel
theorem d_T_init_49 : decode b_T_init 49 = .ok (.bipush 8, 2) := by decide +kernel
theorem d_T_init_51 : decode b_T_init 51 = .ok (.if_icmp .ge 22, 3) := by decide +kernel
theorem d_T_init_54 : decode b_T_init 54 = .ok (.aload_n 0, 1) := by decide +kernel
theorem d_T_init_55 : decode b_T_init 55 = .ok (.getfield 11, 3) := by decide +kernel
theorem d_T_init_58 : decode b_T_init 58 = .ok (.iload_n 1, 1) := by decide +kernel
theorem d_T_init_59 : decode b_T_init 59 = .ok (.new 9, 3) := by decide +kernel
theorem d_T_init_62 : decode b_T_init 62 = .ok (.dup, 1) := by decide +kernel
theorem d_T_init_63 : decode b_T_init 63 = .ok (.invokespecial 15, 3) := by decide +kernel
theorem d_T_init_66 : decode b_T_init 66 = .ok (.aastore, 1) := by decide +kernel
theorem d_T_init_67 : decode b_T_init 67 = .ok (.iinc 1 1, 3) := by decide +kernel
theorem d_T_init_70 : decode b_T_init 70 = .ok (.goto (-22), 3) := by decide +kernel
theorem d_T_init_73 : decode b_T_init 73 = .ok (.return_, 1) := by decide +kernel
theorem d_T_clear_0 : decode b_T_clear 0 = .ok (.aload_n 0, 1) := by decide +kernel
theorem d_T_clear_1 : decode b_T_clear 1 = .ok (.iload_n 1, 1) := by decide +kernel
theorem d_T_clear_2 : decode b_T_clear 2 = .ok (.invokevirtual 26, 3) := by decide +kernel
theorem d_T_clear_5 : decode b_T_clear 5 = .ok (.invokevirtual 30, 3) := by decide +kernel
theorem d_T_clear_8 : decode b_T_clear 8 = .ok (.return_, 1) := by decide +kernel
theorem d_T_sumAt_0 : decode b_T_sumAt 0 = .ok (.iload_n 1, 1) := by decide +kernel
theorem d_T_sumAt_1 : decode b_T_sumAt 1 = .ok (.ifCond .lt 9, 3) := by decide +kernel
theorem d_T_sumAt_4 : decode b_T_sumAt 4 = .ok (.iload_n 1, 1) := by decide +kernel
theorem d_T_sumAt_5 : decode b_T_sumAt 5 = .ok (.bipush 8, 2) := by decide +kernel
theorem d_T_sumAt_7 : decode b_T_sumAt 7 = .ok (.if_icmp .lt 13, 3) := by decide +kernel
theorem d_T_sumAt_10 : decode b_T_sumAt 10 = .ok (.new 100, 3) := by decide +kernel
theorem d_T_sumAt_13 : decode b_T_sumAt 13 = .ok (.dup, 1) := by decide +kernel
theorem d_T_sumAt_14 : decode b_T_sumAt 14 = .ok (.ldc 102, 2) := by decide +kernel
theorem d_T_sumAt_16 : decode b_T_sumAt 16 = .ok (.invokespecial 104, 3) := by decide +kernel
theorem d_T_sumAt_19 : decode b_T_sumAt 19 = .ok (.athrow, 1) := by decide +kernel
theorem d_T_sumAt_20 : decode b_T_sumAt 20 = .ok (.aload_n 0, 1) := by decide +kernel
theorem d_T_sumAt_21 : decode b_T_sumAt 21 = .ok (.getfield 11, 3) := by decide +kernel
theorem d_T_sumAt_24 : decode b_T_sumAt 24 = .ok (.iload_n 1, 1) := by decide +kernel
theorem d_T_sumAt_25 : decode b_T_sumAt 25 = .ok (.aaload, 1) := by decide +kernel
theorem d_T_sumAt_26 : decode b_T_sumAt 26 = .ok (.areturn, 1) := by decide +kernel
theorem d_T_add_0 : decode b_T_add 0 = .ok (.aload_n 0, 1) := by decide +kernel
theorem d_T_add_1 : decode b_T_add 1 = .ok (.iload_n 1, 1) := by decide +kernel
theorem d_T_add_2 : decode b_T_add 2 = .ok (.invokevirtual 26, 3) := by decide +kernel
theorem d_T_add_5 : decode b_T_add 5 = .ok (.astore 9, 2) := by decide +kernel
theorem d_T_add_7 : decode b_T_add 7 = .ok (.lload_n 2, 1) := by decide +kernel
theorem d_T_add_8 : decode b_T_add 8 = .ok (.invokestatic 33, 3) := by decide +kernel
theorem d_T_add_11 : decode b_T_add 11 = .ok (.lload 4, 2) := by decide +kernel
theorem d_T_add_13 : decode b_T_add 13 = .ok (.invokestatic 33, 3) := by decide +kernel
theorem d_T_add_16 : decode b_T_add 16 = .ok (.lload 6, 2) := by decide +kernel
theorem d_T_add_18 : decode b_T_add 18 = .ok (.invokestatic 33, 3) := by decide +kernel
theorem d_T_add_21 : decode b_T_add 21 = .ok (.iload 8, 2) := by decide +kernel
theorem d_T_add_23 : decode b_T_add 23 = .ok (.invokestatic 37, 3) := by decide +kernel
theorem d_T_add_26 : decode b_T_add 26 = .ok (.aload_n 0, 1) := by decide +kernel
theorem d_T_add_27 : decode b_T_add 27 = .ok (.getfield 16, 3) := by decide +kernel
theorem d_T_add_30 : decode b_T_add 30 = .ok (.lload_n 2, 1) := by decide +kernel
theorem d_T_add_31 : decode b_T_add 31 = .ok (.invokestatic 41, 3) := by decide +kernel
theorem d_T_add_34 : decode b_T_add 34 = .ok (.lload 4, 2) := by decide +kernel
theorem d_T_add_36 : decode b_T_add 36 = .ok (.invokestatic 41, 3) := by decide +kernel
theorem d_T_add_39 : decode b_T_add 39 = .ok (.iadd, 1) := by decide +kernel
theorem d_T_add_40 : decode b_T_add 40 = .ok (.lload 6, 2) := by decide +kernel
theorem d_T_add_42 : decode b_T_add 42 = .ok (.invokestatic 41, 3) := by decide +kernel
theorem d_T_add_45 : decode b_T_add 45 = .ok (.iadd, 1) := by decide +kernel
theorem d_T_add_46 : decode b_T_add 46 = .ok (.invokevirtual 45, 3) := by decide +kernel
theorem d_T_add_49 : decode b_T_add 49 = .ok (.aload_n 0, 1) := by decide +kernel
theorem d_T_add_50 : decode b_T_add 50 = .ok (.getfield 16, 3) := by decide +kernel
theorem d_T_add_53 : decode b_T_add 53 = .ok (.lload_n 2, 1) := by decide +kernel
theorem d_T_add_54 : decode b_T_add 54 = .ok (.invokestatic 48, 3) := by decide +kernel
theorem d_T_add_57 : decode b_T_add 57 = .ok (.invokevirtual 52, 3) := by decide +kernel
theorem d_T_add_60 : decode b_T_add 60 = .ok (.aload_n 0, 1) := by decide +kernel
theorem d_T_add_61 : decode b_T_add 61 = .ok (.getfield 16, 3) := by decide +kernel
theorem d_T_add_64 : decode b_T_add 64 = .ok (.lload 4, 2) := by decide +kernel
theorem d_T_add_66 : decode b_T_add 66 = .ok (.invokestatic 48, 3) := by decide +kernel
theorem d_T_add_69 : decode b_T_add 69 = .ok (.invokevirtual 52, 3) := by decide +kernel
theorem d_T_add_72 : decode b_T_add 72 = .ok (.aload_n 0, 1) := by decide +kernel
theorem d_T_add_73 : decode b_T_add 73 = .ok (.getfield 16, 3) := by decide +kernel
theorem d_T_add_76 : decode b_T_add 76 = .ok (.lload 6, 2) := by decide +kernel
theorem d_T_add_78 : decode b_T_add 78 = .ok (.invokestatic 48, 3) := by decide +kernel
theorem d_T_add_81 : decode b_T_add 81 = .ok (.invokevirtual 52, 3) := by decide +kernel
theorem d_T_add_84 : decode b_T_add 84 = .ok (.lload_n 2, 1) := by decide +kernel
theorem d_T_add_85 : decode b_T_add 85 = .ok (.lload 4, 2) := by decide +kernel
theorem d_T_add_87 : decode b_T_add 87 = .ok (.lxor, 1) := by decide +kernel
theorem d_T_add_88 : decode b_T_add 88 = .ok (.lload 6, 2) := by decide +kernel
theorem d_T_add_90 : decode b_T_add 90 = .ok (.lxor, 1) := by decide +kernel
theorem d_T_add_91 : decode b_T_add 91 = .ok (.lconst 0, 1) := by decide +kernel
theorem d_T_add_92 : decode b_T_add 92 = .ok (.lcmp, 1) := by decide +kernel
theorem d_T_add_93 : decode b_T_add 93 = .ok (.ifCond .ge 7, 3) := by decide +kernel
theorem d_T_add_96 : decode b_T_add 96 = .ok (.iconst 1, 1) := by decide +kernel
theorem d_T_add_97 : decode b_T_add 97 = .ok (.goto 4, 3) := by decide +kernel
theorem d_T_add_100 : decode b_T_add 100 = .ok (.iconst 0, 1) := by decide +kernel
theorem d_T_add_101 : decode b_T_add 101 = .ok (.istore 10, 2) := by decide +kernel
theorem d_T_add_103 : decode b_T_add 103 = .ok (.aload 9, 2) := by decide +kernel
theorem d_T_add_105 : decode b_T_add 105 = .ok (.aload_n 0, 1) := by decide +kernel
theorem d_T_add_106 : decode b_T_add 106 = .ok (.getfield 16, 3) := by decide +kernel
theorem d_T_add_109 : decode b_T_add 109 = .ok (.iload 10, 2) := by decide +kernel
theorem d_T_add_111 : decode b_T_add 111 = .ok (.ifCond .eq 9, 3) := by decide +kernel
theorem d_T_add_114 : decode b_T_add 114 = .ok (.iload 8, 2) := by decide +kernel
theorem d_T_add_116 : decode b_T_add 116 = .ok (.ineg, 1) := by decide +kernel
theorem d_T_add_117 : decode b_T_add 117 = .ok (.goto 5, 3) := by decide +kernel
theorem d_T_add_120 : decode b_T_add 120 = .ok (.iload 8, 2) := by decide +kernel
theorem d_T_add_122 : decode b_T_add 122 = .ok (.invokevirtual 55, 3) := by decide +kernel
theorem d_T_add_125 : decode b_T_add 125 = .ok (.return_, 1) := by decide +kernel
theorem d_T_refuseUnlessFinite_0 : decode b_T_refuseUnlessFinite 0 = .ok (.lload_n 0, 1) := by decide +kernel
theorem d_T_refuseUnlessFinite_1 : decode b_T_refuseUnlessFinite 1 = .ok (.invokestatic 105, 3) := by decide +kernel
theorem d_T_refuseUnlessFinite_4 : decode b_T_refuseUnlessFinite 4 = .ok (.sipush 2047, 3) := by decide +kernel
theorem d_T_refuseUnlessFinite_7 : decode b_T_refuseUnlessFinite 7 = .ok (.if_icmp .ne 13, 3) := by decide +kernel
theorem d_T_refuseUnlessFinite_10 : decode b_T_refuseUnlessFinite 10 = .ok (.new 108, 3) := by decide +kernel
theorem d_T_refuseUnlessFinite_13 : decode b_T_refuseUnlessFinite 13 = .ok (.dup, 1) := by decide +kernel
theorem d_T_refuseUnlessFinite_14 : decode b_T_refuseUnlessFinite 14 = .ok (.ldc 110, 2) := by decide +kernel
theorem d_T_refuseUnlessFinite_16 : decode b_T_refuseUnlessFinite 16 = .ok (.invokespecial 112, 3) := by decide +kernel
theorem d_T_refuseUnlessFinite_19 : decode b_T_refuseUnlessFinite 19 = .ok (.athrow, 1) := by decide +kernel
theorem d_T_refuseUnlessFinite_20 : decode b_T_refuseUnlessFinite 20 = .ok (.return_, 1) := by decide +kernel
theorem d_T_exponentOf_0 : decode b_T_exponentOf 0 = .ok (.lload_n 0, 1) := by decide +kernel
theorem d_T_exponentOf_1 : decode b_T_exponentOf 1 = .ok (.bipush 52, 2) := by decide +kernel
theorem d_T_exponentOf_3 : decode b_T_exponentOf 3 = .ok (.lushr, 1) := by decide +kernel
theorem d_T_exponentOf_4 : decode b_T_exponentOf 4 = .ok (.l2i, 1) := by decide +kernel
theorem d_T_exponentOf_5 : decode b_T_exponentOf 5 = .ok (.sipush 2047, 3) := by decide +kernel
theorem d_T_exponentOf_8 : decode b_T_exponentOf 8 = .ok (.iand, 1) := by decide +kernel
theorem d_T_exponentOf_9 : decode b_T_exponentOf 9 = .ok (.ireturn, 1) := by decide +kernel
theorem d_T_refuseUnlessInRange_0 : decode b_T_refuseUnlessInRange 0 = .ok (.iload_n 0, 1) := by decide +kernel
theorem d_T_refuseUnlessInRange_1 : decode b_T_refuseUnlessInRange 1 = .ok (.ldc 113, 2) := by decide +kernel
theorem d_T_refuseUnlessInRange_3 : decode b_T_refuseUnlessInRange 3 = .ok (.if_icmp .lt 9, 3) := by decide +kernel
theorem d_T_refuseUnlessInRange_6 : decode b_T_refuseUnlessInRange 6 = .ok (.iload_n 0, 1) := by decide +kernel
theorem d_T_refuseUnlessInRange_7 : decode b_T_refuseUnlessInRange 7 = .ok (.ldc 114, 2) := by decide +kernel
theorem d_T_refuseUnlessInRange_9 : decode b_T_refuseUnlessInRange 9 = .ok (.if_icmp .le 13, 3) := by decide +kernel
theorem d_T_refuseUnlessInRange_12 : decode b_T_refuseUnlessInRange 12 = .ok (.new 108, 3) := by decide +kernel
theorem d_T_refuseUnlessInRange_15 : decode b_T_refuseUnlessInRange 15 = .ok (.dup, 1) := by decide +kernel
theorem d_T_refuseUnlessInRange_16 : decode b_T_refuseUnlessInRange 16 = .ok (.ldc 115, 2) := by decide +kernel
theorem d_T_refuseUnlessInRange_18 : decode b_T_refuseUnlessInRange 18 = .ok (.invokespecial 112, 3) := by decide +kernel
theorem d_T_refuseUnlessInRange_21 : decode b_T_refuseUnlessInRange 21 = .ok (.athrow, 1) := by decide +kernel
theorem d_T_refuseUnlessInRange_22 : decode b_T_refuseUnlessInRange 22 = .ok (.return_, 1) := by decide +kernel
theorem d_T_shiftOf_0 : decode b_T_shiftOf 0 = .ok (.lload_n 0, 1) := by decide +kernel
theorem d_T_shiftOf_1 : decode b_T_shiftOf 1 = .ok (.invokestatic 105, 3) := by decide +kernel
theorem d_T_shiftOf_4 : decode b_T_shiftOf 4 = .ok (.iconst 1, 1) := by decide +kernel
theorem d_T_shiftOf_5 : decode b_T_shiftOf 5 = .ok (.invokestatic 121, 3) := by decide +kernel
theorem d_T_shiftOf_8 : decode b_T_shiftOf 8 = .ok (.iconst 1, 1) := by decide +kernel
theorem d_T_shiftOf_9 : decode b_T_shiftOf 9 = .ok (.isub, 1) := by decide +kernel
theorem d_T_shiftOf_10 : decode b_T_shiftOf 10 = .ok (.ireturn, 1) := by decide +kernel
theorem d_T_significandOf_0 : decode b_T_significandOf 0 = .ok (.lload_n 0, 1) := by decide +kernel
theorem d_T_significandOf_1 : decode b_T_significandOf 1 = .ok (.ldc2_w 117, 3) := by decide +kernel
theorem d_T_significandOf_4 : decode b_T_significandOf 4 = .ok (.land, 1) := by decide +kernel
theorem d_T_significandOf_5 : decode b_T_significandOf 5 = .ok (.lstore_n 2, 1) := by decide +kernel
theorem d_T_significandOf_6 : decode b_T_significandOf 6 = .ok (.lload_n 0, 1) := by decide +kernel
theorem d_T_significandOf_7 : decode b_T_significandOf 7 = .ok (.invokestatic 105, 3) := by decide +kernel
theorem d_T_significandOf_10 : decode b_T_significandOf 10 = .ok (.ifCond .ne 7, 3) := by decide +kernel
theorem d_T_significandOf_13 : decode b_T_significandOf 13 = .ok (.lload_n 2, 1) := by decide +kernel
theorem d_T_significandOf_14 : decode b_T_significandOf 14 = .ok (.goto 8, 3) := by decide +kernel
theorem d_T_significandOf_17 : decode b_T_significandOf 17 = .ok (.lload_n 2, 1) := by decide +kernel
theorem d_T_significandOf_18 : decode b_T_significandOf 18 = .ok (.ldc2_w 119, 3) := by decide +kernel
theorem d_T_significandOf_21 : decode b_T_significandOf 21 = .ok (.lor, 1) := by decide +kernel
theorem d_T_significandOf_22 : decode b_T_significandOf 22 = .ok (.lreturn, 1) := by decide +kernel
theorem d_T_plus_0 : decode b_T_plus 0 = .ok (.aload_n 0, 1) := by decide +kernel
theorem d_T_plus_1 : decode b_T_plus 1 = .ok (.iload_n 1, 1) := by decide +kernel
theorem d_T_plus_2 : decode b_T_plus 2 = .ok (.invokevirtual 26, 3) := by decide +kernel
theorem d_T_plus_5 : decode b_T_plus 5 = .ok (.astore 4, 2) := by decide +kernel
theorem d_T_plus_7 : decode b_T_plus 7 = .ok (.aload_n 0, 1) := by decide +kernel
theorem d_T_plus_8 : decode b_T_plus 8 = .ok (.iload_n 2, 1) := by decide +kernel
theorem d_T_plus_9 : decode b_T_plus 9 = .ok (.invokevirtual 26, 3) := by decide +kernel
theorem d_T_plus_12 : decode b_T_plus 12 = .ok (.astore 5, 2) := by decide +kernel
theorem d_T_plus_14 : decode b_T_plus 14 = .ok (.iload_n 3, 1) := by decide +kernel
theorem d_T_plus_15 : decode b_T_plus 15 = .ok (.invokestatic 37, 3) := by decide +kernel
theorem d_T_plus_18 : decode b_T_plus 18 = .ok (.aload_n 0, 1) := by decide +kernel
theorem d_T_plus_19 : decode b_T_plus 19 = .ok (.getfield 20, 3) := by decide +kernel
theorem d_T_plus_22 : decode b_T_plus 22 = .ok (.aload 4, 2) := by decide +kernel
theorem d_T_plus_24 : decode b_T_plus 24 = .ok (.invokevirtual 59, 3) := by decide +kernel
theorem d_T_plus_27 : decode b_T_plus 27 = .ok (.aload_n 0, 1) := by decide +kernel
theorem d_T_plus_28 : decode b_T_plus 28 = .ok (.getfield 20, 3) := by decide +kernel
theorem d_T_plus_31 : decode b_T_plus 31 = .ok (.aload 5, 2) := by decide +kernel
theorem d_T_plus_33 : decode b_T_plus 33 = .ok (.iload_n 3, 1) := by decide +kernel
theorem d_T_plus_34 : decode b_T_plus 34 = .ok (.invokevirtual 55, 3) := by decide +kernel
theorem d_T_plus_37 : decode b_T_plus 37 = .ok (.aload_n 0, 1) := by decide +kernel
theorem d_T_plus_38 : decode b_T_plus 38 = .ok (.aload_n 0, 1) := by decide +kernel
theorem d_T_plus_39 : decode b_T_plus 39 = .ok (.getfield 20, 3) := by decide +kernel
theorem d_T_plus_42 : decode b_T_plus 42 = .ok (.invokevirtual 63, 3) := by decide +kernel
theorem d_T_plus_45 : decode b_T_plus 45 = .ok (.invokevirtual 67, 3) := by decide +kernel
theorem d_T_plus_48 : decode b_T_plus 48 = .ok (.sipush 6372, 3) := by decide +kernel
theorem d_T_plus_51 : decode b_T_plus 51 = .ok (.if_icmp .lt 13, 3) := by decide +kernel
theorem d_T_plus_54 : decode b_T_plus 54 = .ok (.new 71, 3) := by decide +kernel
theorem d_T_plus_57 : decode b_T_plus 57 = .ok (.dup, 1) := by decide +kernel
theorem d_T_plus_58 : decode b_T_plus 58 = .ok (.ldc 73, 2) := by decide +kernel
theorem d_T_plus_60 : decode b_T_plus 60 = .ok (.invokespecial 75, 3) := by decide +kernel
theorem d_T_plus_63 : decode b_T_plus 63 = .ok (.athrow, 1) := by decide +kernel
theorem d_T_plus_64 : decode b_T_plus 64 = .ok (.aload 4, 2) := by decide +kernel
theorem d_T_plus_66 : decode b_T_plus 66 = .ok (.aload_n 0, 1) := by decide +kernel
theorem d_T_plus_67 : decode b_T_plus 67 = .ok (.getfield 20, 3) := by decide +kernel
theorem d_T_plus_70 : decode b_T_plus 70 = .ok (.invokevirtual 59, 3) := by decide +kernel
theorem d_T_plus_73 : decode b_T_plus 73 = .ok (.return_, 1) := by decide +kernel
theorem d_T_sizeOf_0 : decode b_T_sizeOf 0 = .ok (.aload_n 0, 1) := by decide +kernel
theorem d_T_sizeOf_1 : decode b_T_sizeOf 1 = .ok (.getfield 23, 3) := by decide +kernel
theorem d_T_sizeOf_4 : decode b_T_sizeOf 4 = .ok (.invokevirtual 30, 3) := by decide +kernel
theorem d_T_sizeOf_7 : decode b_T_sizeOf 7 = .ok (.aload_n 0, 1) := by decide +kernel
theorem d_T_sizeOf_8 : decode b_T_sizeOf 8 = .ok (.getfield 23, 3) := by decide +kernel
theorem d_T_sizeOf_11 : decode b_T_sizeOf 11 = .ok (.aload_n 1, 1) := by decide +kernel
theorem d_T_sizeOf_12 : decode b_T_sizeOf 12 = .ok (.aload_n 1, 1) := by decide +kernel
theorem d_T_sizeOf_13 : decode b_T_sizeOf 13 = .ok (.invokevirtual 78, 3) := by decide +kernel
theorem d_T_sizeOf_16 : decode b_T_sizeOf 16 = .ok (.invokevirtual 55, 3) := by decide +kernel
theorem d_T_sizeOf_19 : decode b_T_sizeOf 19 = .ok (.aload_n 0, 1) := by decide +kernel
theorem d_T_sizeOf_20 : decode b_T_sizeOf 20 = .ok (.getfield 23, 3) := by decide +kernel
theorem d_T_sizeOf_23 : decode b_T_sizeOf 23 = .ok (.areturn, 1) := by decide +kernel
theorem d_T_sign_0 : decode b_T_sign 0 = .ok (.aload_n 0, 1) := by decide +kernel
theorem d_T_sign_1 : decode b_T_sign 1 = .ok (.iload_n 1, 1) := by decide +kernel
theorem d_T_sign_2 : decode b_T_sign 2 = .ok (.invokevirtual 26, 3) := by decide +kernel
theorem d_T_sign_5 : decode b_T_sign 5 = .ok (.invokevirtual 78, 3) := by decide +kernel
theorem d_T_sign_8 : decode b_T_sign 8 = .ok (.ireturn, 1) := by decide +kernel
theorem d_T_compare_0 : decode b_T_compare 0 = .ok (.aload_n 0, 1) := by decide +kernel
theorem d_T_compare_1 : decode b_T_compare 1 = .ok (.iload_n 1, 1) := by decide +kernel
theorem d_T_compare_2 : decode b_T_compare 2 = .ok (.invokevirtual 26, 3) := by decide +kernel
theorem d_T_compare_5 : decode b_T_compare 5 = .ok (.astore_n 3, 1) := by decide +kernel
theorem d_T_compare_6 : decode b_T_compare 6 = .ok (.aload_n 0, 1) := by decide +kernel
theorem d_T_compare_7 : decode b_T_compare 7 = .ok (.iload_n 2, 1) := by decide +kernel
theorem d_T_compare_8 : decode b_T_compare 8 = .ok (.invokevirtual 26, 3) := by decide +kernel
theorem d_T_compare_11 : decode b_T_compare 11 = .ok (.astore 4, 2) := by decide +kernel
theorem d_T_compare_13 : decode b_T_compare 13 = .ok (.aload_n 0, 1) := by decide +kernel
theorem d_T_compare_14 : decode b_T_compare 14 = .ok (.getfield 20, 3) := by decide +kernel
theorem d_T_compare_17 : decode b_T_compare 17 = .ok (.aload_n 3, 1) := by decide +kernel
theorem d_T_compare_18 : decode b_T_compare 18 = .ok (.invokevirtual 59, 3) := by decide +kernel
theorem d_T_compare_21 : decode b_T_compare 21 = .ok (.aload_n 0, 1) := by decide +kernel
theorem d_T_compare_22 : decode b_T_compare 22 = .ok (.getfield 20, 3) := by decide +kernel
theorem d_T_compare_25 : decode b_T_compare 25 = .ok (.aload 4, 2) := by decide +kernel
theorem d_T_compare_27 : decode b_T_compare 27 = .ok (.iconst (-1), 1) := by decide +kernel
theorem d_T_compare_28 : decode b_T_compare 28 = .ok (.invokevirtual 55, 3) := by decide +kernel
theorem d_T_compare_31 : decode b_T_compare 31 = .ok (.aload_n 0, 1) := by decide +kernel
theorem d_T_compare_32 : decode b_T_compare 32 = .ok (.getfield 20, 3) := by decide +kernel
theorem d_T_compare_35 : decode b_T_compare 35 = .ok (.invokevirtual 78, 3) := by decide +kernel
theorem d_T_compare_38 : decode b_T_compare 38 = .ok (.ireturn, 1) := by decide +kernel
theorem d_T_compareSizes_0 : decode b_T_compareSizes 0 = .ok (.aload_n 0, 1) := by decide +kernel
theorem d_T_compareSizes_1 : decode b_T_compareSizes 1 = .ok (.iload_n 1, 1) := by decide +kernel
theorem d_T_compareSizes_2 : decode b_T_compareSizes 2 = .ok (.invokevirtual 26, 3) := by decide +kernel
theorem d_T_compareSizes_5 : decode b_T_compareSizes 5 = .ok (.astore_n 3, 1) := by decide +kernel
theorem d_T_compareSizes_6 : decode b_T_compareSizes 6 = .ok (.aload_n 0, 1) := by decide +kernel
theorem d_T_compareSizes_7 : decode b_T_compareSizes 7 = .ok (.iload_n 2, 1) := by decide +kernel
theorem d_T_compareSizes_8 : decode b_T_compareSizes 8 = .ok (.invokevirtual 26, 3) := by decide +kernel
theorem d_T_compareSizes_11 : decode b_T_compareSizes 11 = .ok (.astore 4, 2) := by decide +kernel
theorem d_T_compareSizes_13 : decode b_T_compareSizes 13 = .ok (.aload_n 0, 1) := by decide +kernel
theorem d_T_compareSizes_14 : decode b_T_compareSizes 14 = .ok (.aload_n 3, 1) := by decide +kernel
theorem d_T_compareSizes_15 : decode b_T_compareSizes 15 = .ok (.invokevirtual 63, 3) := by decide +kernel
theorem d_T_compareSizes_18 : decode b_T_compareSizes 18 = .ok (.astore 5, 2) := by decide +kernel
theorem d_T_compareSizes_20 : decode b_T_compareSizes 20 = .ok (.aload 5, 2) := by decide +kernel
theorem d_T_compareSizes_22 : decode b_T_compareSizes 22 = .ok (.aload 4, 2) := by decide +kernel
theorem d_T_compareSizes_24 : decode b_T_compareSizes 24 = .ok (.aload 4, 2) := by decide +kernel
theorem d_T_compareSizes_26 : decode b_T_compareSizes 26 = .ok (.invokevirtual 78, 3) := by decide +kernel
theorem d_T_compareSizes_29 : decode b_T_compareSizes 29 = .ok (.ineg, 1) := by decide +kernel
theorem d_T_compareSizes_30 : decode b_T_compareSizes 30 = .ok (.invokevirtual 55, 3) := by decide +kernel
theorem d_T_compareSizes_33 : decode b_T_compareSizes 33 = .ok (.aload 5, 2) := by decide +kernel
theorem d_T_compareSizes_35 : decode b_T_compareSizes 35 = .ok (.invokevirtual 78, 3) := by decide +kernel
theorem d_T_compareSizes_38 : decode b_T_compareSizes 38 = .ok (.ireturn, 1) := by decide +kernel
theorem d_T_nearest_0 : decode b_T_nearest 0 = .ok (.aload_n 0, 1) := by decide +kernel
theorem d_T_nearest_1 : decode b_T_nearest 1 = .ok (.iload_n 1, 1) := by decide +kernel
theorem d_T_nearest_2 : decode b_T_nearest 2 = .ok (.invokevirtual 26, 3) := by decide +kernel
theorem d_T_nearest_5 : decode b_T_nearest 5 = .ok (.astore_n 2, 1) := by decide +kernel
theorem d_T_nearest_6 : decode b_T_nearest 6 = .ok (.aload_n 2, 1) := by decide +kernel
theorem d_T_nearest_7 : decode b_T_nearest 7 = .ok (.invokevirtual 78, 3) := by decide +kernel
theorem d_T_nearest_10 : decode b_T_nearest 10 = .ok (.ifCond .ge 9, 3) := by decide +kernel
theorem d_T_nearest_13 : decode b_T_nearest 13 = .ok (.ldc2_w 83, 3) := by decide +kernel
theorem d_T_nearest_16 : decode b_T_nearest 16 = .ok (.goto 4, 3) := by decide +kernel
theorem d_T_nearest_19 : decode b_T_nearest 19 = .ok (.lconst 0, 1) := by decide +kernel
theorem d_T_nearest_20 : decode b_T_nearest 20 = .ok (.lstore_n 3, 1) := by decide +kernel
theorem d_T_nearest_21 : decode b_T_nearest 21 = .ok (.lload_n 3, 1) := by decide +kernel
theorem d_T_nearest_22 : decode b_T_nearest 22 = .ok (.aload_n 0, 1) := by decide +kernel
theorem d_T_nearest_23 : decode b_T_nearest 23 = .ok (.aload_n 2, 1) := by decide +kernel
theorem d_T_nearest_24 : decode b_T_nearest 24 = .ok (.invokevirtual 63, 3) := by decide +kernel
theorem d_T_nearest_27 : decode b_T_nearest 27 = .ok (.invokestatic 85, 3) := by decide +kernel
theorem d_T_nearest_30 : decode b_T_nearest 30 = .ok (.lor, 1) := by decide +kernel
theorem d_T_nearest_31 : decode b_T_nearest 31 = .ok (.lreturn, 1) := by decide +kernel
theorem d_T_nearestToSize_0 : decode b_T_nearestToSize 0 = .ok (.aload_n 0, 1) := by decide +kernel
theorem d_T_nearestToSize_1 : decode b_T_nearestToSize 1 = .ok (.invokevirtual 67, 3) := by decide +kernel
theorem d_T_nearestToSize_4 : decode b_T_nearestToSize 4 = .ok (.istore_n 1, 1) := by decide +kernel
theorem d_T_nearestToSize_5 : decode b_T_nearestToSize 5 = .ok (.iload_n 1, 1) := by decide +kernel
theorem d_T_nearestToSize_6 : decode b_T_nearestToSize 6 = .ok (.sipush 4245, 3) := by decide +kernel
theorem d_T_nearestToSize_9 : decode b_T_nearestToSize 9 = .ok (.if_icmp .le 7, 3) := by decide +kernel
theorem d_T_nearestToSize_12 : decode b_T_nearestToSize 12 = .ok (.ldc2_w 133, 3) := by decide +kernel
theorem d_T_nearestToSize_15 : decode b_T_nearestToSize 15 = .ok (.lreturn, 1) := by decide +kernel
theorem d_T_nearestToSize_16 : decode b_T_nearestToSize 16 = .ok (.iload_n 1, 1) := by decide +kernel
theorem d_T_nearestToSize_17 : decode b_T_nearestToSize 17 = .ok (.bipush 52, 2) := by decide +kernel
theorem d_T_nearestToSize_19 : decode b_T_nearestToSize 19 = .ok (.isub, 1) := by decide +kernel
theorem d_T_nearestToSize_20 : decode b_T_nearestToSize 20 = .ok (.sipush 2148, 3) := by decide +kernel
theorem d_T_nearestToSize_23 : decode b_T_nearestToSize 23 = .ok (.invokestatic 121, 3) := by decide +kernel
theorem d_T_nearestToSize_26 : decode b_T_nearestToSize 26 = .ok (.istore_n 2, 1) := by decide +kernel
theorem d_T_nearestToSize_27 : decode b_T_nearestToSize 27 = .ok (.aload_n 0, 1) := by decide +kernel
theorem d_T_nearestToSize_28 : decode b_T_nearestToSize 28 = .ok (.iload_n 2, 1) := by decide +kernel
theorem d_T_nearestToSize_29 : decode b_T_nearestToSize 29 = .ok (.i2l, 1) := by decide +kernel
theorem d_T_nearestToSize_30 : decode b_T_nearestToSize 30 = .ok (.invokevirtual 130, 3) := by decide +kernel
theorem d_T_nearestToSize_33 : decode b_T_nearestToSize 33 = .ok (.lstore_n 3, 1) := by decide +kernel
theorem d_T_nearestToSize_34 : decode b_T_nearestToSize 34 = .ok (.aload_n 0, 1) := by decide +kernel
theorem d_T_nearestToSize_35 : decode b_T_nearestToSize 35 = .ok (.iload_n 2, 1) := by decide +kernel
theorem d_T_nearestToSize_36 : decode b_T_nearestToSize 36 = .ok (.lload_n 3, 1) := by decide +kernel
theorem d_T_nearestToSize_37 : decode b_T_nearestToSize 37 = .ok (.invokestatic 135, 3) := by decide +kernel
theorem d_T_nearestToSize_40 : decode b_T_nearestToSize 40 = .ok (.ifCond .eq 7, 3) := by decide +kernel
theorem d_T_nearestToSize_43 : decode b_T_nearestToSize 43 = .ok (.lload_n 3, 1) := by decide +kernel
theorem d_T_nearestToSize_44 : decode b_T_nearestToSize 44 = .ok (.lconst 1, 1) := by decide +kernel
theorem d_T_nearestToSize_45 : decode b_T_nearestToSize 45 = .ok (.ladd, 1) := by decide +kernel
theorem d_T_nearestToSize_46 : decode b_T_nearestToSize 46 = .ok (.lstore_n 3, 1) := by decide +kernel
theorem d_T_nearestToSize_47 : decode b_T_nearestToSize 47 = .ok (.iload_n 2, 1) := by decide +kernel
theorem d_T_nearestToSize_48 : decode b_T_nearestToSize 48 = .ok (.sipush 2148, 3) := by decide +kernel
theorem d_T_nearestToSize_51 : decode b_T_nearestToSize 51 = .ok (.isub, 1) := by decide +kernel
theorem d_T_nearestToSize_52 : decode b_T_nearestToSize 52 = .ok (.i2l, 1) := by decide +kernel
theorem d_T_nearestToSize_53 : decode b_T_nearestToSize 53 = .ok (.bipush 52, 2) := by decide +kernel
theorem d_T_nearestToSize_55 : decode b_T_nearestToSize 55 = .ok (.lshl, 1) := by decide +kernel
theorem d_T_nearestToSize_56 : decode b_T_nearestToSize 56 = .ok (.lload_n 3, 1) := by decide +kernel
theorem d_T_nearestToSize_57 : decode b_T_nearestToSize 57 = .ok (.ladd, 1) := by decide +kernel
theorem d_T_nearestToSize_58 : decode b_T_nearestToSize 58 = .ok (.lreturn, 1) := by decide +kernel
theorem d_T_roundsUp_0 : decode b_T_roundsUp 0 = .ok (.iload_n 1, 1) := by decide +kernel
theorem d_T_roundsUp_1 : decode b_T_roundsUp 1 = .ok (.iconst 1, 1) := by decide +kernel
theorem d_T_roundsUp_2 : decode b_T_roundsUp 2 = .ok (.isub, 1) := by decide +kernel
theorem d_T_roundsUp_3 : decode b_T_roundsUp 3 = .ok (.istore 4, 2) := by decide +kernel
theorem d_T_roundsUp_5 : decode b_T_roundsUp 5 = .ok (.aload_n 0, 1) := by decide +kernel
theorem d_T_roundsUp_6 : decode b_T_roundsUp 6 = .ok (.iload 4, 2) := by decide +kernel
theorem d_T_roundsUp_8 : decode b_T_roundsUp 8 = .ok (.i2l, 1) := by decide +kernel
theorem d_T_roundsUp_9 : decode b_T_roundsUp 9 = .ok (.invokevirtual 130, 3) := by decide +kernel
theorem d_T_roundsUp_12 : decode b_T_roundsUp 12 = .ok (.lconst 1, 1) := by decide +kernel
theorem d_T_roundsUp_13 : decode b_T_roundsUp 13 = .ok (.land, 1) := by decide +kernel
theorem d_T_roundsUp_14 : decode b_T_roundsUp 14 = .ok (.lconst 0, 1) := by decide +kernel
theorem d_T_roundsUp_15 : decode b_T_roundsUp 15 = .ok (.lcmp, 1) := by decide +kernel
theorem d_T_roundsUp_16 : decode b_T_roundsUp 16 = .ok (.ifCond .ne 5, 3) := by decide +kernel
theorem d_T_roundsUp_19 : decode b_T_roundsUp 19 = .ok (.iconst 0, 1) := by decide +kernel
theorem d_T_roundsUp_20 : decode b_T_roundsUp 20 = .ok (.ireturn, 1) := by decide +kernel
theorem d_T_roundsUp_21 : decode b_T_roundsUp 21 = .ok (.lload_n 2, 1) := by decide +kernel
theorem d_T_roundsUp_22 : decode b_T_roundsUp 22 = .ok (.lconst 1, 1) := by decide +kernel
theorem d_T_roundsUp_23 : decode b_T_roundsUp 23 = .ok (.land, 1) := by decide +kernel
theorem d_T_roundsUp_24 : decode b_T_roundsUp 24 = .ok (.lconst 0, 1) := by decide +kernel
theorem d_T_roundsUp_25 : decode b_T_roundsUp 25 = .ok (.lcmp, 1) := by decide +kernel
theorem d_T_roundsUp_26 : decode b_T_roundsUp 26 = .ok (.ifCond .ne 12, 3) := by decide +kernel
theorem d_T_roundsUp_29 : decode b_T_roundsUp 29 = .ok (.aload_n 0, 1) := by decide +kernel
theorem d_T_roundsUp_30 : decode b_T_roundsUp 30 = .ok (.invokevirtual 93, 3) := by decide +kernel
theorem d_T_roundsUp_33 : decode b_T_roundsUp 33 = .ok (.iload 4, 2) := by decide +kernel
theorem d_T_roundsUp_35 : decode b_T_roundsUp 35 = .ok (.if_icmp .ge 7, 3) := by decide +kernel
theorem d_T_roundsUp_38 : decode b_T_roundsUp 38 = .ok (.iconst 1, 1) := by decide +kernel
theorem d_T_roundsUp_39 : decode b_T_roundsUp 39 = .ok (.goto 4, 3) := by decide +kernel
theorem d_T_roundsUp_42 : decode b_T_roundsUp 42 = .ok (.iconst 0, 1) := by decide +kernel
theorem d_T_roundsUp_43 : decode b_T_roundsUp 43 = .ok (.ireturn, 1) := by decide +kernel
theorem d_T_top_0 : decode b_T_top 0 = .ok (.aload_n 0, 1) := by decide +kernel
theorem d_T_top_1 : decode b_T_top 1 = .ok (.aload_n 0, 1) := by decide +kernel
theorem d_T_top_2 : decode b_T_top 2 = .ok (.iload_n 1, 1) := by decide +kernel
theorem d_T_top_3 : decode b_T_top 3 = .ok (.invokevirtual 26, 3) := by decide +kernel
theorem d_T_top_6 : decode b_T_top 6 = .ok (.invokevirtual 63, 3) := by decide +kernel
theorem d_T_top_9 : decode b_T_top 9 = .ok (.invokevirtual 67, 3) := by decide +kernel
theorem d_T_top_12 : decode b_T_top 12 = .ok (.invokestatic 89, 3) := by decide +kernel
theorem d_T_top_15 : decode b_T_top 15 = .ok (.ireturn, 1) := by decide +kernel
theorem d_T_powerAt_0 : decode b_T_powerAt 0 = .ok (.iload_n 0, 1) := by decide +kernel
theorem d_T_powerAt_1 : decode b_T_powerAt 1 = .ok (.ldc 127, 2) := by decide +kernel
theorem d_T_powerAt_3 : decode b_T_powerAt 3 = .ok (.if_icmp .ne 8, 3) := by decide +kernel
theorem d_T_powerAt_6 : decode b_T_powerAt 6 = .ok (.ldc 127, 2) := by decide +kernel
theorem d_T_powerAt_8 : decode b_T_powerAt 8 = .ok (.goto 8, 3) := by decide +kernel
theorem d_T_powerAt_11 : decode b_T_powerAt 11 = .ok (.iload_n 0, 1) := by decide +kernel
theorem d_T_powerAt_12 : decode b_T_powerAt 12 = .ok (.sipush (-3222), 3) := by decide +kernel
theorem d_T_powerAt_15 : decode b_T_powerAt 15 = .ok (.iadd, 1) := by decide +kernel
theorem d_T_powerAt_16 : decode b_T_powerAt 16 = .ok (.ireturn, 1) := by decide +kernel
theorem d_T_bottom_0 : decode b_T_bottom 0 = .ok (.aload_n 0, 1) := by decide +kernel
theorem d_T_bottom_1 : decode b_T_bottom 1 = .ok (.aload_n 0, 1) := by decide +kernel
theorem d_T_bottom_2 : decode b_T_bottom 2 = .ok (.iload_n 1, 1) := by decide +kernel
theorem d_T_bottom_3 : decode b_T_bottom 3 = .ok (.invokevirtual 26, 3) := by decide +kernel
theorem d_T_bottom_6 : decode b_T_bottom 6 = .ok (.invokevirtual 63, 3) := by decide +kernel
theorem d_T_bottom_9 : decode b_T_bottom 9 = .ok (.invokevirtual 93, 3) := by decide +kernel
theorem d_T_bottom_12 : decode b_T_bottom 12 = .ok (.invokestatic 89, 3) := by decide +kernel
theorem d_T_bottom_15 : decode b_T_bottom 15 = .ok (.ireturn, 1) := by decide +kernel
theorem d_T_bit_0 : decode b_T_bit 0 = .ok (.aload_n 0, 1) := by decide +kernel
theorem d_T_bit_1 : decode b_T_bit 1 = .ok (.aload_n 0, 1) := by decide +kernel
theorem d_T_bit_2 : decode b_T_bit 2 = .ok (.iload_n 1, 1) := by decide +kernel
theorem d_T_bit_3 : decode b_T_bit 3 = .ok (.invokevirtual 26, 3) := by decide +kernel
theorem d_T_bit_6 : decode b_T_bit 6 = .ok (.iload_n 2, 1) := by decide +kernel
theorem d_T_bit_7 : decode b_T_bit 7 = .ok (.invokevirtual 96, 3) := by decide +kernel
theorem d_T_bit_10 : decode b_T_bit 10 = .ok (.lconst 1, 1) := by decide +kernel
theorem d_T_bit_11 : decode b_T_bit 11 = .ok (.land, 1) := by decide +kernel
theorem d_T_bit_12 : decode b_T_bit 12 = .ok (.lconst 0, 1) := by decide +kernel
theorem d_T_bit_13 : decode b_T_bit 13 = .ok (.lcmp, 1) := by decide +kernel
theorem d_T_bit_14 : decode b_T_bit 14 = .ok (.ifCond .eq 7, 3) := by decide +kernel
theorem d_T_bit_17 : decode b_T_bit 17 = .ok (.iconst 1, 1) := by decide +kernel
theorem d_T_bit_18 : decode b_T_bit 18 = .ok (.goto 4, 3) := by decide +kernel
theorem d_T_bit_21 : decode b_T_bit 21 = .ok (.iconst 0, 1) := by decide +kernel
theorem d_T_bit_22 : decode b_T_bit 22 = .ok (.ireturn, 1) := by decide +kernel
theorem d_T_wordOfSize_0 : decode b_T_wordOfSize 0 = .ok (.aload_n 0, 1) := by decide +kernel
theorem d_T_wordOfSize_1 : decode b_T_wordOfSize 1 = .ok (.aload_n 1, 1) := by decide +kernel
theorem d_T_wordOfSize_2 : decode b_T_wordOfSize 2 = .ok (.invokevirtual 63, 3) := by decide +kernel
theorem d_T_wordOfSize_5 : decode b_T_wordOfSize 5 = .ok (.iload_n 2, 1) := by decide +kernel
theorem d_T_wordOfSize_6 : decode b_T_wordOfSize 6 = .ok (.i2l, 1) := by decide +kernel
theorem d_T_wordOfSize_7 : decode b_T_wordOfSize 7 = .ok (.ldc2_w 128, 3) := by decide +kernel
theorem d_T_wordOfSize_10 : decode b_T_wordOfSize 10 = .ok (.lsub, 1) := by decide +kernel
theorem d_T_wordOfSize_11 : decode b_T_wordOfSize 11 = .ok (.invokevirtual 130, 3) := by decide +kernel
theorem d_T_wordOfSize_14 : decode b_T_wordOfSize 14 = .ok (.lreturn, 1) := by decide +kernel
theorem d_T_word_0 : decode b_T_word 0 = .ok (.aload_n 0, 1) := by decide +kernel
theorem d_T_word_1 : decode b_T_word 1 = .ok (.aload_n 0, 1) := by decide +kernel
theorem d_T_word_2 : decode b_T_word 2 = .ok (.iload_n 1, 1) := by decide +kernel
theorem d_T_word_3 : decode b_T_word 3 = .ok (.invokevirtual 26, 3) := by decide +kernel
theorem d_T_word_6 : decode b_T_word 6 = .ok (.iload_n 2, 1) := by decide +kernel
theorem d_T_word_7 : decode b_T_word 7 = .ok (.invokevirtual 96, 3) := by decide +kernel
theorem d_T_word_10 : decode b_T_word 10 = .ok (.lreturn, 1) := by decide +kernel
