def w_L_clear : List Cond := .codeWith y_L_clear b_L_clear 3 (some .int) [(0, 5, 8, 13)] :: (([.classLink R_L 13 ts_IO, .methodLink R_L 7 y_T_clear, .instanceMethod y_T_clear, .selects R_T y_T_clear y_T_clear, .initialized R_T, .code y_T_clear b_T_clear 2 none, .methodLink R_T 26 y_T_sumAt, .instanceMethod y_T_sumAt, .selects R_T y_T_sumAt y_T_sumAt, .code y_T_sumAt b_T_sumAt 2 (some (.object "TripleSums$Whole")), .fieldLink R_T 11 "TripleSums" "sums" "[LTripleSums$Whole;", .methodLink R_T 30 y_W_setZero, .instanceMethod y_W_setZero, .selects R_W y_W_setZero y_W_setZero, .initialized R_W, .code y_W_setZero b_W_setZero 1 none, .fieldLink R_W 9 "TripleSums$Whole" "limbs" "[J", .methodLink R_W 15 y_A_fill, .static y_A_fill, .initialized R_A, .code y_A_fill b_A_fill 5 none, .classLink R_T 100 ts_IO, .initialized ts_IO] ++ v_T ++ v_W) ++ ts_atIO)
def w_L_add : List Cond := .codeWith y_L_add b_L_add 10 (some .int) [(0, 12, 15, 13), (0, 12, 19, 19)] :: (([.classLink R_L 13 ts_IO, .classLink R_L 19 ts_IA, .methodLink R_L 15 y_T_add, .instanceMethod y_T_add, .selects R_T y_T_add y_T_add, .initialized R_T, .code y_T_add b_T_add 11 none, .methodLink R_T 26 y_T_sumAt, .instanceMethod y_T_sumAt, .selects R_T y_T_sumAt y_T_sumAt, .code y_T_sumAt b_T_sumAt 2 (some (.object "TripleSums$Whole")), .fieldLink R_T 11 "TripleSums" "sums" "[LTripleSums$Whole;", .methodLink R_T 33 y_T_refuseUnlessFinite, .static y_T_refuseUnlessFinite, .code y_T_refuseUnlessFinite b_T_refuseUnlessFinite 2 none, .methodLink R_T 105 y_T_exponentOf, .static y_T_exponentOf, .code y_T_exponentOf b_T_exponentOf 2 (some .int), .methodLink R_T 37 y_T_refuseUnlessInRange, .static y_T_refuseUnlessInRange, .code y_T_refuseUnlessInRange b_T_refuseUnlessInRange 1 none, .constant R_T 113 (-1000000), .constant R_T 114 (1000000), .fieldLink R_T 16 "TripleSums" "product" "LTripleSums$Whole;", .methodLink R_T 41 y_T_shiftOf, .static y_T_shiftOf, .code y_T_shiftOf b_T_shiftOf 2 (some .int), .methodLink R_T 121 Lib.Math.max.name, .static Lib.Math.max.name, .initialized "java/lang/Math", .code Lib.Math.max.name Lib.Math.max.code 2 (some .int), .methodLink R_T 45 y_W_setPowerOfTwo, .instanceMethod y_W_setPowerOfTwo, .selects R_W y_W_setPowerOfTwo y_W_setPowerOfTwo, .initialized R_W, .code y_W_setPowerOfTwo b_W_setPowerOfTwo 3 none, .methodLink R_W 21 y_W_setZero, .instanceMethod y_W_setZero, .selects R_W y_W_setZero y_W_setZero, .code y_W_setZero b_W_setZero 1 none, .fieldLink R_W 9 "TripleSums$Whole" "limbs" "[J", .methodLink R_W 15 y_A_fill, .static y_A_fill, .initialized R_A, .code y_A_fill b_A_fill 5 none, .methodLink R_T 48 y_T_significandOf, .static y_T_significandOf, .code y_T_significandOf b_T_significandOf 4 (some .long), .constantLong R_T 117 (4503599627370495), .constantLong R_T 119 (4503599627370496), .methodLink R_T 52 y_W_multiply, .instanceMethod y_W_multiply, .selects R_W y_W_multiply y_W_multiply, .code y_W_multiply b_W_multiply 12 none, .constantLong R_W 30 (4294967295), .methodLink R_T 55 y_W_increase, .instanceMethod y_W_increase, .selects R_W y_W_increase y_W_increase, .code y_W_increase b_W_increase 8 none, .classLink R_T 100 ts_IO, .initialized ts_IO, .classLink R_T 108 ts_IA, .initialized ts_IA] ++ v_T ++ v_W) ++ ts_atIO ++ ts_atIA)
def w_L_plus : List Cond := .codeWith y_L_plus b_L_plus 5 (some .int) [(0, 7, 10, 13), (0, 7, 14, 19), (0, 7, 18, 25)] :: (([.classLink R_L 13 ts_IO, .classLink R_L 19 ts_IA, .classLink R_L 25 ts_IS, .methodLink R_L 21 y_T_plus, .instanceMethod y_T_plus, .selects R_T y_T_plus y_T_plus, .initialized R_T, .code y_T_plus b_T_plus 6 none, .methodLink R_T 26 y_T_sumAt, .instanceMethod y_T_sumAt, .selects R_T y_T_sumAt y_T_sumAt, .code y_T_sumAt b_T_sumAt 2 (some (.object "TripleSums$Whole")), .fieldLink R_T 11 "TripleSums" "sums" "[LTripleSums$Whole;", .methodLink R_T 37 y_T_refuseUnlessInRange, .static y_T_refuseUnlessInRange, .code y_T_refuseUnlessInRange b_T_refuseUnlessInRange 1 none, .constant R_T 113 (-1000000), .constant R_T 114 (1000000), .fieldLink R_T 20 "TripleSums" "result" "LTripleSums$Whole;", .methodLink R_T 59 y_W_copyFrom, .instanceMethod y_W_copyFrom, .selects R_W y_W_copyFrom y_W_copyFrom, .initialized R_W, .code y_W_copyFrom b_W_copyFrom 2 none, .fieldLink R_W 9 "TripleSums$Whole" "limbs" "[J", .methodLink R_W 24 arraycopyName, .native arraycopyName, .static arraycopyName, .initialized "java/lang/System", .methodLink R_T 55 y_W_increase, .instanceMethod y_W_increase, .selects R_W y_W_increase y_W_increase, .code y_W_increase b_W_increase 8 none, .constantLong R_W 30 (4294967295), .methodLink R_T 63 y_T_sizeOf, .instanceMethod y_T_sizeOf, .selects R_T y_T_sizeOf y_T_sizeOf, .code y_T_sizeOf b_T_sizeOf 2 (some (.object "TripleSums$Whole")), .fieldLink R_T 23 "TripleSums" "size" "LTripleSums$Whole;", .methodLink R_T 30 y_W_setZero, .instanceMethod y_W_setZero, .selects R_W y_W_setZero y_W_setZero, .code y_W_setZero b_W_setZero 1 none, .methodLink R_W 15 y_A_fill, .static y_A_fill, .initialized R_A, .code y_A_fill b_A_fill 5 none, .methodLink R_T 78 y_W_signum, .instanceMethod y_W_signum, .selects R_W y_W_signum y_W_signum, .code y_W_signum b_W_signum 1 (some .int), .constantLong R_W 32 (2147483648), .methodLink R_W 34 y_W_highestPlace, .instanceMethod y_W_highestPlace, .selects R_W y_W_highestPlace y_W_highestPlace, .code y_W_highestPlace b_W_highestPlace 2 (some .int), .methodLink R_W 39 y_J_numberOfLeadingZeros, .static y_J_numberOfLeadingZeros, .initialized R_J, .code y_J_numberOfLeadingZeros b_J_numberOfLeadingZeros 3 (some .int), .methodLink R_J 308 y_I_numberOfLeadingZeros, .static y_I_numberOfLeadingZeros, .initialized R_I, .code y_I_numberOfLeadingZeros b_I_numberOfLeadingZeros 2 (some .int), .constant R_I 264 (65536), .constant R_W 38 (-100000), .methodLink R_T 67 y_W_highestPlace, .classLink R_T 100 ts_IO, .initialized ts_IO, .classLink R_T 108 ts_IA, .initialized ts_IA, .classLink R_T 71 ts_IS, .initialized ts_IS] ++ v_T ++ v_W) ++ ts_atIO ++ ts_atIA ++ ts_atIS)
def w_L_sign : List Cond := .codeWith y_L_sign b_L_sign 4 (some .int) [(0, 9, 12, 13)] :: (([.classLink R_L 13 ts_IO, .methodLink R_L 27 y_T_sign, .instanceMethod y_T_sign, .selects R_T y_T_sign y_T_sign, .initialized R_T, .code y_T_sign b_T_sign 2 (some .int), .methodLink R_T 26 y_T_sumAt, .instanceMethod y_T_sumAt, .selects R_T y_T_sumAt y_T_sumAt, .code y_T_sumAt b_T_sumAt 2 (some (.object "TripleSums$Whole")), .fieldLink R_T 11 "TripleSums" "sums" "[LTripleSums$Whole;", .methodLink R_T 78 y_W_signum, .instanceMethod y_W_signum, .selects R_W y_W_signum y_W_signum, .initialized R_W, .code y_W_signum b_W_signum 1 (some .int), .fieldLink R_W 9 "TripleSums$Whole" "limbs" "[J", .constantLong R_W 32 (2147483648), .methodLink R_W 34 y_W_highestPlace, .instanceMethod y_W_highestPlace, .selects R_W y_W_highestPlace y_W_highestPlace, .code y_W_highestPlace b_W_highestPlace 2 (some .int), .methodLink R_W 39 y_J_numberOfLeadingZeros, .static y_J_numberOfLeadingZeros, .initialized R_J, .code y_J_numberOfLeadingZeros b_J_numberOfLeadingZeros 3 (some .int), .methodLink R_J 308 y_I_numberOfLeadingZeros, .static y_I_numberOfLeadingZeros, .initialized R_I, .code y_I_numberOfLeadingZeros b_I_numberOfLeadingZeros 2 (some .int), .constant R_I 264 (65536), .constant R_W 38 (-100000), .classLink R_T 100 ts_IO, .initialized ts_IO] ++ v_T ++ v_W) ++ ts_atIO)
def w_L_compare : List Cond := .codeWith y_L_compare b_L_compare 5 (some .int) [(0, 10, 13, 13)] :: (([.classLink R_L 13 ts_IO, .methodLink R_L 31 y_T_compare, .instanceMethod y_T_compare, .selects R_T y_T_compare y_T_compare, .initialized R_T, .code y_T_compare b_T_compare 5 (some .int), .methodLink R_T 26 y_T_sumAt, .instanceMethod y_T_sumAt, .selects R_T y_T_sumAt y_T_sumAt, .code y_T_sumAt b_T_sumAt 2 (some (.object "TripleSums$Whole")), .fieldLink R_T 11 "TripleSums" "sums" "[LTripleSums$Whole;", .fieldLink R_T 20 "TripleSums" "result" "LTripleSums$Whole;", .methodLink R_T 59 y_W_copyFrom, .instanceMethod y_W_copyFrom, .selects R_W y_W_copyFrom y_W_copyFrom, .initialized R_W, .code y_W_copyFrom b_W_copyFrom 2 none, .fieldLink R_W 9 "TripleSums$Whole" "limbs" "[J", .methodLink R_W 24 arraycopyName, .native arraycopyName, .static arraycopyName, .initialized "java/lang/System", .methodLink R_T 55 y_W_increase, .instanceMethod y_W_increase, .selects R_W y_W_increase y_W_increase, .code y_W_increase b_W_increase 8 none, .constantLong R_W 30 (4294967295), .methodLink R_T 78 y_W_signum, .instanceMethod y_W_signum, .selects R_W y_W_signum y_W_signum, .code y_W_signum b_W_signum 1 (some .int), .constantLong R_W 32 (2147483648), .methodLink R_W 34 y_W_highestPlace, .instanceMethod y_W_highestPlace, .selects R_W y_W_highestPlace y_W_highestPlace, .code y_W_highestPlace b_W_highestPlace 2 (some .int), .methodLink R_W 39 y_J_numberOfLeadingZeros, .static y_J_numberOfLeadingZeros, .initialized R_J, .code y_J_numberOfLeadingZeros b_J_numberOfLeadingZeros 3 (some .int), .methodLink R_J 308 y_I_numberOfLeadingZeros, .static y_I_numberOfLeadingZeros, .initialized R_I, .code y_I_numberOfLeadingZeros b_I_numberOfLeadingZeros 2 (some .int), .constant R_I 264 (65536), .constant R_W 38 (-100000), .classLink R_T 100 ts_IO, .initialized ts_IO] ++ v_T ++ v_W) ++ ts_atIO)
def w_L_compareSizes : List Cond := .codeWith y_L_compareSizes b_L_compareSizes 5 (some .int) [(0, 10, 13, 13)] :: (([.classLink R_L 13 ts_IO, .methodLink R_L 35 y_T_compareSizes, .instanceMethod y_T_compareSizes, .selects R_T y_T_compareSizes y_T_compareSizes, .initialized R_T, .code y_T_compareSizes b_T_compareSizes 6 (some .int), .methodLink R_T 26 y_T_sumAt, .instanceMethod y_T_sumAt, .selects R_T y_T_sumAt y_T_sumAt, .code y_T_sumAt b_T_sumAt 2 (some (.object "TripleSums$Whole")), .fieldLink R_T 11 "TripleSums" "sums" "[LTripleSums$Whole;", .methodLink R_T 63 y_T_sizeOf, .instanceMethod y_T_sizeOf, .selects R_T y_T_sizeOf y_T_sizeOf, .code y_T_sizeOf b_T_sizeOf 2 (some (.object "TripleSums$Whole")), .fieldLink R_T 23 "TripleSums" "size" "LTripleSums$Whole;", .methodLink R_T 30 y_W_setZero, .instanceMethod y_W_setZero, .selects R_W y_W_setZero y_W_setZero, .initialized R_W, .code y_W_setZero b_W_setZero 1 none, .fieldLink R_W 9 "TripleSums$Whole" "limbs" "[J", .methodLink R_W 15 y_A_fill, .static y_A_fill, .initialized R_A, .code y_A_fill b_A_fill 5 none, .methodLink R_T 78 y_W_signum, .instanceMethod y_W_signum, .selects R_W y_W_signum y_W_signum, .code y_W_signum b_W_signum 1 (some .int), .constantLong R_W 32 (2147483648), .methodLink R_W 34 y_W_highestPlace, .instanceMethod y_W_highestPlace, .selects R_W y_W_highestPlace y_W_highestPlace, .code y_W_highestPlace b_W_highestPlace 2 (some .int), .methodLink R_W 39 y_J_numberOfLeadingZeros, .static y_J_numberOfLeadingZeros, .initialized R_J, .code y_J_numberOfLeadingZeros b_J_numberOfLeadingZeros 3 (some .int), .methodLink R_J 308 y_I_numberOfLeadingZeros, .static y_I_numberOfLeadingZeros, .initialized R_I, .code y_I_numberOfLeadingZeros b_I_numberOfLeadingZeros 2 (some .int), .constant R_I 264 (65536), .constant R_W 38 (-100000), .methodLink R_T 55 y_W_increase, .instanceMethod y_W_increase, .selects R_W y_W_increase y_W_increase, .code y_W_increase b_W_increase 8 none, .constantLong R_W 30 (4294967295), .classLink R_T 100 ts_IO, .initialized ts_IO] ++ v_T ++ v_W) ++ ts_atIO)
def w_L_nearest : List Cond := .codeWith y_L_nearest b_L_nearest 4 (some .int) [(0, 8, 11, 13)] :: (([.classLink R_L 13 ts_IO, .methodLink R_L 38 y_T_nearest, .instanceMethod y_T_nearest, .selects R_T y_T_nearest y_T_nearest, .initialized R_T, .code y_T_nearest b_T_nearest 5 (some .long), .methodLink R_T 26 y_T_sumAt, .instanceMethod y_T_sumAt, .selects R_T y_T_sumAt y_T_sumAt, .code y_T_sumAt b_T_sumAt 2 (some (.object "TripleSums$Whole")), .fieldLink R_T 11 "TripleSums" "sums" "[LTripleSums$Whole;", .methodLink R_T 78 y_W_signum, .instanceMethod y_W_signum, .selects R_W y_W_signum y_W_signum, .initialized R_W, .code y_W_signum b_W_signum 1 (some .int), .fieldLink R_W 9 "TripleSums$Whole" "limbs" "[J", .constantLong R_W 32 (2147483648), .methodLink R_W 34 y_W_highestPlace, .instanceMethod y_W_highestPlace, .selects R_W y_W_highestPlace y_W_highestPlace, .code y_W_highestPlace b_W_highestPlace 2 (some .int), .methodLink R_W 39 y_J_numberOfLeadingZeros, .static y_J_numberOfLeadingZeros, .initialized R_J, .code y_J_numberOfLeadingZeros b_J_numberOfLeadingZeros 3 (some .int), .methodLink R_J 308 y_I_numberOfLeadingZeros, .static y_I_numberOfLeadingZeros, .initialized R_I, .code y_I_numberOfLeadingZeros b_I_numberOfLeadingZeros 2 (some .int), .constant R_I 264 (65536), .constant R_W 38 (-100000), .constantLong R_T 83 (-9223372036854775808), .methodLink R_T 63 y_T_sizeOf, .instanceMethod y_T_sizeOf, .selects R_T y_T_sizeOf y_T_sizeOf, .code y_T_sizeOf b_T_sizeOf 2 (some (.object "TripleSums$Whole")), .fieldLink R_T 23 "TripleSums" "size" "LTripleSums$Whole;", .methodLink R_T 30 y_W_setZero, .instanceMethod y_W_setZero, .selects R_W y_W_setZero y_W_setZero, .code y_W_setZero b_W_setZero 1 none, .methodLink R_W 15 y_A_fill, .static y_A_fill, .initialized R_A, .code y_A_fill b_A_fill 5 none, .methodLink R_T 55 y_W_increase, .instanceMethod y_W_increase, .selects R_W y_W_increase y_W_increase, .code y_W_increase b_W_increase 8 none, .constantLong R_W 30 (4294967295), .methodLink R_T 85 y_T_nearestToSize, .static y_T_nearestToSize, .code y_T_nearestToSize b_T_nearestToSize 5 (some .long), .methodLink R_T 67 y_W_highestPlace, .constantLong R_T 133 (9218868437227405312), .methodLink R_T 121 Lib.Math.max.name, .static Lib.Math.max.name, .initialized "java/lang/Math", .code Lib.Math.max.name Lib.Math.max.code 2 (some .int), .methodLink R_T 130 y_W_wordFrom, .instanceMethod y_W_wordFrom, .selects R_W y_W_wordFrom y_W_wordFrom, .code y_W_wordFrom b_W_wordFrom 7 (some .long), .constantLong R_W 48 (31), .methodLink R_W 50 y_W_limbAt, .instanceMethod y_W_limbAt, .selects R_W y_W_limbAt y_W_limbAt, .code y_W_limbAt b_W_limbAt 2 (some .long), .methodLink R_T 135 y_T_roundsUp, .static y_T_roundsUp, .code y_T_roundsUp b_T_roundsUp 5 (some .boolean), .methodLink R_T 93 y_W_lowestPlace, .instanceMethod y_W_lowestPlace, .selects R_W y_W_lowestPlace y_W_lowestPlace, .code y_W_lowestPlace b_W_lowestPlace 2 (some .int), .methodLink R_W 45 y_J_numberOfTrailingZeros, .static y_J_numberOfTrailingZeros, .code y_J_numberOfTrailingZeros b_J_numberOfTrailingZeros 3 (some .int), .methodLink R_J 311 y_I_numberOfTrailingZeros, .static y_I_numberOfTrailingZeros, .code y_I_numberOfTrailingZeros b_I_numberOfTrailingZeros 2 (some .int), .classLink R_T 100 ts_IO, .initialized ts_IO] ++ v_T ++ v_W) ++ ts_atIO)
def w_L_top : List Cond := .codeWith y_L_top b_L_top 4 (some .int) [(0, 9, 12, 13)] :: (([.classLink R_L 13 ts_IO, .methodLink R_L 42 y_T_top, .instanceMethod y_T_top, .selects R_T y_T_top y_T_top, .initialized R_T, .code y_T_top b_T_top 2 (some .int), .methodLink R_T 26 y_T_sumAt, .instanceMethod y_T_sumAt, .selects R_T y_T_sumAt y_T_sumAt, .code y_T_sumAt b_T_sumAt 2 (some (.object "TripleSums$Whole")), .fieldLink R_T 11 "TripleSums" "sums" "[LTripleSums$Whole;", .methodLink R_T 63 y_T_sizeOf, .instanceMethod y_T_sizeOf, .selects R_T y_T_sizeOf y_T_sizeOf, .code y_T_sizeOf b_T_sizeOf 2 (some (.object "TripleSums$Whole")), .fieldLink R_T 23 "TripleSums" "size" "LTripleSums$Whole;", .methodLink R_T 30 y_W_setZero, .instanceMethod y_W_setZero, .selects R_W y_W_setZero y_W_setZero, .initialized R_W, .code y_W_setZero b_W_setZero 1 none, .fieldLink R_W 9 "TripleSums$Whole" "limbs" "[J", .methodLink R_W 15 y_A_fill, .static y_A_fill, .initialized R_A, .code y_A_fill b_A_fill 5 none, .methodLink R_T 78 y_W_signum, .instanceMethod y_W_signum, .selects R_W y_W_signum y_W_signum, .code y_W_signum b_W_signum 1 (some .int), .constantLong R_W 32 (2147483648), .methodLink R_W 34 y_W_highestPlace, .instanceMethod y_W_highestPlace, .selects R_W y_W_highestPlace y_W_highestPlace, .code y_W_highestPlace b_W_highestPlace 2 (some .int), .methodLink R_W 39 y_J_numberOfLeadingZeros, .static y_J_numberOfLeadingZeros, .initialized R_J, .code y_J_numberOfLeadingZeros b_J_numberOfLeadingZeros 3 (some .int), .methodLink R_J 308 y_I_numberOfLeadingZeros, .static y_I_numberOfLeadingZeros, .initialized R_I, .code y_I_numberOfLeadingZeros b_I_numberOfLeadingZeros 2 (some .int), .constant R_I 264 (65536), .constant R_W 38 (-100000), .methodLink R_T 55 y_W_increase, .instanceMethod y_W_increase, .selects R_W y_W_increase y_W_increase, .code y_W_increase b_W_increase 8 none, .constantLong R_W 30 (4294967295), .methodLink R_T 67 y_W_highestPlace, .methodLink R_T 89 y_T_powerAt, .static y_T_powerAt, .code y_T_powerAt b_T_powerAt 1 (some .int), .constant R_T 127 (-100000), .classLink R_T 100 ts_IO, .initialized ts_IO] ++ v_T ++ v_W) ++ ts_atIO)
def w_L_bottom : List Cond := .codeWith y_L_bottom b_L_bottom 4 (some .int) [(0, 9, 12, 13)] :: (([.classLink R_L 13 ts_IO, .methodLink R_L 45 y_T_bottom, .instanceMethod y_T_bottom, .selects R_T y_T_bottom y_T_bottom, .initialized R_T, .code y_T_bottom b_T_bottom 2 (some .int), .methodLink R_T 26 y_T_sumAt, .instanceMethod y_T_sumAt, .selects R_T y_T_sumAt y_T_sumAt, .code y_T_sumAt b_T_sumAt 2 (some (.object "TripleSums$Whole")), .fieldLink R_T 11 "TripleSums" "sums" "[LTripleSums$Whole;", .methodLink R_T 63 y_T_sizeOf, .instanceMethod y_T_sizeOf, .selects R_T y_T_sizeOf y_T_sizeOf, .code y_T_sizeOf b_T_sizeOf 2 (some (.object "TripleSums$Whole")), .fieldLink R_T 23 "TripleSums" "size" "LTripleSums$Whole;", .methodLink R_T 30 y_W_setZero, .instanceMethod y_W_setZero, .selects R_W y_W_setZero y_W_setZero, .initialized R_W, .code y_W_setZero b_W_setZero 1 none, .fieldLink R_W 9 "TripleSums$Whole" "limbs" "[J", .methodLink R_W 15 y_A_fill, .static y_A_fill, .initialized R_A, .code y_A_fill b_A_fill 5 none, .methodLink R_T 78 y_W_signum, .instanceMethod y_W_signum, .selects R_W y_W_signum y_W_signum, .code y_W_signum b_W_signum 1 (some .int), .constantLong R_W 32 (2147483648), .methodLink R_W 34 y_W_highestPlace, .instanceMethod y_W_highestPlace, .selects R_W y_W_highestPlace y_W_highestPlace, .code y_W_highestPlace b_W_highestPlace 2 (some .int), .methodLink R_W 39 y_J_numberOfLeadingZeros, .static y_J_numberOfLeadingZeros, .initialized R_J, .code y_J_numberOfLeadingZeros b_J_numberOfLeadingZeros 3 (some .int), .methodLink R_J 308 y_I_numberOfLeadingZeros, .static y_I_numberOfLeadingZeros, .initialized R_I, .code y_I_numberOfLeadingZeros b_I_numberOfLeadingZeros 2 (some .int), .constant R_I 264 (65536), .constant R_W 38 (-100000), .methodLink R_T 55 y_W_increase, .instanceMethod y_W_increase, .selects R_W y_W_increase y_W_increase, .code y_W_increase b_W_increase 8 none, .constantLong R_W 30 (4294967295), .methodLink R_T 93 y_W_lowestPlace, .instanceMethod y_W_lowestPlace, .selects R_W y_W_lowestPlace y_W_lowestPlace, .code y_W_lowestPlace b_W_lowestPlace 2 (some .int), .methodLink R_W 45 y_J_numberOfTrailingZeros, .static y_J_numberOfTrailingZeros, .code y_J_numberOfTrailingZeros b_J_numberOfTrailingZeros 3 (some .int), .methodLink R_J 311 y_I_numberOfTrailingZeros, .static y_I_numberOfTrailingZeros, .code y_I_numberOfTrailingZeros b_I_numberOfTrailingZeros 2 (some .int), .methodLink R_T 89 y_T_powerAt, .static y_T_powerAt, .code y_T_powerAt b_T_powerAt 1 (some .int), .constant R_T 127 (-100000), .classLink R_T 100 ts_IO, .initialized ts_IO] ++ v_T ++ v_W) ++ ts_atIO)
def w_L_bit : List Cond := .codeWith y_L_bit b_L_bit 5 (some .int) [(0, 17, 20, 13)] :: (([.classLink R_L 13 ts_IO, .methodLink R_L 48 y_T_bit, .instanceMethod y_T_bit, .selects R_T y_T_bit y_T_bit, .initialized R_T, .code y_T_bit b_T_bit 3 (some .boolean), .methodLink R_T 26 y_T_sumAt, .instanceMethod y_T_sumAt, .selects R_T y_T_sumAt y_T_sumAt, .code y_T_sumAt b_T_sumAt 2 (some (.object "TripleSums$Whole")), .fieldLink R_T 11 "TripleSums" "sums" "[LTripleSums$Whole;", .methodLink R_T 96 y_T_wordOfSize, .instanceMethod y_T_wordOfSize, .selects R_T y_T_wordOfSize y_T_wordOfSize, .code y_T_wordOfSize b_T_wordOfSize 3 (some .long), .methodLink R_T 63 y_T_sizeOf, .instanceMethod y_T_sizeOf, .selects R_T y_T_sizeOf y_T_sizeOf, .code y_T_sizeOf b_T_sizeOf 2 (some (.object "TripleSums$Whole")), .fieldLink R_T 23 "TripleSums" "size" "LTripleSums$Whole;", .methodLink R_T 30 y_W_setZero, .instanceMethod y_W_setZero, .selects R_W y_W_setZero y_W_setZero, .initialized R_W, .code y_W_setZero b_W_setZero 1 none, .fieldLink R_W 9 "TripleSums$Whole" "limbs" "[J", .methodLink R_W 15 y_A_fill, .static y_A_fill, .initialized R_A, .code y_A_fill b_A_fill 5 none, .methodLink R_T 78 y_W_signum, .instanceMethod y_W_signum, .selects R_W y_W_signum y_W_signum, .code y_W_signum b_W_signum 1 (some .int), .constantLong R_W 32 (2147483648), .methodLink R_W 34 y_W_highestPlace, .instanceMethod y_W_highestPlace, .selects R_W y_W_highestPlace y_W_highestPlace, .code y_W_highestPlace b_W_highestPlace 2 (some .int), .methodLink R_W 39 y_J_numberOfLeadingZeros, .static y_J_numberOfLeadingZeros, .initialized R_J, .code y_J_numberOfLeadingZeros b_J_numberOfLeadingZeros 3 (some .int), .methodLink R_J 308 y_I_numberOfLeadingZeros, .static y_I_numberOfLeadingZeros, .initialized R_I, .code y_I_numberOfLeadingZeros b_I_numberOfLeadingZeros 2 (some .int), .constant R_I 264 (65536), .constant R_W 38 (-100000), .methodLink R_T 55 y_W_increase, .instanceMethod y_W_increase, .selects R_W y_W_increase y_W_increase, .code y_W_increase b_W_increase 8 none, .constantLong R_W 30 (4294967295), .constantLong R_T 128 (-3222), .methodLink R_T 130 y_W_wordFrom, .instanceMethod y_W_wordFrom, .selects R_W y_W_wordFrom y_W_wordFrom, .code y_W_wordFrom b_W_wordFrom 7 (some .long), .constantLong R_W 48 (31), .methodLink R_W 50 y_W_limbAt, .instanceMethod y_W_limbAt, .selects R_W y_W_limbAt y_W_limbAt, .code y_W_limbAt b_W_limbAt 2 (some .long), .classLink R_T 100 ts_IO, .initialized ts_IO] ++ v_T ++ v_W) ++ ts_atIO)
def w_L_word : List Cond := .codeWith y_L_word b_L_word 5 (some .int) [(0, 9, 12, 13)] :: (([.classLink R_L 13 ts_IO, .methodLink R_L 52 y_T_word, .instanceMethod y_T_word, .selects R_T y_T_word y_T_word, .initialized R_T, .code y_T_word b_T_word 3 (some .long), .methodLink R_T 26 y_T_sumAt, .instanceMethod y_T_sumAt, .selects R_T y_T_sumAt y_T_sumAt, .code y_T_sumAt b_T_sumAt 2 (some (.object "TripleSums$Whole")), .fieldLink R_T 11 "TripleSums" "sums" "[LTripleSums$Whole;", .methodLink R_T 96 y_T_wordOfSize, .instanceMethod y_T_wordOfSize, .selects R_T y_T_wordOfSize y_T_wordOfSize, .code y_T_wordOfSize b_T_wordOfSize 3 (some .long), .methodLink R_T 63 y_T_sizeOf, .instanceMethod y_T_sizeOf, .selects R_T y_T_sizeOf y_T_sizeOf, .code y_T_sizeOf b_T_sizeOf 2 (some (.object "TripleSums$Whole")), .fieldLink R_T 23 "TripleSums" "size" "LTripleSums$Whole;", .methodLink R_T 30 y_W_setZero, .instanceMethod y_W_setZero, .selects R_W y_W_setZero y_W_setZero, .initialized R_W, .code y_W_setZero b_W_setZero 1 none, .fieldLink R_W 9 "TripleSums$Whole" "limbs" "[J", .methodLink R_W 15 y_A_fill, .static y_A_fill, .initialized R_A, .code y_A_fill b_A_fill 5 none, .methodLink R_T 78 y_W_signum, .instanceMethod y_W_signum, .selects R_W y_W_signum y_W_signum, .code y_W_signum b_W_signum 1 (some .int), .constantLong R_W 32 (2147483648), .methodLink R_W 34 y_W_highestPlace, .instanceMethod y_W_highestPlace, .selects R_W y_W_highestPlace y_W_highestPlace, .code y_W_highestPlace b_W_highestPlace 2 (some .int), .methodLink R_W 39 y_J_numberOfLeadingZeros, .static y_J_numberOfLeadingZeros, .initialized R_J, .code y_J_numberOfLeadingZeros b_J_numberOfLeadingZeros 3 (some .int), .methodLink R_J 308 y_I_numberOfLeadingZeros, .static y_I_numberOfLeadingZeros, .initialized R_I, .code y_I_numberOfLeadingZeros b_I_numberOfLeadingZeros 2 (some .int), .constant R_I 264 (65536), .constant R_W 38 (-100000), .methodLink R_T 55 y_W_increase, .instanceMethod y_W_increase, .selects R_W y_W_increase y_W_increase, .code y_W_increase b_W_increase 8 none, .constantLong R_W 30 (4294967295), .constantLong R_T 128 (-3222), .methodLink R_T 130 y_W_wordFrom, .instanceMethod y_W_wordFrom, .selects R_W y_W_wordFrom y_W_wordFrom, .code y_W_wordFrom b_W_wordFrom 7 (some .long), .constantLong R_W 48 (31), .methodLink R_W 50 y_W_limbAt, .instanceMethod y_W_limbAt, .selects R_W y_W_limbAt y_W_limbAt, .code y_W_limbAt b_W_limbAt 2 (some .long), .classLink R_T 100 ts_IO, .initialized ts_IO] ++ v_T ++ v_W) ++ ts_atIO)
set_option maxRecDepth 20000 in
theorem gg_L_clear_T_clear : GoodIn w_L_clear w_T_clear := goodIn_r _ [6, 7, 8, 9, 5, 10, 11, 12, 13, 14, 15, 16, 17, 18, 19, 20, 21, 24, 25, 26, 27, 28] (by decide +kernel) (by decide +kernel)
set_option maxRecDepth 20000 in
theorem g_L_clear_T_clear : GoodIn w_L_clear (wsV R_L 7 R_T y_T_clear w_T_clear) := goodIn_app (goodIn_of _ (by decide +kernel)) gg_L_clear_T_clear
set_option maxRecDepth 20000 in
theorem gg_L_clear_xT_clear : GoodIn w_L_clear wx_T_clear := goodIn_ca (goodIn_r _ [6, 7, 8, 9, 5, 10, 22, 23] (by decide +kernel) (by decide +kernel)) (goodIn_sub (fun _ h => List.mem_cons_of_mem _ (List.mem_append_right _ h)) ts_goodF)
set_option maxRecDepth 20000 in
theorem g_L_clear_xT_clear : GoodIn w_L_clear (wsV R_L 7 R_T y_T_clear wx_T_clear) := goodIn_app (goodIn_of _ (by decide +kernel)) gg_L_clear_xT_clear
set_option maxRecDepth 20000 in
theorem gg_L_add_T_add : GoodIn w_L_add w_T_add := goodIn_r _ [7, 8, 9, 10, 6, 11, 12, 13, 14, 15, 16, 17, 18, 19, 20, 21, 22, 23, 24, 25, 26, 27, 28, 29, 30, 31, 32, 33, 34, 35, 36, 37, 38, 39, 40, 41, 42, 43, 44, 45, 46, 47, 48, 49, 50, 51, 52, 53, 54, 55, 56, 57, 58, 59, 64, 65, 66, 67, 68] (by decide +kernel) (by decide +kernel)
set_option maxRecDepth 20000 in
theorem g_L_add_T_add : GoodIn w_L_add (wsV R_L 15 R_T y_T_add w_T_add) := goodIn_app (goodIn_of _ (by decide +kernel)) gg_L_add_T_add
set_option maxRecDepth 20000 in
theorem gg_L_add_xT_add : GoodIn w_L_add wx_T_add := goodIn_ca (goodIn_r _ [7, 8, 9, 10, 6, 11, 60, 61] (by decide +kernel) (by decide +kernel)) (goodIn_sub (fun _ h => List.mem_cons_of_mem _ (List.mem_append_left _ (List.mem_append_right _ h))) ts_goodF)
set_option maxRecDepth 20000 in
theorem g_L_add_xT_add : GoodIn w_L_add (wsV R_L 15 R_T y_T_add wx_T_add) := goodIn_app (goodIn_of _ (by decide +kernel)) gg_L_add_xT_add
set_option maxRecDepth 20000 in
theorem gg_L_add_xT_addA : GoodIn w_L_add wx_T_addA := goodIn_ca (goodIn_r _ [7, 8, 9, 10, 6, 11, 12, 13, 14, 15, 62, 63, 16, 17, 18, 19, 20, 21, 22, 23, 64, 65, 66, 67] (by decide +kernel) (by decide +kernel)) (goodIn_sub (fun _ h => List.mem_cons_of_mem _ (List.mem_append_right _ h)) ts_goodF)
set_option maxRecDepth 20000 in
theorem g_L_add_xT_addA : GoodIn w_L_add (wsV R_L 15 R_T y_T_add wx_T_addA) := goodIn_app (goodIn_of _ (by decide +kernel)) gg_L_add_xT_addA
set_option maxRecDepth 20000 in
theorem gg_L_plus_T_plus : GoodIn w_L_plus w_T_plus := goodIn_r _ [8, 9, 10, 11, 7, 12, 13, 14, 15, 16, 17, 18, 19, 20, 21, 22, 23, 24, 25, 26, 27, 28, 29, 30, 31, 32, 33, 34, 35, 36, 37, 38, 39, 40, 41, 42, 43, 44, 45, 46, 47, 48, 49, 50, 51, 52, 53, 54, 55, 56, 57, 58, 59, 60, 61, 62, 63, 64, 65, 66, 67, 74, 75, 76, 77, 78] (by decide +kernel) (by decide +kernel)
set_option maxRecDepth 20000 in
theorem g_L_plus_T_plus : GoodIn w_L_plus (wsV R_L 21 R_T y_T_plus w_T_plus) := goodIn_app (goodIn_of _ (by decide +kernel)) gg_L_plus_T_plus
set_option maxRecDepth 20000 in
theorem gg_L_plus_xT_plus : GoodIn w_L_plus wx_T_plus := goodIn_ca (goodIn_r _ [8, 9, 10, 11, 7, 12, 13, 68, 69, 74, 75, 76, 77] (by decide +kernel) (by decide +kernel)) (goodIn_sub (fun _ h => List.mem_cons_of_mem _ (List.mem_append_left _ (List.mem_append_left _ (List.mem_append_right _ h)))) ts_goodF)
set_option maxRecDepth 20000 in
theorem g_L_plus_xT_plus : GoodIn w_L_plus (wsV R_L 21 R_T y_T_plus wx_T_plus) := goodIn_app (goodIn_of _ (by decide +kernel)) gg_L_plus_xT_plus
set_option maxRecDepth 20000 in
theorem gg_L_plus_xT_plusA : GoodIn w_L_plus wx_T_plusA := goodIn_ca (goodIn_r _ [8, 9, 10, 11, 7, 12, 13, 14, 15, 16, 70, 71, 17, 18, 74, 75, 76, 77] (by decide +kernel) (by decide +kernel)) (goodIn_sub (fun _ h => List.mem_cons_of_mem _ (List.mem_append_left _ (List.mem_append_right _ h))) ts_goodF)
set_option maxRecDepth 20000 in
theorem g_L_plus_xT_plusA : GoodIn w_L_plus (wsV R_L 21 R_T y_T_plus wx_T_plusA) := goodIn_app (goodIn_of _ (by decide +kernel)) gg_L_plus_xT_plusA
set_option maxRecDepth 20000 in
theorem gg_L_plus_xT_plusS : GoodIn w_L_plus wx_T_plusS := goodIn_ca (goodIn_r _ [8, 9, 10, 11, 7, 12, 13, 14, 15, 16, 17, 18, 19, 20, 21, 22, 23, 24, 25, 26, 27, 28, 29, 30, 31, 32, 33, 34, 35, 36, 37, 38, 39, 40, 41, 42, 43, 44, 45, 46, 47, 48, 49, 50, 51, 52, 53, 54, 55, 56, 57, 58, 59, 60, 61, 62, 63, 64, 65, 66, 67, 72, 73, 74, 75, 76, 77, 78] (by decide +kernel) (by decide +kernel)) (goodIn_sub (fun _ h => List.mem_cons_of_mem _ (List.mem_append_right _ h)) ts_goodF)
set_option maxRecDepth 20000 in
theorem g_L_plus_xT_plusS : GoodIn w_L_plus (wsV R_L 21 R_T y_T_plus wx_T_plusS) := goodIn_app (goodIn_of _ (by decide +kernel)) gg_L_plus_xT_plusS
set_option maxRecDepth 20000 in
theorem gg_L_sign_T_sign : GoodIn w_L_sign w_T_sign := goodIn_r _ [6, 7, 8, 9, 5, 10, 11, 12, 13, 14, 15, 16, 17, 18, 19, 20, 21, 22, 23, 24, 25, 26, 27, 28, 29, 30, 31, 32, 35, 36, 37, 38, 39] (by decide +kernel) (by decide +kernel)
set_option maxRecDepth 20000 in
theorem g_L_sign_T_sign : GoodIn w_L_sign (wsV R_L 27 R_T y_T_sign w_T_sign) := goodIn_app (goodIn_of _ (by decide +kernel)) gg_L_sign_T_sign
set_option maxRecDepth 20000 in
theorem gg_L_sign_xT_sign : GoodIn w_L_sign wx_T_sign := goodIn_ca (goodIn_r _ [6, 7, 8, 9, 5, 10, 33, 34] (by decide +kernel) (by decide +kernel)) (goodIn_sub (fun _ h => List.mem_cons_of_mem _ (List.mem_append_right _ h)) ts_goodF)
set_option maxRecDepth 20000 in
theorem g_L_sign_xT_sign : GoodIn w_L_sign (wsV R_L 27 R_T y_T_sign wx_T_sign) := goodIn_app (goodIn_of _ (by decide +kernel)) gg_L_sign_xT_sign
set_option maxRecDepth 20000 in
theorem gg_L_compare_T_compare : GoodIn w_L_compare w_T_compare := goodIn_r _ [6, 7, 8, 9, 5, 10, 11, 12, 13, 14, 15, 16, 17, 18, 19, 20, 21, 22, 23, 24, 25, 26, 27, 28, 29, 30, 31, 32, 33, 34, 35, 36, 37, 38, 39, 40, 41, 42, 43, 44, 45, 46, 49, 50, 51, 52, 53] (by decide +kernel) (by decide +kernel)
set_option maxRecDepth 20000 in
theorem g_L_compare_T_compare : GoodIn w_L_compare (wsV R_L 31 R_T y_T_compare w_T_compare) := goodIn_app (goodIn_of _ (by decide +kernel)) gg_L_compare_T_compare
set_option maxRecDepth 20000 in
theorem gg_L_compare_xT_compare : GoodIn w_L_compare wx_T_compare := goodIn_ca (goodIn_r _ [6, 7, 8, 9, 5, 10, 11, 47, 48, 49, 50, 51, 52] (by decide +kernel) (by decide +kernel)) (goodIn_sub (fun _ h => List.mem_cons_of_mem _ (List.mem_append_right _ h)) ts_goodF)
set_option maxRecDepth 20000 in
theorem g_L_compare_xT_compare : GoodIn w_L_compare (wsV R_L 31 R_T y_T_compare wx_T_compare) := goodIn_app (goodIn_of _ (by decide +kernel)) gg_L_compare_xT_compare
set_option maxRecDepth 20000 in
theorem gg_L_compareSizes_T_compareSizes : GoodIn w_L_compareSizes w_T_compareSizes := goodIn_r _ [6, 7, 8, 9, 5, 10, 11, 12, 13, 14, 15, 16, 17, 18, 19, 20, 21, 22, 23, 24, 25, 26, 27, 28, 29, 30, 31, 32, 33, 34, 35, 36, 37, 38, 39, 40, 41, 42, 43, 44, 45, 46, 47, 48, 49, 50, 53, 54, 55, 56, 57] (by decide +kernel) (by decide +kernel)
set_option maxRecDepth 20000 in
theorem g_L_compareSizes_T_compareSizes : GoodIn w_L_compareSizes (wsV R_L 35 R_T y_T_compareSizes w_T_compareSizes) := goodIn_app (goodIn_of _ (by decide +kernel)) gg_L_compareSizes_T_compareSizes
set_option maxRecDepth 20000 in
theorem gg_L_compareSizes_xT_compareSizes : GoodIn w_L_compareSizes wx_T_compareSizes := goodIn_ca (goodIn_r _ [6, 7, 8, 9, 5, 10, 11, 51, 52, 53, 54, 55, 56] (by decide +kernel) (by decide +kernel)) (goodIn_sub (fun _ h => List.mem_cons_of_mem _ (List.mem_append_right _ h)) ts_goodF)
set_option maxRecDepth 20000 in
theorem g_L_compareSizes_xT_compareSizes : GoodIn w_L_compareSizes (wsV R_L 35 R_T y_T_compareSizes wx_T_compareSizes) := goodIn_app (goodIn_of _ (by decide +kernel)) gg_L_compareSizes_xT_compareSizes
set_option maxRecDepth 20000 in
theorem gg_L_nearest_T_nearest : GoodIn w_L_nearest w_T_nearest := goodIn_r _ [6, 7, 8, 9, 5, 10, 11, 12, 13, 14, 15, 16, 17, 18, 19, 20, 21, 22, 23, 24, 25, 26, 27, 28, 29, 30, 31, 32, 33, 34, 35, 36, 37, 38, 39, 40, 41, 42, 43, 44, 45, 46, 47, 48, 49, 50, 51, 52, 53, 54, 55, 56, 57, 58, 59, 60, 61, 62, 63, 64, 65, 66, 67, 68, 69, 70, 71, 72, 73, 74, 75, 76, 77, 78, 79, 80, 81, 82, 85, 86, 87, 88, 89] (by decide +kernel) (by decide +kernel)
set_option maxRecDepth 20000 in
theorem g_L_nearest_T_nearest : GoodIn w_L_nearest (wsV R_L 38 R_T y_T_nearest w_T_nearest) := goodIn_app (goodIn_of _ (by decide +kernel)) gg_L_nearest_T_nearest
set_option maxRecDepth 20000 in
theorem gg_L_nearest_xT_nearest : GoodIn w_L_nearest wx_T_nearest := goodIn_ca (goodIn_r _ [6, 7, 8, 9, 5, 10, 83, 84] (by decide +kernel) (by decide +kernel)) (goodIn_sub (fun _ h => List.mem_cons_of_mem _ (List.mem_append_right _ h)) ts_goodF)
set_option maxRecDepth 20000 in
theorem g_L_nearest_xT_nearest : GoodIn w_L_nearest (wsV R_L 38 R_T y_T_nearest wx_T_nearest) := goodIn_app (goodIn_of _ (by decide +kernel)) gg_L_nearest_xT_nearest
set_option maxRecDepth 20000 in
theorem gg_L_top_T_top : GoodIn w_L_top w_T_top := goodIn_r _ [6, 7, 8, 9, 5, 10, 11, 12, 13, 14, 15, 16, 17, 18, 19, 20, 21, 22, 23, 24, 25, 26, 27, 28, 29, 30, 31, 32, 33, 34, 35, 36, 37, 38, 39, 40, 41, 42, 43, 44, 45, 46, 47, 48, 49, 50, 51, 52, 53, 54, 55, 58, 59, 60, 61, 62] (by decide +kernel) (by decide +kernel)
set_option maxRecDepth 20000 in
theorem g_L_top_T_top : GoodIn w_L_top (wsV R_L 42 R_T y_T_top w_T_top) := goodIn_app (goodIn_of _ (by decide +kernel)) gg_L_top_T_top
set_option maxRecDepth 20000 in
theorem gg_L_top_xT_top : GoodIn w_L_top wx_T_top := goodIn_ca (goodIn_r _ [6, 7, 8, 9, 5, 10, 56, 57] (by decide +kernel) (by decide +kernel)) (goodIn_sub (fun _ h => List.mem_cons_of_mem _ (List.mem_append_right _ h)) ts_goodF)
set_option maxRecDepth 20000 in
theorem g_L_top_xT_top : GoodIn w_L_top (wsV R_L 42 R_T y_T_top wx_T_top) := goodIn_app (goodIn_of _ (by decide +kernel)) gg_L_top_xT_top
set_option maxRecDepth 20000 in
theorem gg_L_bottom_T_bottom : GoodIn w_L_bottom w_T_bottom := goodIn_r _ [6, 7, 8, 9, 5, 10, 11, 12, 13, 14, 15, 16, 17, 18, 19, 20, 21, 22, 23, 24, 25, 26, 27, 28, 29, 30, 31, 32, 33, 34, 35, 36, 37, 38, 39, 40, 41, 42, 43, 44, 45, 46, 47, 48, 49, 50, 51, 52, 53, 54, 55, 56, 57, 58, 59, 60, 61, 62, 63, 64, 67, 68, 69, 70, 71] (by decide +kernel) (by decide +kernel)
set_option maxRecDepth 20000 in
theorem g_L_bottom_T_bottom : GoodIn w_L_bottom (wsV R_L 45 R_T y_T_bottom w_T_bottom) := goodIn_app (goodIn_of _ (by decide +kernel)) gg_L_bottom_T_bottom
set_option maxRecDepth 20000 in
theorem gg_L_bottom_xT_bottom : GoodIn w_L_bottom wx_T_bottom := goodIn_ca (goodIn_r _ [6, 7, 8, 9, 5, 10, 65, 66] (by decide +kernel) (by decide +kernel)) (goodIn_sub (fun _ h => List.mem_cons_of_mem _ (List.mem_append_right _ h)) ts_goodF)
set_option maxRecDepth 20000 in
theorem g_L_bottom_xT_bottom : GoodIn w_L_bottom (wsV R_L 45 R_T y_T_bottom wx_T_bottom) := goodIn_app (goodIn_of _ (by decide +kernel)) gg_L_bottom_xT_bottom
set_option maxRecDepth 20000 in
theorem gg_L_bit_T_bit : GoodIn w_L_bit w_T_bit := goodIn_r _ [6, 7, 8, 9, 5, 10, 11, 12, 13, 14, 15, 16, 17, 18, 19, 20, 21, 22, 23, 24, 25, 26, 27, 28, 29, 30, 31, 32, 33, 34, 35, 36, 37, 38, 39, 40, 41, 42, 43, 44, 45, 46, 47, 48, 49, 50, 51, 52, 53, 54, 55, 56, 57, 58, 59, 60, 61, 62, 63, 64, 67, 68, 69, 70, 71] (by decide +kernel) (by decide +kernel)
set_option maxRecDepth 20000 in
theorem g_L_bit_T_bit : GoodIn w_L_bit (wsV R_L 48 R_T y_T_bit w_T_bit) := goodIn_app (goodIn_of _ (by decide +kernel)) gg_L_bit_T_bit
set_option maxRecDepth 20000 in
theorem gg_L_bit_xT_bit : GoodIn w_L_bit wx_T_bit := goodIn_ca (goodIn_r _ [6, 7, 8, 9, 5, 10, 65, 66] (by decide +kernel) (by decide +kernel)) (goodIn_sub (fun _ h => List.mem_cons_of_mem _ (List.mem_append_right _ h)) ts_goodF)
set_option maxRecDepth 20000 in
theorem g_L_bit_xT_bit : GoodIn w_L_bit (wsV R_L 48 R_T y_T_bit wx_T_bit) := goodIn_app (goodIn_of _ (by decide +kernel)) gg_L_bit_xT_bit
set_option maxRecDepth 20000 in
theorem gg_L_word_T_word : GoodIn w_L_word w_T_word := goodIn_r _ [6, 7, 8, 9, 5, 10, 11, 12, 13, 14, 15, 16, 17, 18, 19, 20, 21, 22, 23, 24, 25, 26, 27, 28, 29, 30, 31, 32, 33, 34, 35, 36, 37, 38, 39, 40, 41, 42, 43, 44, 45, 46, 47, 48, 49, 50, 51, 52, 53, 54, 55, 56, 57, 58, 59, 60, 61, 62, 63, 64, 67, 68, 69, 70, 71] (by decide +kernel) (by decide +kernel)
set_option maxRecDepth 20000 in
theorem g_L_word_T_word : GoodIn w_L_word (wsV R_L 52 R_T y_T_word w_T_word) := goodIn_app (goodIn_of _ (by decide +kernel)) gg_L_word_T_word
set_option maxRecDepth 20000 in
theorem gg_L_word_xT_word : GoodIn w_L_word wx_T_word := goodIn_ca (goodIn_r _ [6, 7, 8, 9, 5, 10, 65, 66] (by decide +kernel) (by decide +kernel)) (goodIn_sub (fun _ h => List.mem_cons_of_mem _ (List.mem_append_right _ h)) ts_goodF)
set_option maxRecDepth 20000 in
theorem g_L_word_xT_word : GoodIn w_L_word (wsV R_L 52 R_T y_T_word wx_T_word) := goodIn_app (goodIn_of _ (by decide +kernel)) gg_L_word_xT_word
theorem d_L_clear_0 : decode b_L_clear 0 = .ok (.aload_n 0, 1) := by decide +kernel
theorem d_L_clear_1 : decode b_L_clear 1 = .ok (.iload_n 1, 1) := by decide +kernel
theorem d_L_clear_2 : decode b_L_clear 2 = .ok (.invokevirtual 7, 3) := by decide +kernel
theorem d_L_clear_5 : decode b_L_clear 5 = .ok (.goto 6, 3) := by decide +kernel
theorem d_L_clear_8 : decode b_L_clear 8 = .ok (.astore_n 2, 1) := by decide +kernel
theorem d_L_clear_9 : decode b_L_clear 9 = .ok (.iconst 1, 1) := by decide +kernel
theorem d_L_clear_10 : decode b_L_clear 10 = .ok (.ireturn, 1) := by decide +kernel
theorem d_L_clear_11 : decode b_L_clear 11 = .ok (.iconst 0, 1) := by decide +kernel
theorem d_L_clear_12 : decode b_L_clear 12 = .ok (.ireturn, 1) := by decide +kernel
theorem d_L_add_0 : decode b_L_add 0 = .ok (.aload_n 0, 1) := by decide +kernel
theorem d_L_add_1 : decode b_L_add 1 = .ok (.iload_n 1, 1) := by decide +kernel
theorem d_L_add_2 : decode b_L_add 2 = .ok (.lload_n 2, 1) := by decide +kernel
theorem d_L_add_3 : decode b_L_add 3 = .ok (.lload 4, 2) := by decide +kernel
theorem d_L_add_5 : decode b_L_add 5 = .ok (.lload 6, 2) := by decide +kernel
theorem d_L_add_7 : decode b_L_add 7 = .ok (.iload 8, 2) := by decide +kernel
theorem d_L_add_9 : decode b_L_add 9 = .ok (.invokevirtual 15, 3) := by decide +kernel
theorem d_L_add_12 : decode b_L_add 12 = .ok (.goto 11, 3) := by decide +kernel
theorem d_L_add_15 : decode b_L_add 15 = .ok (.astore 9, 2) := by decide +kernel
theorem d_L_add_17 : decode b_L_add 17 = .ok (.iconst 1, 1) := by decide +kernel
theorem d_L_add_18 : decode b_L_add 18 = .ok (.ireturn, 1) := by decide +kernel
theorem d_L_add_19 : decode b_L_add 19 = .ok (.astore 9, 2) := by decide +kernel
theorem d_L_add_21 : decode b_L_add 21 = .ok (.iconst 2, 1) := by decide +kernel
theorem d_L_add_22 : decode b_L_add 22 = .ok (.ireturn, 1) := by decide +kernel
theorem d_L_add_23 : decode b_L_add 23 = .ok (.iconst 0, 1) := by decide +kernel
theorem d_L_add_24 : decode b_L_add 24 = .ok (.ireturn, 1) := by decide +kernel
theorem d_L_plus_0 : decode b_L_plus 0 = .ok (.aload_n 0, 1) := by decide +kernel
theorem d_L_plus_1 : decode b_L_plus 1 = .ok (.iload_n 1, 1) := by decide +kernel
theorem d_L_plus_2 : decode b_L_plus 2 = .ok (.iload_n 2, 1) := by decide +kernel
theorem d_L_plus_3 : decode b_L_plus 3 = .ok (.iload_n 3, 1) := by decide +kernel
theorem d_L_plus_4 : decode b_L_plus 4 = .ok (.invokevirtual 21, 3) := by decide +kernel
theorem d_L_plus_7 : decode b_L_plus 7 = .ok (.goto 15, 3) := by decide +kernel
theorem d_L_plus_10 : decode b_L_plus 10 = .ok (.astore 4, 2) := by decide +kernel
theorem d_L_plus_12 : decode b_L_plus 12 = .ok (.iconst 1, 1) := by decide +kernel
theorem d_L_plus_13 : decode b_L_plus 13 = .ok (.ireturn, 1) := by decide +kernel
theorem d_L_plus_14 : decode b_L_plus 14 = .ok (.astore 4, 2) := by decide +kernel
theorem d_L_plus_16 : decode b_L_plus 16 = .ok (.iconst 2, 1) := by decide +kernel
theorem d_L_plus_17 : decode b_L_plus 17 = .ok (.ireturn, 1) := by decide +kernel
theorem d_L_plus_18 : decode b_L_plus 18 = .ok (.astore 4, 2) := by decide +kernel
theorem d_L_plus_20 : decode b_L_plus 20 = .ok (.iconst 3, 1) := by decide +kernel
theorem d_L_plus_21 : decode b_L_plus 21 = .ok (.ireturn, 1) := by decide +kernel
theorem d_L_plus_22 : decode b_L_plus 22 = .ok (.iconst 0, 1) := by decide +kernel
theorem d_L_plus_23 : decode b_L_plus 23 = .ok (.ireturn, 1) := by decide +kernel
theorem d_L_sign_0 : decode b_L_sign 0 = .ok (.aload_n 2, 1) := by decide +kernel
theorem d_L_sign_1 : decode b_L_sign 1 = .ok (.iconst 0, 1) := by decide +kernel
theorem d_L_sign_2 : decode b_L_sign 2 = .ok (.aload_n 0, 1) := by decide +kernel
theorem d_L_sign_3 : decode b_L_sign 3 = .ok (.iload_n 1, 1) := by decide +kernel
theorem d_L_sign_4 : decode b_L_sign 4 = .ok (.invokevirtual 27, 3) := by decide +kernel
theorem d_L_sign_7 : decode b_L_sign 7 = .ok (.i2l, 1) := by decide +kernel
theorem d_L_sign_8 : decode b_L_sign 8 = .ok (.lastore, 1) := by decide +kernel
theorem d_L_sign_9 : decode b_L_sign 9 = .ok (.goto 6, 3) := by decide +kernel
theorem d_L_sign_12 : decode b_L_sign 12 = .ok (.astore_n 3, 1) := by decide +kernel
theorem d_L_sign_13 : decode b_L_sign 13 = .ok (.iconst 1, 1) := by decide +kernel
theorem d_L_sign_14 : decode b_L_sign 14 = .ok (.ireturn, 1) := by decide +kernel
theorem d_L_sign_15 : decode b_L_sign 15 = .ok (.iconst 0, 1) := by decide +kernel
theorem d_L_sign_16 : decode b_L_sign 16 = .ok (.ireturn, 1) := by decide +kernel
theorem d_L_compare_0 : decode b_L_compare 0 = .ok (.aload_n 3, 1) := by decide +kernel
theorem d_L_compare_1 : decode b_L_compare 1 = .ok (.iconst 0, 1) := by decide +kernel
theorem d_L_compare_2 : decode b_L_compare 2 = .ok (.aload_n 0, 1) := by decide +kernel
theorem d_L_compare_3 : decode b_L_compare 3 = .ok (.iload_n 1, 1) := by decide +kernel
theorem d_L_compare_4 : decode b_L_compare 4 = .ok (.iload_n 2, 1) := by decide +kernel
theorem d_L_compare_5 : decode b_L_compare 5 = .ok (.invokevirtual 31, 3) := by decide +kernel
theorem d_L_compare_8 : decode b_L_compare 8 = .ok (.i2l, 1) := by decide +kernel
theorem d_L_compare_9 : decode b_L_compare 9 = .ok (.lastore, 1) := by decide +kernel
theorem d_L_compare_10 : decode b_L_compare 10 = .ok (.goto 7, 3) := by decide +kernel
theorem d_L_compare_13 : decode b_L_compare 13 = .ok (.astore 4, 2) := by decide +kernel
theorem d_L_compare_15 : decode b_L_compare 15 = .ok (.iconst 1, 1) := by decide +kernel
theorem d_L_compare_16 : decode b_L_compare 16 = .ok (.ireturn, 1) := by decide +kernel
theorem d_L_compare_17 : decode b_L_compare 17 = .ok (.iconst 0, 1) := by decide +kernel
theorem d_L_compare_18 : decode b_L_compare 18 = .ok (.ireturn, 1) := by decide +kernel
theorem d_L_compareSizes_0 : decode b_L_compareSizes 0 = .ok (.aload_n 3, 1) := by decide +kernel
theorem d_L_compareSizes_1 : decode b_L_compareSizes 1 = .ok (.iconst 0, 1) := by decide +kernel
theorem d_L_compareSizes_2 : decode b_L_compareSizes 2 = .ok (.aload_n 0, 1) := by decide +kernel
theorem d_L_compareSizes_3 : decode b_L_compareSizes 3 = .ok (.iload_n 1, 1) := by decide +kernel
theorem d_L_compareSizes_4 : decode b_L_compareSizes 4 = .ok (.iload_n 2, 1) := by decide +kernel
theorem d_L_compareSizes_5 : decode b_L_compareSizes 5 = .ok (.invokevirtual 35, 3) := by decide +kernel
theorem d_L_compareSizes_8 : decode b_L_compareSizes 8 = .ok (.i2l, 1) := by decide +kernel
theorem d_L_compareSizes_9 : decode b_L_compareSizes 9 = .ok (.lastore, 1) := by decide +kernel
theorem d_L_compareSizes_10 : decode b_L_compareSizes 10 = .ok (.goto 7, 3) := by decide +kernel
theorem d_L_compareSizes_13 : decode b_L_compareSizes 13 = .ok (.astore 4, 2) := by decide +kernel
theorem d_L_compareSizes_15 : decode b_L_compareSizes 15 = .ok (.iconst 1, 1) := by decide +kernel
theorem d_L_compareSizes_16 : decode b_L_compareSizes 16 = .ok (.ireturn, 1) := by decide +kernel
theorem d_L_compareSizes_17 : decode b_L_compareSizes 17 = .ok (.iconst 0, 1) := by decide +kernel
theorem d_L_compareSizes_18 : decode b_L_compareSizes 18 = .ok (.ireturn, 1) := by decide +kernel
theorem d_L_nearest_0 : decode b_L_nearest 0 = .ok (.aload_n 2, 1) := by decide +kernel
theorem d_L_nearest_1 : decode b_L_nearest 1 = .ok (.iconst 0, 1) := by decide +kernel
theorem d_L_nearest_2 : decode b_L_nearest 2 = .ok (.aload_n 0, 1) := by decide +kernel
theorem d_L_nearest_3 : decode b_L_nearest 3 = .ok (.iload_n 1, 1) := by decide +kernel
theorem d_L_nearest_4 : decode b_L_nearest 4 = .ok (.invokevirtual 38, 3) := by decide +kernel
theorem d_L_nearest_7 : decode b_L_nearest 7 = .ok (.lastore, 1) := by decide +kernel
theorem d_L_nearest_8 : decode b_L_nearest 8 = .ok (.goto 6, 3) := by decide +kernel
theorem d_L_nearest_11 : decode b_L_nearest 11 = .ok (.astore_n 3, 1) := by decide +kernel
theorem d_L_nearest_12 : decode b_L_nearest 12 = .ok (.iconst 1, 1) := by decide +kernel
theorem d_L_nearest_13 : decode b_L_nearest 13 = .ok (.ireturn, 1) := by decide +kernel
theorem d_L_nearest_14 : decode b_L_nearest 14 = .ok (.iconst 0, 1) := by decide +kernel
theorem d_L_nearest_15 : decode b_L_nearest 15 = .ok (.ireturn, 1) := by decide +kernel
theorem d_L_top_0 : decode b_L_top 0 = .ok (.aload_n 2, 1) := by decide +kernel
theorem d_L_top_1 : decode b_L_top 1 = .ok (.iconst 0, 1) := by decide +kernel
theorem d_L_top_2 : decode b_L_top 2 = .ok (.aload_n 0, 1) := by decide +kernel
theorem d_L_top_3 : decode b_L_top 3 = .ok (.iload_n 1, 1) := by decide +kernel
theorem d_L_top_4 : decode b_L_top 4 = .ok (.invokevirtual 42, 3) := by decide +kernel
theorem d_L_top_7 : decode b_L_top 7 = .ok (.i2l, 1) := by decide +kernel
theorem d_L_top_8 : decode b_L_top 8 = .ok (.lastore, 1) := by decide +kernel
theorem d_L_top_9 : decode b_L_top 9 = .ok (.goto 6, 3) := by decide +kernel
theorem d_L_top_12 : decode b_L_top 12 = .ok (.astore_n 3, 1) := by decide +kernel
theorem d_L_top_13 : decode b_L_top 13 = .ok (.iconst 1, 1) := by decide +kernel
theorem d_L_top_14 : decode b_L_top 14 = .ok (.ireturn, 1) := by decide +kernel
theorem d_L_top_15 : decode b_L_top 15 = .ok (.iconst 0, 1) := by decide +kernel
theorem d_L_top_16 : decode b_L_top 16 = .ok (.ireturn, 1) := by decide +kernel
theorem d_L_bottom_0 : decode b_L_bottom 0 = .ok (.aload_n 2, 1) := by decide +kernel
theorem d_L_bottom_1 : decode b_L_bottom 1 = .ok (.iconst 0, 1) := by decide +kernel
theorem d_L_bottom_2 : decode b_L_bottom 2 = .ok (.aload_n 0, 1) := by decide +kernel
theorem d_L_bottom_3 : decode b_L_bottom 3 = .ok (.iload_n 1, 1) := by decide +kernel
theorem d_L_bottom_4 : decode b_L_bottom 4 = .ok (.invokevirtual 45, 3) := by decide +kernel
theorem d_L_bottom_7 : decode b_L_bottom 7 = .ok (.i2l, 1) := by decide +kernel
theorem d_L_bottom_8 : decode b_L_bottom 8 = .ok (.lastore, 1) := by decide +kernel
theorem d_L_bottom_9 : decode b_L_bottom 9 = .ok (.goto 6, 3) := by decide +kernel
theorem d_L_bottom_12 : decode b_L_bottom 12 = .ok (.astore_n 3, 1) := by decide +kernel
theorem d_L_bottom_13 : decode b_L_bottom 13 = .ok (.iconst 1, 1) := by decide +kernel
theorem d_L_bottom_14 : decode b_L_bottom 14 = .ok (.ireturn, 1) := by decide +kernel
theorem d_L_bottom_15 : decode b_L_bottom 15 = .ok (.iconst 0, 1) := by decide +kernel
theorem d_L_bottom_16 : decode b_L_bottom 16 = .ok (.ireturn, 1) := by decide +kernel
theorem d_L_bit_0 : decode b_L_bit 0 = .ok (.aload_n 3, 1) := by decide +kernel
theorem d_L_bit_1 : decode b_L_bit 1 = .ok (.iconst 0, 1) := by decide +kernel
theorem d_L_bit_2 : decode b_L_bit 2 = .ok (.aload_n 0, 1) := by decide +kernel
theorem d_L_bit_3 : decode b_L_bit 3 = .ok (.iload_n 1, 1) := by decide +kernel
theorem d_L_bit_4 : decode b_L_bit 4 = .ok (.iload_n 2, 1) := by decide +kernel
theorem d_L_bit_5 : decode b_L_bit 5 = .ok (.invokevirtual 48, 3) := by decide +kernel
theorem d_L_bit_8 : decode b_L_bit 8 = .ok (.ifCond .eq 7, 3) := by decide +kernel
theorem d_L_bit_11 : decode b_L_bit 11 = .ok (.lconst 1, 1) := by decide +kernel
theorem d_L_bit_12 : decode b_L_bit 12 = .ok (.goto 4, 3) := by decide +kernel
theorem d_L_bit_15 : decode b_L_bit 15 = .ok (.lconst 0, 1) := by decide +kernel
theorem d_L_bit_16 : decode b_L_bit 16 = .ok (.lastore, 1) := by decide +kernel
theorem d_L_bit_17 : decode b_L_bit 17 = .ok (.goto 7, 3) := by decide +kernel
theorem d_L_bit_20 : decode b_L_bit 20 = .ok (.astore 4, 2) := by decide +kernel
theorem d_L_bit_22 : decode b_L_bit 22 = .ok (.iconst 1, 1) := by decide +kernel
theorem d_L_bit_23 : decode b_L_bit 23 = .ok (.ireturn, 1) := by decide +kernel
theorem d_L_bit_24 : decode b_L_bit 24 = .ok (.iconst 0, 1) := by decide +kernel
theorem d_L_bit_25 : decode b_L_bit 25 = .ok (.ireturn, 1) := by decide +kernel
theorem d_L_word_0 : decode b_L_word 0 = .ok (.aload_n 3, 1) := by decide +kernel
theorem d_L_word_1 : decode b_L_word 1 = .ok (.iconst 0, 1) := by decide +kernel
theorem d_L_word_2 : decode b_L_word 2 = .ok (.aload_n 0, 1) := by decide +kernel
theorem d_L_word_3 : decode b_L_word 3 = .ok (.iload_n 1, 1) := by decide +kernel
theorem d_L_word_4 : decode b_L_word 4 = .ok (.iload_n 2, 1) := by decide +kernel
theorem d_L_word_5 : decode b_L_word 5 = .ok (.invokevirtual 52, 3) := by decide +kernel
theorem d_L_word_8 : decode b_L_word 8 = .ok (.lastore, 1) := by decide +kernel
theorem d_L_word_9 : decode b_L_word 9 = .ok (.goto 7, 3) := by decide +kernel
theorem d_L_word_12 : decode b_L_word 12 = .ok (.astore 4, 2) := by decide +kernel
theorem d_L_word_14 : decode b_L_word 14 = .ok (.iconst 1, 1) := by decide +kernel
theorem d_L_word_15 : decode b_L_word 15 = .ok (.ireturn, 1) := by decide +kernel
theorem d_L_word_16 : decode b_L_word 16 = .ok (.iconst 0, 1) := by decide +kernel
theorem d_L_word_17 : decode b_L_word 17 = .ok (.ireturn, 1) := by decide +kernel
