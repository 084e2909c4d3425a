def w_M_init : List Cond := .code y_M_init b_M_init 1 none :: ([.methodLink R_M 1 objectInit, .instanceMethod objectInit, .code objectInit ⟨#[0xb1]⟩ 1 none, .arrayClass .int, .fieldLink R_M 7 "TripleSumsModel" "parts" "[I", .arrayClass .boolean, .fieldLink R_M 13 "TripleSumsModel" "below" "[Z"] ++ v_M)
def w_M_thrown : List Cond := .code y_M_thrown b_M_thrown 1 (some .int) :: ([.fieldLink R_M 17 "TripleSumsModel" "thrown" "I"] ++ v_M)
def w_M_clear : List Cond := .code y_M_clear b_M_clear 2 none :: ([.methodLink R_M 52 y_M_isSum, .static y_M_isSum, .initialized R_M, .code y_M_isSum b_M_isSum 1 (some .boolean), .methodLink R_M 56 y_M_goes, .instanceMethod y_M_goes, .selects R_M y_M_goes y_M_goes, .code y_M_goes b_M_goes 3 (some .boolean), .fieldLink R_M 17 "TripleSumsModel" "thrown" "I", .methodLink R_M 60 y_M_zero, .instanceMethod y_M_zero, .selects R_M y_M_zero y_M_zero, .code y_M_zero b_M_zero 3 none, .fieldLink R_M 13 "TripleSumsModel" "below" "[Z", .fieldLink R_M 7 "TripleSumsModel" "parts" "[I"] ++ v_M)
def w_M_isSum : List Cond := .code y_M_isSum b_M_isSum 1 (some .boolean) :: ([])
def w_M_goes : List Cond := .code y_M_goes b_M_goes 3 (some .boolean) :: ([.fieldLink R_M 17 "TripleSumsModel" "thrown" "I"] ++ v_M)
def w_M_zero : List Cond := .code y_M_zero b_M_zero 3 none :: ([.fieldLink R_M 13 "TripleSumsModel" "below" "[Z", .fieldLink R_M 7 "TripleSumsModel" "parts" "[I"] ++ v_M)
def w_M_add : List Cond := .code y_M_add b_M_add 10 none :: ([.methodLink R_M 37 y_M_exponent, .static y_M_exponent, .initialized R_M, .code y_M_exponent b_M_exponent 2 (some .int), .constantLong R_M 33 (2047), .methodLink R_M 64 y_M_isTimes, .static y_M_isTimes, .code y_M_isTimes b_M_isTimes 1 (some .boolean), .constant R_M 21 (-1000000), .constant R_M 22 (1000000), .methodLink R_M 52 y_M_isSum, .static y_M_isSum, .code y_M_isSum b_M_isSum 1 (some .boolean), .methodLink R_M 56 y_M_goes, .instanceMethod y_M_goes, .selects R_M y_M_goes y_M_goes, .code y_M_goes b_M_goes 3 (some .boolean), .fieldLink R_M 17 "TripleSumsModel" "thrown" "I", .methodLink R_M 60 y_M_zero, .instanceMethod y_M_zero, .selects R_M y_M_zero y_M_zero, .code y_M_zero b_M_zero 3 none, .fieldLink R_M 13 "TripleSumsModel" "below" "[Z", .fieldLink R_M 7 "TripleSumsModel" "parts" "[I", .methodLink R_M 67 y_M_mantissa, .static y_M_mantissa, .code y_M_mantissa b_M_mantissa 4 (some .long), .constantLong R_M 35 (4503599627370495), .constantLong R_M 41 (4503599627370496), .methodLink R_M 71 y_M_timesLong, .instanceMethod y_M_timesLong, .selects R_M y_M_timesLong y_M_timesLong, .code y_M_timesLong b_M_timesLong 4 none, .methodLink R_M 43 y_M_copy, .instanceMethod y_M_copy, .selects R_M y_M_copy y_M_copy, .code y_M_copy b_M_copy 4 none, .constantLong R_M 23 (268435455), .methodLink R_M 25 y_M_times, .instanceMethod y_M_times, .selects R_M y_M_times y_M_times, .code y_M_times b_M_times 8 none, .methodLink R_M 46 y_M_shift, .instanceMethod y_M_shift, .selects R_M y_M_shift y_M_shift, .code y_M_shift b_M_shift 5 none, .methodLink R_M 49 y_M_together, .instanceMethod y_M_together, .selects R_M y_M_together y_M_together, .code y_M_together b_M_together 14 none, .methodLink R_M 29 y_M_sizes, .instanceMethod y_M_sizes, .selects R_M y_M_sizes y_M_sizes, .code y_M_sizes b_M_sizes 5 (some .int), .methodLink R_M 75 y_M_power, .static y_M_power, .code y_M_power b_M_power 2 (some .int), .methodLink R_M 78 y_M_isZero, .instanceMethod y_M_isZero, .selects R_M y_M_isZero y_M_isZero, .code y_M_isZero b_M_isZero 4 (some .boolean)] ++ v_M)
def w_M_exponent : List Cond := .code y_M_exponent b_M_exponent 2 (some .int) :: ([.constantLong R_M 33 (2047)])
def w_M_isTimes : List Cond := .code y_M_isTimes b_M_isTimes 1 (some .boolean) :: ([.constant R_M 21 (-1000000), .constant R_M 22 (1000000)])
def w_M_mantissa : List Cond := .code y_M_mantissa b_M_mantissa 4 (some .long) :: ([.constantLong R_M 35 (4503599627370495), .methodLink R_M 37 y_M_exponent, .static y_M_exponent, .initialized R_M, .code y_M_exponent b_M_exponent 2 (some .int), .constantLong R_M 33 (2047), .constantLong R_M 41 (4503599627370496)])
def w_M_timesLong : List Cond := .code y_M_timesLong b_M_timesLong 4 none :: ([.methodLink R_M 43 y_M_copy, .instanceMethod y_M_copy, .selects R_M y_M_copy y_M_copy, .initialized R_M, .code y_M_copy b_M_copy 4 none, .fieldLink R_M 13 "TripleSumsModel" "below" "[Z", .fieldLink R_M 7 "TripleSumsModel" "parts" "[I", .constantLong R_M 23 (268435455), .methodLink R_M 25 y_M_times, .instanceMethod y_M_times, .selects R_M y_M_times y_M_times, .code y_M_times b_M_times 8 none, .methodLink R_M 46 y_M_shift, .instanceMethod y_M_shift, .selects R_M y_M_shift y_M_shift, .code y_M_shift b_M_shift 5 none, .methodLink R_M 49 y_M_together, .instanceMethod y_M_together, .selects R_M y_M_together y_M_together, .code y_M_together b_M_together 14 none, .methodLink R_M 29 y_M_sizes, .instanceMethod y_M_sizes, .selects R_M y_M_sizes y_M_sizes, .code y_M_sizes b_M_sizes 5 (some .int)] ++ v_M)
def w_M_copy : List Cond := .code y_M_copy b_M_copy 4 none :: ([.fieldLink R_M 13 "TripleSumsModel" "below" "[Z", .fieldLink R_M 7 "TripleSumsModel" "parts" "[I"] ++ v_M)
def w_M_times : List Cond := .code y_M_times b_M_times 8 none :: ([.fieldLink R_M 7 "TripleSumsModel" "parts" "[I", .constantLong R_M 23 (268435455)] ++ v_M)
def w_M_shift : List Cond := .code y_M_shift b_M_shift 5 none :: ([.fieldLink R_M 7 "TripleSumsModel" "parts" "[I", .methodLink R_M 25 y_M_times, .instanceMethod y_M_times, .selects R_M y_M_times y_M_times, .initialized R_M, .code y_M_times b_M_times 8 none, .constantLong R_M 23 (268435455)] ++ v_M)
def w_M_together : List Cond := .code y_M_together b_M_together 14 none :: ([.fieldLink R_M 13 "TripleSumsModel" "below" "[Z", .methodLink R_M 29 y_M_sizes, .instanceMethod y_M_sizes, .selects R_M y_M_sizes y_M_sizes, .initialized R_M, .code y_M_sizes b_M_sizes 5 (some .int), .fieldLink R_M 7 "TripleSumsModel" "parts" "[I", .constantLong R_M 23 (268435455)] ++ v_M)
def w_M_sizes : List Cond := .code y_M_sizes b_M_sizes 5 (some .int) :: ([.fieldLink R_M 7 "TripleSumsModel" "parts" "[I"] ++ v_M)
def w_M_power : List Cond := .code y_M_power b_M_power 2 (some .int) :: ([.methodLink R_M 37 y_M_exponent, .static y_M_exponent, .initialized R_M, .code y_M_exponent b_M_exponent 2 (some .int), .constantLong R_M 33 (2047)])
def w_M_isZero : List Cond := .code y_M_isZero b_M_isZero 4 (some .boolean) :: ([.fieldLink R_M 7 "TripleSumsModel" "parts" "[I"] ++ v_M)
def w_M_plus : List Cond := .code y_M_plus b_M_plus 4 none :: ([.methodLink R_M 52 y_M_isSum, .static y_M_isSum, .initialized R_M, .code y_M_isSum b_M_isSum 1 (some .boolean), .methodLink R_M 64 y_M_isTimes, .static y_M_isTimes, .code y_M_isTimes b_M_isTimes 1 (some .boolean), .constant R_M 21 (-1000000), .constant R_M 22 (1000000), .methodLink R_M 56 y_M_goes, .instanceMethod y_M_goes, .selects R_M y_M_goes y_M_goes, .code y_M_goes b_M_goes 3 (some .boolean), .fieldLink R_M 17 "TripleSumsModel" "thrown" "I", .methodLink R_M 43 y_M_copy, .instanceMethod y_M_copy, .selects R_M y_M_copy y_M_copy, .code y_M_copy b_M_copy 4 none, .fieldLink R_M 13 "TripleSumsModel" "below" "[Z", .fieldLink R_M 7 "TripleSumsModel" "parts" "[I", .methodLink R_M 25 y_M_times, .instanceMethod y_M_times, .selects R_M y_M_times y_M_times, .code y_M_times b_M_times 8 none, .constantLong R_M 23 (268435455), .methodLink R_M 78 y_M_isZero, .instanceMethod y_M_isZero, .selects R_M y_M_isZero y_M_isZero, .code y_M_isZero b_M_isZero 4 (some .boolean), .methodLink R_M 49 y_M_together, .instanceMethod y_M_together, .selects R_M y_M_together y_M_together, .code y_M_together b_M_together 14 none, .methodLink R_M 29 y_M_sizes, .instanceMethod y_M_sizes, .selects R_M y_M_sizes y_M_sizes, .code y_M_sizes b_M_sizes 5 (some .int), .methodLink R_M 81 y_M_highest, .instanceMethod y_M_highest, .selects R_M y_M_highest y_M_highest, .code y_M_highest b_M_highest 5 (some .int), .constant R_M 89 (-100000)] ++ v_M)
def w_M_highest : List Cond := .code y_M_highest b_M_highest 5 (some .int) :: ([.fieldLink R_M 7 "TripleSumsModel" "parts" "[I", .constant R_M 89 (-100000)] ++ v_M)
def w_M_sign : List Cond := .code y_M_sign b_M_sign 2 (some .int) :: ([.methodLink R_M 52 y_M_isSum, .static y_M_isSum, .initialized R_M, .code y_M_isSum b_M_isSum 1 (some .boolean), .methodLink R_M 56 y_M_goes, .instanceMethod y_M_goes, .selects R_M y_M_goes y_M_goes, .code y_M_goes b_M_goes 3 (some .boolean), .fieldLink R_M 17 "TripleSumsModel" "thrown" "I", .methodLink R_M 78 y_M_isZero, .instanceMethod y_M_isZero, .selects R_M y_M_isZero y_M_isZero, .code y_M_isZero b_M_isZero 4 (some .boolean), .fieldLink R_M 7 "TripleSumsModel" "parts" "[I", .fieldLink R_M 13 "TripleSumsModel" "below" "[Z"] ++ v_M)
def w_M_compare : List Cond := .code y_M_compare b_M_compare 3 (some .int) :: ([.methodLink R_M 52 y_M_isSum, .static y_M_isSum, .initialized R_M, .code y_M_isSum b_M_isSum 1 (some .boolean), .methodLink R_M 56 y_M_goes, .instanceMethod y_M_goes, .selects R_M y_M_goes y_M_goes, .code y_M_goes b_M_goes 3 (some .boolean), .fieldLink R_M 17 "TripleSumsModel" "thrown" "I", .fieldLink R_M 13 "TripleSumsModel" "below" "[Z", .methodLink R_M 29 y_M_sizes, .instanceMethod y_M_sizes, .selects R_M y_M_sizes y_M_sizes, .code y_M_sizes b_M_sizes 5 (some .int), .fieldLink R_M 7 "TripleSumsModel" "parts" "[I"] ++ v_M)
def w_M_compareSizes : List Cond := .code y_M_compareSizes b_M_compareSizes 3 (some .int) :: ([.methodLink R_M 52 y_M_isSum, .static y_M_isSum, .initialized R_M, .code y_M_isSum b_M_isSum 1 (some .boolean), .methodLink R_M 56 y_M_goes, .instanceMethod y_M_goes, .selects R_M y_M_goes y_M_goes, .code y_M_goes b_M_goes 3 (some .boolean), .fieldLink R_M 17 "TripleSumsModel" "thrown" "I", .methodLink R_M 29 y_M_sizes, .instanceMethod y_M_sizes, .selects R_M y_M_sizes y_M_sizes, .code y_M_sizes b_M_sizes 5 (some .int), .fieldLink R_M 7 "TripleSumsModel" "parts" "[I"] ++ v_M)
def w_M_nearest : List Cond := .code y_M_nearest b_M_nearest 12 (some .long) :: ([.methodLink R_M 52 y_M_isSum, .static y_M_isSum, .initialized R_M, .code y_M_isSum b_M_isSum 1 (some .boolean), .methodLink R_M 56 y_M_goes, .instanceMethod y_M_goes, .selects R_M y_M_goes y_M_goes, .code y_M_goes b_M_goes 3 (some .boolean), .fieldLink R_M 17 "TripleSumsModel" "thrown" "I", .methodLink R_M 78 y_M_isZero, .instanceMethod y_M_isZero, .selects R_M y_M_isZero y_M_isZero, .code y_M_isZero b_M_isZero 4 (some .boolean), .fieldLink R_M 7 "TripleSumsModel" "parts" "[I", .fieldLink R_M 13 "TripleSumsModel" "below" "[Z", .constantLong R_M 92 (-9223372036854775808), .methodLink R_M 81 y_M_highest, .instanceMethod y_M_highest, .selects R_M y_M_highest y_M_highest, .code y_M_highest b_M_highest 5 (some .int), .constant R_M 89 (-100000), .constantLong R_M 94 (9218868437227405312), .methodLink R_M 96 y_M_has, .instanceMethod y_M_has, .selects R_M y_M_has y_M_has, .code y_M_has b_M_has 6 (some .boolean), .constantLong R_M 85 (-3222), .constantLong R_M 87 (6720), .methodLink R_M 100 y_M_lowest, .instanceMethod y_M_lowest, .selects R_M y_M_lowest y_M_lowest, .code y_M_lowest b_M_lowest 5 (some .int)] ++ v_M)
def w_M_has : List Cond := .code y_M_has b_M_has 6 (some .boolean) :: ([.constantLong R_M 85 (-3222), .constantLong R_M 87 (6720), .fieldLink R_M 7 "TripleSumsModel" "parts" "[I"] ++ v_M)
def w_M_lowest : List Cond := .code y_M_lowest b_M_lowest 5 (some .int) :: ([.fieldLink R_M 7 "TripleSumsModel" "parts" "[I", .constant R_M 89 (-100000)] ++ v_M)
def w_M_top : List Cond := .code y_M_top b_M_top 2 (some .int) :: ([.methodLink R_M 52 y_M_isSum, .static y_M_isSum, .initialized R_M, .code y_M_isSum b_M_isSum 1 (some .boolean), .methodLink R_M 56 y_M_goes, .instanceMethod y_M_goes, .selects R_M y_M_goes y_M_goes, .code y_M_goes b_M_goes 3 (some .boolean), .fieldLink R_M 17 "TripleSumsModel" "thrown" "I", .methodLink R_M 81 y_M_highest, .instanceMethod y_M_highest, .selects R_M y_M_highest y_M_highest, .code y_M_highest b_M_highest 5 (some .int), .fieldLink R_M 7 "TripleSumsModel" "parts" "[I", .constant R_M 89 (-100000)] ++ v_M)
def w_M_bottom : List Cond := .code y_M_bottom b_M_bottom 2 (some .int) :: ([.methodLink R_M 52 y_M_isSum, .static y_M_isSum, .initialized R_M, .code y_M_isSum b_M_isSum 1 (some .boolean), .methodLink R_M 56 y_M_goes, .instanceMethod y_M_goes, .selects R_M y_M_goes y_M_goes, .code y_M_goes b_M_goes 3 (some .boolean), .fieldLink R_M 17 "TripleSumsModel" "thrown" "I", .methodLink R_M 100 y_M_lowest, .instanceMethod y_M_lowest, .selects R_M y_M_lowest y_M_lowest, .code y_M_lowest b_M_lowest 5 (some .int), .fieldLink R_M 7 "TripleSumsModel" "parts" "[I", .constant R_M 89 (-100000)] ++ v_M)
def w_M_bit : List Cond := .code y_M_bit b_M_bit 3 (some .boolean) :: ([.methodLink R_M 52 y_M_isSum, .static y_M_isSum, .initialized R_M, .code y_M_isSum b_M_isSum 1 (some .boolean), .methodLink R_M 56 y_M_goes, .instanceMethod y_M_goes, .selects R_M y_M_goes y_M_goes, .code y_M_goes b_M_goes 3 (some .boolean), .fieldLink R_M 17 "TripleSumsModel" "thrown" "I", .methodLink R_M 96 y_M_has, .instanceMethod y_M_has, .selects R_M y_M_has y_M_has, .code y_M_has b_M_has 6 (some .boolean), .constantLong R_M 85 (-3222), .constantLong R_M 87 (6720), .fieldLink R_M 7 "TripleSumsModel" "parts" "[I"] ++ v_M)
def w_M_word : List Cond := .code y_M_word b_M_word 6 (some .long) :: ([.methodLink R_M 52 y_M_isSum, .static y_M_isSum, .initialized R_M, .code y_M_isSum b_M_isSum 1 (some .boolean), .methodLink R_M 56 y_M_goes, .instanceMethod y_M_goes, .selects R_M y_M_goes y_M_goes, .code y_M_goes b_M_goes 3 (some .boolean), .fieldLink R_M 17 "TripleSumsModel" "thrown" "I", .methodLink R_M 96 y_M_has, .instanceMethod y_M_has, .selects R_M y_M_has y_M_has, .code y_M_has b_M_has 6 (some .boolean), .constantLong R_M 85 (-3222), .constantLong R_M 87 (6720), .fieldLink R_M 7 "TripleSumsModel" "parts" "[I"] ++ v_M)
set_option maxRecDepth 20000 in
theorem gg_M_clear_M_isSum : GoodIn w_M_clear w_M_isSum := goodIn_r _ [4] (by decide +kernel) (by decide +kernel)
set_option maxRecDepth 20000 in
theorem g_M_clear_M_isSum : GoodIn w_M_clear (va_wsS R_M 52 y_M_isSum w_M_isSum) := goodIn_app (goodIn_of _ (by decide +kernel)) gg_M_clear_M_isSum
set_option maxRecDepth 20000 in
theorem gg_M_clear_M_goes : GoodIn w_M_clear w_M_goes := goodIn_r _ [8, 9, 16, 17, 18] (by decide +kernel) (by decide +kernel)
set_option maxRecDepth 20000 in
theorem g_M_clear_M_goes : GoodIn w_M_clear (wsV R_M 56 R_M y_M_goes w_M_goes) := goodIn_app (goodIn_of _ (by decide +kernel)) gg_M_clear_M_goes
set_option maxRecDepth 20000 in
theorem gg_M_clear_M_zero : GoodIn w_M_clear w_M_zero := goodIn_r _ [13, 14, 15, 16, 17, 18] (by decide +kernel) (by decide +kernel)
set_option maxRecDepth 20000 in
theorem g_M_clear_M_zero : GoodIn w_M_clear (wsV R_M 60 R_M y_M_zero w_M_zero) := goodIn_app (goodIn_of _ (by decide +kernel)) gg_M_clear_M_zero
set_option maxRecDepth 20000 in
theorem gg_M_add_M_exponent : GoodIn w_M_add w_M_exponent := goodIn_r _ [4, 5] (by decide +kernel) (by decide +kernel)
set_option maxRecDepth 20000 in
theorem g_M_add_M_exponent : GoodIn w_M_add (va_wsS R_M 37 y_M_exponent w_M_exponent) := goodIn_app (goodIn_of _ (by decide +kernel)) gg_M_add_M_exponent
set_option maxRecDepth 20000 in
theorem gg_M_add_M_isTimes : GoodIn w_M_add w_M_isTimes := goodIn_r _ [8, 9, 10] (by decide +kernel) (by decide +kernel)
set_option maxRecDepth 20000 in
theorem g_M_add_M_isTimes : GoodIn w_M_add (va_wsS R_M 64 y_M_isTimes w_M_isTimes) := goodIn_app (goodIn_of _ (by decide +kernel)) gg_M_add_M_isTimes
set_option maxRecDepth 20000 in
theorem gg_M_add_M_isSum : GoodIn w_M_add w_M_isSum := goodIn_r _ [13] (by decide +kernel) (by decide +kernel)
set_option maxRecDepth 20000 in
theorem g_M_add_M_isSum : GoodIn w_M_add (va_wsS R_M 52 y_M_isSum w_M_isSum) := goodIn_app (goodIn_of _ (by decide +kernel)) gg_M_add_M_isSum
set_option maxRecDepth 20000 in
theorem gg_M_add_M_goes : GoodIn w_M_add w_M_goes := goodIn_r _ [17, 18, 62, 63, 64] (by decide +kernel) (by decide +kernel)
set_option maxRecDepth 20000 in
theorem g_M_add_M_goes : GoodIn w_M_add (wsV R_M 56 R_M y_M_goes w_M_goes) := goodIn_app (goodIn_of _ (by decide +kernel)) gg_M_add_M_goes
set_option maxRecDepth 20000 in
theorem gg_M_add_M_zero : GoodIn w_M_add w_M_zero := goodIn_r _ [22, 23, 24, 62, 63, 64] (by decide +kernel) (by decide +kernel)
set_option maxRecDepth 20000 in
theorem g_M_add_M_zero : GoodIn w_M_add (wsV R_M 60 R_M y_M_zero w_M_zero) := goodIn_app (goodIn_of _ (by decide +kernel)) gg_M_add_M_zero
set_option maxRecDepth 20000 in
theorem gg_M_add_M_mantissa : GoodIn w_M_add w_M_mantissa := goodIn_r _ [27, 28, 1, 2, 3, 4, 5, 29] (by decide +kernel) (by decide +kernel)
set_option maxRecDepth 20000 in
theorem g_M_add_M_mantissa : GoodIn w_M_add (va_wsS R_M 67 y_M_mantissa w_M_mantissa) := goodIn_app (goodIn_of _ (by decide +kernel)) gg_M_add_M_mantissa
set_option maxRecDepth 20000 in
theorem gg_M_add_M_timesLong : GoodIn w_M_add w_M_timesLong := goodIn_r _ [33, 34, 35, 36, 3, 37, 23, 24, 38, 39, 40, 41, 42, 43, 44, 45, 46, 47, 48, 49, 50, 51, 52, 53, 54, 62, 63, 64] (by decide +kernel) (by decide +kernel)
set_option maxRecDepth 20000 in
theorem g_M_add_M_timesLong : GoodIn w_M_add (wsV R_M 71 R_M y_M_timesLong w_M_timesLong) := goodIn_app (goodIn_of _ (by decide +kernel)) gg_M_add_M_timesLong
set_option maxRecDepth 20000 in
theorem gg_M_add_M_power : GoodIn w_M_add w_M_power := goodIn_r _ [57, 1, 2, 3, 4, 5] (by decide +kernel) (by decide +kernel)
set_option maxRecDepth 20000 in
theorem g_M_add_M_power : GoodIn w_M_add (va_wsS R_M 75 y_M_power w_M_power) := goodIn_app (goodIn_of _ (by decide +kernel)) gg_M_add_M_power
set_option maxRecDepth 20000 in
theorem gg_M_add_M_shift : GoodIn w_M_add w_M_shift := goodIn_r _ [46, 24, 39, 40, 41, 3, 42, 38, 62, 63, 64] (by decide +kernel) (by decide +kernel)
set_option maxRecDepth 20000 in
theorem g_M_add_M_shift : GoodIn w_M_add (wsV R_M 46 R_M y_M_shift w_M_shift) := goodIn_app (goodIn_of _ (by decide +kernel)) gg_M_add_M_shift
set_option maxRecDepth 20000 in
theorem gg_M_add_M_isZero : GoodIn w_M_add w_M_isZero := goodIn_r _ [61, 24, 62, 63, 64] (by decide +kernel) (by decide +kernel)
set_option maxRecDepth 20000 in
theorem g_M_add_M_isZero : GoodIn w_M_add (wsV R_M 78 R_M y_M_isZero w_M_isZero) := goodIn_app (goodIn_of _ (by decide +kernel)) gg_M_add_M_isZero
set_option maxRecDepth 20000 in
theorem gg_M_add_M_together : GoodIn w_M_add w_M_together := goodIn_r _ [50, 23, 51, 52, 53, 3, 54, 24, 38, 62, 63, 64] (by decide +kernel) (by decide +kernel)
set_option maxRecDepth 20000 in
theorem g_M_add_M_together : GoodIn w_M_add (wsV R_M 49 R_M y_M_together w_M_together) := goodIn_app (goodIn_of _ (by decide +kernel)) gg_M_add_M_together
set_option maxRecDepth 20000 in
theorem gg_M_mantissa_M_exponent : GoodIn w_M_mantissa w_M_exponent := goodIn_r _ [5, 6] (by decide +kernel) (by decide +kernel)
set_option maxRecDepth 20000 in
theorem g_M_mantissa_M_exponent : GoodIn w_M_mantissa (va_wsS R_M 37 y_M_exponent w_M_exponent) := goodIn_app (goodIn_of _ (by decide +kernel)) gg_M_mantissa_M_exponent
set_option maxRecDepth 20000 in
theorem gg_M_timesLong_M_copy : GoodIn w_M_timesLong w_M_copy := goodIn_r _ [5, 6, 7, 25, 26, 27] (by decide +kernel) (by decide +kernel)
set_option maxRecDepth 20000 in
theorem g_M_timesLong_M_copy : GoodIn w_M_timesLong (wsV R_M 43 R_M y_M_copy w_M_copy) := goodIn_app (goodIn_of _ (by decide +kernel)) gg_M_timesLong_M_copy
set_option maxRecDepth 20000 in
theorem gg_M_timesLong_M_times : GoodIn w_M_timesLong w_M_times := goodIn_r _ [12, 7, 8, 25, 26, 27] (by decide +kernel) (by decide +kernel)
set_option maxRecDepth 20000 in
theorem g_M_timesLong_M_times : GoodIn w_M_timesLong (wsV R_M 25 R_M y_M_times w_M_times) := goodIn_app (goodIn_of _ (by decide +kernel)) gg_M_timesLong_M_times
set_option maxRecDepth 20000 in
theorem gg_M_timesLong_M_shift : GoodIn w_M_timesLong w_M_shift := goodIn_r _ [16, 7, 9, 10, 11, 4, 12, 8, 25, 26, 27] (by decide +kernel) (by decide +kernel)
set_option maxRecDepth 20000 in
theorem g_M_timesLong_M_shift : GoodIn w_M_timesLong (wsV R_M 46 R_M y_M_shift w_M_shift) := goodIn_app (goodIn_of _ (by decide +kernel)) gg_M_timesLong_M_shift
set_option maxRecDepth 20000 in
theorem gg_M_timesLong_M_together : GoodIn w_M_timesLong w_M_together := goodIn_r _ [20, 6, 21, 22, 23, 4, 24, 7, 8, 25, 26, 27] (by decide +kernel) (by decide +kernel)
set_option maxRecDepth 20000 in
theorem g_M_timesLong_M_together : GoodIn w_M_timesLong (wsV R_M 49 R_M y_M_together w_M_together) := goodIn_app (goodIn_of _ (by decide +kernel)) gg_M_timesLong_M_together
set_option maxRecDepth 20000 in
theorem gg_M_shift_M_times : GoodIn w_M_shift w_M_times := goodIn_r _ [6, 1, 7, 8, 9, 10] (by decide +kernel) (by decide +kernel)
set_option maxRecDepth 20000 in
theorem g_M_shift_M_times : GoodIn w_M_shift (wsV R_M 25 R_M y_M_times w_M_times) := goodIn_app (goodIn_of _ (by decide +kernel)) gg_M_shift_M_times
set_option maxRecDepth 20000 in
theorem gg_M_together_M_sizes : GoodIn w_M_together w_M_sizes := goodIn_r _ [6, 7, 9, 10, 11] (by decide +kernel) (by decide +kernel)
set_option maxRecDepth 20000 in
theorem g_M_together_M_sizes : GoodIn w_M_together (wsV R_M 29 R_M y_M_sizes w_M_sizes) := goodIn_app (goodIn_of _ (by decide +kernel)) gg_M_together_M_sizes
set_option maxRecDepth 20000 in
theorem gg_M_power_M_exponent : GoodIn w_M_power w_M_exponent := goodIn_r _ [4, 5] (by decide +kernel) (by decide +kernel)
set_option maxRecDepth 20000 in
theorem g_M_power_M_exponent : GoodIn w_M_power (va_wsS R_M 37 y_M_exponent w_M_exponent) := goodIn_app (goodIn_of _ (by decide +kernel)) gg_M_power_M_exponent
set_option maxRecDepth 20000 in
theorem gg_M_plus_M_isSum : GoodIn w_M_plus w_M_isSum := goodIn_r _ [4] (by decide +kernel) (by decide +kernel)
set_option maxRecDepth 20000 in
theorem g_M_plus_M_isSum : GoodIn w_M_plus (va_wsS R_M 52 y_M_isSum w_M_isSum) := goodIn_app (goodIn_of _ (by decide +kernel)) gg_M_plus_M_isSum
set_option maxRecDepth 20000 in
theorem gg_M_plus_M_isTimes : GoodIn w_M_plus w_M_isTimes := goodIn_r _ [7, 8, 9] (by decide +kernel) (by decide +kernel)
set_option maxRecDepth 20000 in
theorem g_M_plus_M_isTimes : GoodIn w_M_plus (va_wsS R_M 64 y_M_isTimes w_M_isTimes) := goodIn_app (goodIn_of _ (by decide +kernel)) gg_M_plus_M_isTimes
set_option maxRecDepth 20000 in
theorem gg_M_plus_M_goes : GoodIn w_M_plus w_M_goes := goodIn_r _ [13, 14, 43, 44, 45] (by decide +kernel) (by decide +kernel)
set_option maxRecDepth 20000 in
theorem g_M_plus_M_goes : GoodIn w_M_plus (wsV R_M 56 R_M y_M_goes w_M_goes) := goodIn_app (goodIn_of _ (by decide +kernel)) gg_M_plus_M_goes
set_option maxRecDepth 20000 in
theorem gg_M_plus_M_copy : GoodIn w_M_plus w_M_copy := goodIn_r _ [18, 19, 20, 43, 44, 45] (by decide +kernel) (by decide +kernel)
set_option maxRecDepth 20000 in
theorem g_M_plus_M_copy : GoodIn w_M_plus (wsV R_M 43 R_M y_M_copy w_M_copy) := goodIn_app (goodIn_of _ (by decide +kernel)) gg_M_plus_M_copy
set_option maxRecDepth 20000 in
theorem gg_M_plus_M_times : GoodIn w_M_plus w_M_times := goodIn_r _ [24, 20, 25, 43, 44, 45] (by decide +kernel) (by decide +kernel)
set_option maxRecDepth 20000 in
theorem g_M_plus_M_times : GoodIn w_M_plus (wsV R_M 25 R_M y_M_times w_M_times) := goodIn_app (goodIn_of _ (by decide +kernel)) gg_M_plus_M_times
set_option maxRecDepth 20000 in
theorem gg_M_plus_M_isZero : GoodIn w_M_plus w_M_isZero := goodIn_r _ [29, 20, 43, 44, 45] (by decide +kernel) (by decide +kernel)
set_option maxRecDepth 20000 in
theorem g_M_plus_M_isZero : GoodIn w_M_plus (wsV R_M 78 R_M y_M_isZero w_M_isZero) := goodIn_app (goodIn_of _ (by decide +kernel)) gg_M_plus_M_isZero
set_option maxRecDepth 20000 in
theorem gg_M_plus_M_together : GoodIn w_M_plus w_M_together := goodIn_r _ [33, 19, 34, 35, 36, 3, 37, 20, 25, 43, 44, 45] (by decide +kernel) (by decide +kernel)
set_option maxRecDepth 20000 in
theorem g_M_plus_M_together : GoodIn w_M_plus (wsV R_M 49 R_M y_M_together w_M_together) := goodIn_app (goodIn_of _ (by decide +kernel)) gg_M_plus_M_together
set_option maxRecDepth 20000 in
theorem gg_M_plus_M_highest : GoodIn w_M_plus w_M_highest := goodIn_r _ [41, 20, 42, 43, 44, 45] (by decide +kernel) (by decide +kernel)
set_option maxRecDepth 20000 in
theorem g_M_plus_M_highest : GoodIn w_M_plus (wsV R_M 81 R_M y_M_highest w_M_highest) := goodIn_app (goodIn_of _ (by decide +kernel)) gg_M_plus_M_highest
set_option maxRecDepth 20000 in
theorem gg_M_sign_M_isSum : GoodIn w_M_sign w_M_isSum := goodIn_r _ [4] (by decide +kernel) (by decide +kernel)
set_option maxRecDepth 20000 in
theorem g_M_sign_M_isSum : GoodIn w_M_sign (va_wsS R_M 52 y_M_isSum w_M_isSum) := goodIn_app (goodIn_of _ (by decide +kernel)) gg_M_sign_M_isSum
set_option maxRecDepth 20000 in
theorem gg_M_sign_M_goes : GoodIn w_M_sign w_M_goes := goodIn_r _ [8, 9, 16, 17, 18] (by decide +kernel) (by decide +kernel)
set_option maxRecDepth 20000 in
theorem g_M_sign_M_goes : GoodIn w_M_sign (wsV R_M 56 R_M y_M_goes w_M_goes) := goodIn_app (goodIn_of _ (by decide +kernel)) gg_M_sign_M_goes
set_option maxRecDepth 20000 in
theorem gg_M_sign_M_isZero : GoodIn w_M_sign w_M_isZero := goodIn_r _ [13, 14, 16, 17, 18] (by decide +kernel) (by decide +kernel)
set_option maxRecDepth 20000 in
theorem g_M_sign_M_isZero : GoodIn w_M_sign (wsV R_M 78 R_M y_M_isZero w_M_isZero) := goodIn_app (goodIn_of _ (by decide +kernel)) gg_M_sign_M_isZero
set_option maxRecDepth 20000 in
theorem gg_M_compare_M_isSum : GoodIn w_M_compare w_M_isSum := goodIn_r _ [4] (by decide +kernel) (by decide +kernel)
set_option maxRecDepth 20000 in
theorem g_M_compare_M_isSum : GoodIn w_M_compare (va_wsS R_M 52 y_M_isSum w_M_isSum) := goodIn_app (goodIn_of _ (by decide +kernel)) gg_M_compare_M_isSum
set_option maxRecDepth 20000 in
theorem gg_M_compare_M_goes : GoodIn w_M_compare w_M_goes := goodIn_r _ [8, 9, 16, 17, 18] (by decide +kernel) (by decide +kernel)
set_option maxRecDepth 20000 in
theorem g_M_compare_M_goes : GoodIn w_M_compare (wsV R_M 56 R_M y_M_goes w_M_goes) := goodIn_app (goodIn_of _ (by decide +kernel)) gg_M_compare_M_goes
set_option maxRecDepth 20000 in
theorem gg_M_compare_M_sizes : GoodIn w_M_compare w_M_sizes := goodIn_r _ [14, 15, 16, 17, 18] (by decide +kernel) (by decide +kernel)
set_option maxRecDepth 20000 in
theorem g_M_compare_M_sizes : GoodIn w_M_compare (wsV R_M 29 R_M y_M_sizes w_M_sizes) := goodIn_app (goodIn_of _ (by decide +kernel)) gg_M_compare_M_sizes
set_option maxRecDepth 20000 in
theorem gg_M_compareSizes_M_isSum : GoodIn w_M_compareSizes w_M_isSum := goodIn_r _ [4] (by decide +kernel) (by decide +kernel)
set_option maxRecDepth 20000 in
theorem g_M_compareSizes_M_isSum : GoodIn w_M_compareSizes (va_wsS R_M 52 y_M_isSum w_M_isSum) := goodIn_app (goodIn_of _ (by decide +kernel)) gg_M_compareSizes_M_isSum
set_option maxRecDepth 20000 in
theorem gg_M_compareSizes_M_goes : GoodIn w_M_compareSizes w_M_goes := goodIn_r _ [8, 9, 15, 16, 17] (by decide +kernel) (by decide +kernel)
set_option maxRecDepth 20000 in
theorem g_M_compareSizes_M_goes : GoodIn w_M_compareSizes (wsV R_M 56 R_M y_M_goes w_M_goes) := goodIn_app (goodIn_of _ (by decide +kernel)) gg_M_compareSizes_M_goes
set_option maxRecDepth 20000 in
theorem gg_M_compareSizes_M_sizes : GoodIn w_M_compareSizes w_M_sizes := goodIn_r _ [13, 14, 15, 16, 17] (by decide +kernel) (by decide +kernel)
set_option maxRecDepth 20000 in
theorem g_M_compareSizes_M_sizes : GoodIn w_M_compareSizes (wsV R_M 29 R_M y_M_sizes w_M_sizes) := goodIn_app (goodIn_of _ (by decide +kernel)) gg_M_compareSizes_M_sizes
set_option maxRecDepth 20000 in
theorem gg_M_nearest_M_isSum : GoodIn w_M_nearest w_M_isSum := goodIn_r _ [4] (by decide +kernel) (by decide +kernel)
set_option maxRecDepth 20000 in
theorem g_M_nearest_M_isSum : GoodIn w_M_nearest (va_wsS R_M 52 y_M_isSum w_M_isSum) := goodIn_app (goodIn_of _ (by decide +kernel)) gg_M_nearest_M_isSum
set_option maxRecDepth 20000 in
theorem gg_M_nearest_M_goes : GoodIn w_M_nearest w_M_goes := goodIn_r _ [8, 9, 33, 34, 35] (by decide +kernel) (by decide +kernel)
set_option maxRecDepth 20000 in
theorem g_M_nearest_M_goes : GoodIn w_M_nearest (wsV R_M 56 R_M y_M_goes w_M_goes) := goodIn_app (goodIn_of _ (by decide +kernel)) gg_M_nearest_M_goes
set_option maxRecDepth 20000 in
theorem gg_M_nearest_M_isZero : GoodIn w_M_nearest w_M_isZero := goodIn_r _ [13, 14, 33, 34, 35] (by decide +kernel) (by decide +kernel)
set_option maxRecDepth 20000 in
theorem g_M_nearest_M_isZero : GoodIn w_M_nearest (wsV R_M 78 R_M y_M_isZero w_M_isZero) := goodIn_app (goodIn_of _ (by decide +kernel)) gg_M_nearest_M_isZero
set_option maxRecDepth 20000 in
theorem gg_M_nearest_M_highest : GoodIn w_M_nearest w_M_highest := goodIn_r _ [20, 14, 21, 33, 34, 35] (by decide +kernel) (by decide +kernel)
set_option maxRecDepth 20000 in
theorem g_M_nearest_M_highest : GoodIn w_M_nearest (wsV R_M 81 R_M y_M_highest w_M_highest) := goodIn_app (goodIn_of _ (by decide +kernel)) gg_M_nearest_M_highest
set_option maxRecDepth 20000 in
theorem gg_M_nearest_M_has : GoodIn w_M_nearest w_M_has := goodIn_r _ [26, 27, 28, 14, 33, 34, 35] (by decide +kernel) (by decide +kernel)
set_option maxRecDepth 20000 in
theorem g_M_nearest_M_has : GoodIn w_M_nearest (wsV R_M 96 R_M y_M_has w_M_has) := goodIn_app (goodIn_of _ (by decide +kernel)) gg_M_nearest_M_has
set_option maxRecDepth 20000 in
theorem gg_M_nearest_M_lowest : GoodIn w_M_nearest w_M_lowest := goodIn_r _ [32, 14, 21, 33, 34, 35] (by decide +kernel) (by decide +kernel)
set_option maxRecDepth 20000 in
theorem g_M_nearest_M_lowest : GoodIn w_M_nearest (wsV R_M 100 R_M y_M_lowest w_M_lowest) := goodIn_app (goodIn_of _ (by decide +kernel)) gg_M_nearest_M_lowest
set_option maxRecDepth 20000 in
theorem gg_M_top_M_isSum : GoodIn w_M_top w_M_isSum := goodIn_r _ [4] (by decide +kernel) (by decide +kernel)
set_option maxRecDepth 20000 in
theorem g_M_top_M_isSum : GoodIn w_M_top (va_wsS R_M 52 y_M_isSum w_M_isSum) := goodIn_app (goodIn_of _ (by decide +kernel)) gg_M_top_M_isSum
set_option maxRecDepth 20000 in
theorem gg_M_top_M_goes : GoodIn w_M_top w_M_goes := goodIn_r _ [8, 9, 16, 17, 18] (by decide +kernel) (by decide +kernel)
set_option maxRecDepth 20000 in
theorem g_M_top_M_goes : GoodIn w_M_top (wsV R_M 56 R_M y_M_goes w_M_goes) := goodIn_app (goodIn_of _ (by decide +kernel)) gg_M_top_M_goes
set_option maxRecDepth 20000 in
theorem gg_M_top_M_highest : GoodIn w_M_top w_M_highest := goodIn_r _ [13, 14, 15, 16, 17, 18] (by decide +kernel) (by decide +kernel)
set_option maxRecDepth 20000 in
theorem g_M_top_M_highest : GoodIn w_M_top (wsV R_M 81 R_M y_M_highest w_M_highest) := goodIn_app (goodIn_of _ (by decide +kernel)) gg_M_top_M_highest
set_option maxRecDepth 20000 in
theorem gg_M_bottom_M_isSum : GoodIn w_M_bottom w_M_isSum := goodIn_r _ [4] (by decide +kernel) (by decide +kernel)
set_option maxRecDepth 20000 in
theorem g_M_bottom_M_isSum : GoodIn w_M_bottom (va_wsS R_M 52 y_M_isSum w_M_isSum) := goodIn_app (goodIn_of _ (by decide +kernel)) gg_M_bottom_M_isSum
set_option maxRecDepth 20000 in
theorem gg_M_bottom_M_goes : GoodIn w_M_bottom w_M_goes := goodIn_r _ [8, 9, 16, 17, 18] (by decide +kernel) (by decide +kernel)
set_option maxRecDepth 20000 in
theorem g_M_bottom_M_goes : GoodIn w_M_bottom (wsV R_M 56 R_M y_M_goes w_M_goes) := goodIn_app (goodIn_of _ (by decide +kernel)) gg_M_bottom_M_goes
set_option maxRecDepth 20000 in
theorem gg_M_bottom_M_lowest : GoodIn w_M_bottom w_M_lowest := goodIn_r _ [13, 14, 15, 16, 17, 18] (by decide +kernel) (by decide +kernel)
set_option maxRecDepth 20000 in
theorem g_M_bottom_M_lowest : GoodIn w_M_bottom (wsV R_M 100 R_M y_M_lowest w_M_lowest) := goodIn_app (goodIn_of _ (by decide +kernel)) gg_M_bottom_M_lowest
set_option maxRecDepth 20000 in
theorem gg_M_bit_M_isSum : GoodIn w_M_bit w_M_isSum := goodIn_r _ [4] (by decide +kernel) (by decide +kernel)
set_option maxRecDepth 20000 in
theorem g_M_bit_M_isSum : GoodIn w_M_bit (va_wsS R_M 52 y_M_isSum w_M_isSum) := goodIn_app (goodIn_of _ (by decide +kernel)) gg_M_bit_M_isSum
set_option maxRecDepth 20000 in
theorem gg_M_bit_M_goes : GoodIn w_M_bit w_M_goes := goodIn_r _ [8, 9, 17, 18, 19] (by decide +kernel) (by decide +kernel)
set_option maxRecDepth 20000 in
theorem g_M_bit_M_goes : GoodIn w_M_bit (wsV R_M 56 R_M y_M_goes w_M_goes) := goodIn_app (goodIn_of _ (by decide +kernel)) gg_M_bit_M_goes
set_option maxRecDepth 20000 in
theorem gg_M_bit_M_has : GoodIn w_M_bit w_M_has := goodIn_r _ [13, 14, 15, 16, 17, 18, 19] (by decide +kernel) (by decide +kernel)
set_option maxRecDepth 20000 in
theorem g_M_bit_M_has : GoodIn w_M_bit (wsV R_M 96 R_M y_M_has w_M_has) := goodIn_app (goodIn_of _ (by decide +kernel)) gg_M_bit_M_has
set_option maxRecDepth 20000 in
theorem gg_M_word_M_isSum : GoodIn w_M_word w_M_isSum := goodIn_r _ [4] (by decide +kernel) (by decide +kernel)
set_option maxRecDepth 20000 in
theorem g_M_word_M_isSum : GoodIn w_M_word (va_wsS R_M 52 y_M_isSum w_M_isSum) := goodIn_app (goodIn_of _ (by decide +kernel)) gg_M_word_M_isSum
set_option maxRecDepth 20000 in
theorem gg_M_word_M_goes : GoodIn w_M_word w_M_goes := goodIn_r _ [8, 9, 17, 18, 19] (by decide +kernel) (by decide +kernel)
set_option maxRecDepth 20000 in
theorem g_M_word_M_goes : GoodIn w_M_word (wsV R_M 56 R_M y_M_goes w_M_goes) := goodIn_app (goodIn_of _ (by decide +kernel)) gg_M_word_M_goes
set_option maxRecDepth 20000 in
theorem gg_M_word_M_has : GoodIn w_M_word w_M_has := goodIn_r _ [13, 14, 15, 16, 17, 18, 19] (by decide +kernel) (by decide +kernel)
set_option maxRecDepth 20000 in
theorem g_M_word_M_has : GoodIn w_M_word (wsV R_M 96 R_M y_M_has w_M_has) := goodIn_app (goodIn_of _ (by decide +kernel)) gg_M_word_M_has
theorem d_M_init_0 : decode b_M_init 0 = .ok (.aload_n 0, 1) := by decide +kernel
theorem d_M_init_1 : decode b_M_init 1 = .ok (.invokespecial 1, 3) := by decide +kernel
theorem d_M_init_4 : decode b_M_init 4 = .ok (.aload_n 0, 1) := by decide +kernel
theorem d_M_init_5 : decode b_M_init 5 = .ok (.sipush 2400, 3) := by decide +kernel
theorem d_M_init_8 : decode b_M_init 8 = .ok (.newarray .int, 2) := by decide +kernel
theorem d_M_init_10 : decode b_M_init 10 = .ok (.putfield 7, 3) := by decide +kernel
theorem d_M_init_13 : decode b_M_init 13 = .ok (.aload_n 0, 1) := by decide +kernel
theorem d_M_init_14 : decode b_M_init 14 = .ok (.bipush 10, 2) := by decide +kernel
theorem d_M_init_16 : decode b_M_init 16 = .ok (.newarray .boolean, 2) := by decide +kernel
theorem d_M_init_18 : decode b_M_init 18 = .ok (.putfield 13, 3) := by decide +kernel
theorem d_M_init_21 : decode b_M_init 21 = .ok (.return_, 1) := by decide +kernel
theorem d_M_thrown_0 : decode b_M_thrown 0 = .ok (.aload_n 0, 1) := by decide +kernel
theorem d_M_thrown_1 : decode b_M_thrown 1 = .ok (.getfield 17, 3) := by decide +kernel
theorem d_M_thrown_4 : decode b_M_thrown 4 = .ok (.ireturn, 1) := by decide +kernel
theorem d_M_clear_0 : decode b_M_clear 0 = .ok (.aload_n 0, 1) := by decide +kernel
theorem d_M_clear_1 : decode b_M_clear 1 = .ok (.iload_n 1, 1) := by decide +kernel
theorem d_M_clear_2 : decode b_M_clear 2 = .ok (.invokestatic 52, 3) := by decide +kernel
theorem d_M_clear_5 : decode b_M_clear 5 = .ok (.iconst 1, 1) := by decide +kernel
theorem d_M_clear_6 : decode b_M_clear 6 = .ok (.invokevirtual 56, 3) := by decide +kernel
theorem d_M_clear_9 : decode b_M_clear 9 = .ok (.ifCond .eq 8, 3) := by decide +kernel
theorem d_M_clear_12 : decode b_M_clear 12 = .ok (.aload_n 0, 1) := by decide +kernel
theorem d_M_clear_13 : decode b_M_clear 13 = .ok (.iload_n 1, 1) := by decide +kernel
theorem d_M_clear_14 : decode b_M_clear 14 = .ok (.invokevirtual 60, 3) := by decide +kernel
theorem d_M_clear_17 : decode b_M_clear 17 = .ok (.return_, 1) := by decide +kernel
theorem d_M_isSum_0 : decode b_M_isSum 0 = .ok (.iload_n 0, 1) := by decide +kernel
theorem d_M_isSum_1 : decode b_M_isSum 1 = .ok (.ifCond .lt 13, 3) := by decide +kernel
theorem d_M_isSum_4 : decode b_M_isSum 4 = .ok (.iload_n 0, 1) := by decide +kernel
theorem d_M_isSum_5 : decode b_M_isSum 5 = .ok (.bipush 8, 2) := by decide +kernel
theorem d_M_isSum_7 : decode b_M_isSum 7 = .ok (.if_icmp .ge 7, 3) := by decide +kernel
theorem d_M_isSum_10 : decode b_M_isSum 10 = .ok (.iconst 1, 1) := by decide +kernel
theorem d_M_isSum_11 : decode b_M_isSum 11 = .ok (.goto 4, 3) := by decide +kernel
theorem d_M_isSum_14 : decode b_M_isSum 14 = .ok (.iconst 0, 1) := by decide +kernel
theorem d_M_isSum_15 : decode b_M_isSum 15 = .ok (.ireturn, 1) := by decide +kernel
theorem d_M_goes_0 : decode b_M_goes 0 = .ok (.aload_n 0, 1) := by decide +kernel
theorem d_M_goes_1 : decode b_M_goes 1 = .ok (.iload_n 1, 1) := by decide +kernel
theorem d_M_goes_2 : decode b_M_goes 2 = .ok (.ifCond .ne 7, 3) := by decide +kernel
theorem d_M_goes_5 : decode b_M_goes 5 = .ok (.iconst 1, 1) := by decide +kernel
theorem d_M_goes_6 : decode b_M_goes 6 = .ok (.goto 12, 3) := by decide +kernel
theorem d_M_goes_9 : decode b_M_goes 9 = .ok (.iload_n 2, 1) := by decide +kernel
theorem d_M_goes_10 : decode b_M_goes 10 = .ok (.ifCond .ne 7, 3) := by decide +kernel
theorem d_M_goes_13 : decode b_M_goes 13 = .ok (.iconst 2, 1) := by decide +kernel
theorem d_M_goes_14 : decode b_M_goes 14 = .ok (.goto 4, 3) := by decide +kernel
theorem d_M_goes_17 : decode b_M_goes 17 = .ok (.iconst 0, 1) := by decide +kernel
theorem d_M_goes_18 : decode b_M_goes 18 = .ok (.putfield 17, 3) := by decide +kernel
theorem d_M_goes_21 : decode b_M_goes 21 = .ok (.aload_n 0, 1) := by decide +kernel
theorem d_M_goes_22 : decode b_M_goes 22 = .ok (.getfield 17, 3) := by decide +kernel
theorem d_M_goes_25 : decode b_M_goes 25 = .ok (.ifCond .ne 7, 3) := by decide +kernel
theorem d_M_goes_28 : decode b_M_goes 28 = .ok (.iconst 1, 1) := by decide +kernel
theorem d_M_goes_29 : decode b_M_goes 29 = .ok (.goto 4, 3) := by decide +kernel
theorem d_M_goes_32 : decode b_M_goes 32 = .ok (.iconst 0, 1) := by decide +kernel
theorem d_M_goes_33 : decode b_M_goes 33 = .ok (.ireturn, 1) := by decide +kernel
theorem d_M_zero_0 : decode b_M_zero 0 = .ok (.aload_n 0, 1) := by decide +kernel
theorem d_M_zero_1 : decode b_M_zero 1 = .ok (.getfield 13, 3) := by decide +kernel
theorem d_M_zero_4 : decode b_M_zero 4 = .ok (.iload_n 1, 1) := by decide +kernel
theorem d_M_zero_5 : decode b_M_zero 5 = .ok (.iconst 0, 1) := by decide +kernel
theorem d_M_zero_6 : decode b_M_zero 6 = .ok (.bastore, 1) := by decide +kernel
theorem d_M_zero_7 : decode b_M_zero 7 = .ok (.iconst 0, 1) := by decide +kernel
theorem d_M_zero_8 : decode b_M_zero 8 = .ok (.istore_n 2, 1) := by decide +kernel
theorem d_M_zero_9 : decode b_M_zero 9 = .ok (.iload_n 2, 1) := by decide +kernel
theorem d_M_zero_10 : decode b_M_zero 10 = .ok (.sipush 240, 3) := by decide +kernel
theorem d_M_zero_13 : decode b_M_zero 13 = .ok (.if_icmp .ge 22, 3) := by decide +kernel
theorem d_M_zero_16 : decode b_M_zero 16 = .ok (.aload_n 0, 1) := by decide +kernel
theorem d_M_zero_17 : decode b_M_zero 17 = .ok (.getfield 7, 3) := by decide +kernel
theorem d_M_zero_20 : decode b_M_zero 20 = .ok (.sipush 240, 3) := by decide +kernel
theorem d_M_zero_23 : decode b_M_zero 23 = .ok (.iload_n 1, 1) := by decide +kernel
theorem d_M_zero_24 : decode b_M_zero 24 = .ok (.imul, 1) := by decide +kernel
theorem d_M_zero_25 : decode b_M_zero 25 = .ok (.iload_n 2, 1) := by decide +kernel
theorem d_M_zero_26 : decode b_M_zero 26 = .ok (.iadd, 1) := by decide +kernel
theorem d_M_zero_27 : decode b_M_zero 27 = .ok (.iconst 0, 1) := by decide +kernel
theorem d_M_zero_28 : decode b_M_zero 28 = .ok (.iastore, 1) := by decide +kernel
theorem d_M_zero_29 : decode b_M_zero 29 = .ok (.iinc 2 1, 3) := by decide +kernel
theorem d_M_zero_32 : decode b_M_zero 32 = .ok (.goto (-23), 3) := by decide +kernel
theorem d_M_zero_35 : decode b_M_zero 35 = .ok (.return_, 1) := by decide +kernel
theorem d_M_add_0 : decode b_M_add 0 = .ok (.lload_n 2, 1) := by decide +kernel
theorem d_M_add_1 : decode b_M_add 1 = .ok (.invokestatic 37, 3) := by decide +kernel
theorem d_M_add_4 : decode b_M_add 4 = .ok (.sipush 2047, 3) := by decide +kernel
theorem d_M_add_7 : decode b_M_add 7 = .ok (.if_icmp .ge 37, 3) := by decide +kernel
theorem d_M_add_10 : decode b_M_add 10 = .ok (.lload 4, 2) := by decide +kernel
theorem d_M_add_12 : decode b_M_add 12 = .ok (.invokestatic 37, 3) := by decide +kernel
theorem d_M_add_15 : decode b_M_add 15 = .ok (.sipush 2047, 3) := by decide +kernel
theorem d_M_add_18 : decode b_M_add 18 = .ok (.if_icmp .ge 26, 3) := by decide +kernel
theorem d_M_add_21 : decode b_M_add 21 = .ok (.lload 6, 2) := by decide +kernel
theorem d_M_add_23 : decode b_M_add 23 = .ok (.invokestatic 37, 3) := by decide +kernel
theorem d_M_add_26 : decode b_M_add 26 = .ok (.sipush 2047, 3) := by decide +kernel
theorem d_M_add_29 : decode b_M_add 29 = .ok (.if_icmp .ge 15, 3) := by decide +kernel
theorem d_M_add_32 : decode b_M_add 32 = .ok (.iload 8, 2) := by decide +kernel
theorem d_M_add_34 : decode b_M_add 34 = .ok (.invokestatic 64, 3) := by decide +kernel
theorem d_M_add_37 : decode b_M_add 37 = .ok (.ifCond .eq 7, 3) := by decide +kernel
theorem d_M_add_40 : decode b_M_add 40 = .ok (.iconst 1, 1) := by decide +kernel
theorem d_M_add_41 : decode b_M_add 41 = .ok (.goto 4, 3) := by decide +kernel
theorem d_M_add_44 : decode b_M_add 44 = .ok (.iconst 0, 1) := by decide +kernel
theorem d_M_add_45 : decode b_M_add 45 = .ok (.istore 9, 2) := by decide +kernel
theorem d_M_add_47 : decode b_M_add 47 = .ok (.aload_n 0, 1) := by decide +kernel
theorem d_M_add_48 : decode b_M_add 48 = .ok (.iload_n 1, 1) := by decide +kernel
theorem d_M_add_49 : decode b_M_add 49 = .ok (.invokestatic 52, 3) := by decide +kernel
theorem d_M_add_52 : decode b_M_add 52 = .ok (.iload 9, 2) := by decide +kernel
theorem d_M_add_54 : decode b_M_add 54 = .ok (.invokevirtual 56, 3) := by decide +kernel
theorem d_M_add_57 : decode b_M_add 57 = .ok (.ifCond .ne 4, 3) := by decide +kernel
theorem d_M_add_60 : decode b_M_add 60 = .ok (.return_, 1) := by decide +kernel
theorem d_M_add_61 : decode b_M_add 61 = .ok (.aload_n 0, 1) := by decide +kernel
theorem d_M_add_62 : decode b_M_add 62 = .ok (.bipush 8, 2) := by decide +kernel
theorem d_M_add_64 : decode b_M_add 64 = .ok (.invokevirtual 60, 3) := by decide +kernel
theorem d_M_add_67 : decode b_M_add 67 = .ok (.aload_n 0, 1) := by decide +kernel
theorem d_M_add_68 : decode b_M_add 68 = .ok (.getfield 7, 3) := by decide +kernel
theorem d_M_add_71 : decode b_M_add 71 = .ok (.sipush 1920, 3) := by decide +kernel
theorem d_M_add_74 : decode b_M_add 74 = .ok (.iload 8, 2) := by decide +kernel
theorem d_M_add_76 : decode b_M_add 76 = .ok (.ifCond .ge 9, 3) := by decide +kernel
theorem d_M_add_79 : decode b_M_add 79 = .ok (.iload 8, 2) := by decide +kernel
theorem d_M_add_81 : decode b_M_add 81 = .ok (.ineg, 1) := by decide +kernel
theorem d_M_add_82 : decode b_M_add 82 = .ok (.goto 5, 3) := by decide +kernel
theorem d_M_add_85 : decode b_M_add 85 = .ok (.iload 8, 2) := by decide +kernel
theorem d_M_add_87 : decode b_M_add 87 = .ok (.iastore, 1) := by decide +kernel
theorem d_M_add_88 : decode b_M_add 88 = .ok (.aload_n 0, 1) := by decide +kernel
theorem d_M_add_89 : decode b_M_add 89 = .ok (.lload_n 2, 1) := by decide +kernel
theorem d_M_add_90 : decode b_M_add 90 = .ok (.invokestatic 67, 3) := by decide +kernel
theorem d_M_add_93 : decode b_M_add 93 = .ok (.invokevirtual 71, 3) := by decide +kernel
theorem d_M_add_96 : decode b_M_add 96 = .ok (.aload_n 0, 1) := by decide +kernel
theorem d_M_add_97 : decode b_M_add 97 = .ok (.lload 4, 2) := by decide +kernel
theorem d_M_add_99 : decode b_M_add 99 = .ok (.invokestatic 67, 3) := by decide +kernel
theorem d_M_add_102 : decode b_M_add 102 = .ok (.invokevirtual 71, 3) := by decide +kernel
theorem d_M_add_105 : decode b_M_add 105 = .ok (.aload_n 0, 1) := by decide +kernel
theorem d_M_add_106 : decode b_M_add 106 = .ok (.lload 6, 2) := by decide +kernel
theorem d_M_add_108 : decode b_M_add 108 = .ok (.invokestatic 67, 3) := by decide +kernel
theorem d_M_add_111 : decode b_M_add 111 = .ok (.invokevirtual 71, 3) := by decide +kernel
theorem d_M_add_114 : decode b_M_add 114 = .ok (.aload_n 0, 1) := by decide +kernel
theorem d_M_add_115 : decode b_M_add 115 = .ok (.bipush 8, 2) := by decide +kernel
theorem d_M_add_117 : decode b_M_add 117 = .ok (.lload_n 2, 1) := by decide +kernel
theorem d_M_add_118 : decode b_M_add 118 = .ok (.invokestatic 75, 3) := by decide +kernel
theorem d_M_add_121 : decode b_M_add 121 = .ok (.lload 4, 2) := by decide +kernel
theorem d_M_add_123 : decode b_M_add 123 = .ok (.invokestatic 75, 3) := by decide +kernel
theorem d_M_add_126 : decode b_M_add 126 = .ok (.iadd, 1) := by decide +kernel
theorem d_M_add_127 : decode b_M_add 127 = .ok (.lload 6, 2) := by decide +kernel
theorem d_M_add_129 : decode b_M_add 129 = .ok (.invokestatic 75, 3) := by decide +kernel
theorem d_M_add_132 : decode b_M_add 132 = .ok (.iadd, 1) := by decide +kernel
theorem d_M_add_133 : decode b_M_add 133 = .ok (.sipush (-3222), 3) := by decide +kernel
theorem d_M_add_136 : decode b_M_add 136 = .ok (.isub, 1) := by decide +kernel
theorem d_M_add_137 : decode b_M_add 137 = .ok (.invokevirtual 46, 3) := by decide +kernel
theorem d_M_add_140 : decode b_M_add 140 = .ok (.aload_n 0, 1) := by decide +kernel
theorem d_M_add_141 : decode b_M_add 141 = .ok (.getfield 13, 3) := by decide +kernel
theorem d_M_add_144 : decode b_M_add 144 = .ok (.bipush 8, 2) := by decide +kernel
theorem d_M_add_146 : decode b_M_add 146 = .ok (.lload_n 2, 1) := by decide +kernel
theorem d_M_add_147 : decode b_M_add 147 = .ok (.lload 4, 2) := by decide +kernel
theorem d_M_add_149 : decode b_M_add 149 = .ok (.lxor, 1) := by decide +kernel
theorem d_M_add_150 : decode b_M_add 150 = .ok (.lload 6, 2) := by decide +kernel
theorem d_M_add_152 : decode b_M_add 152 = .ok (.lxor, 1) := by decide +kernel
theorem d_M_add_153 : decode b_M_add 153 = .ok (.lconst 0, 1) := by decide +kernel
theorem d_M_add_154 : decode b_M_add 154 = .ok (.lcmp, 1) := by decide +kernel
theorem d_M_add_155 : decode b_M_add 155 = .ok (.ifCond .ge 7, 3) := by decide +kernel
theorem d_M_add_158 : decode b_M_add 158 = .ok (.iconst 1, 1) := by decide +kernel
theorem d_M_add_159 : decode b_M_add 159 = .ok (.goto 4, 3) := by decide +kernel
theorem d_M_add_162 : decode b_M_add 162 = .ok (.iconst 0, 1) := by decide +kernel
theorem d_M_add_163 : decode b_M_add 163 = .ok (.iload 8, 2) := by decide +kernel
theorem d_M_add_165 : decode b_M_add 165 = .ok (.ifCond .ge 7, 3) := by decide +kernel
theorem d_M_add_168 : decode b_M_add 168 = .ok (.iconst 1, 1) := by decide +kernel
theorem d_M_add_169 : decode b_M_add 169 = .ok (.goto 4, 3) := by decide +kernel
theorem d_M_add_172 : decode b_M_add 172 = .ok (.iconst 0, 1) := by decide +kernel
theorem d_M_add_173 : decode b_M_add 173 = .ok (.if_icmp .eq 7, 3) := by decide +kernel
theorem d_M_add_176 : decode b_M_add 176 = .ok (.iconst 1, 1) := by decide +kernel
theorem d_M_add_177 : decode b_M_add 177 = .ok (.goto 4, 3) := by decide +kernel
theorem d_M_add_180 : decode b_M_add 180 = .ok (.iconst 0, 1) := by decide +kernel
theorem d_M_add_181 : decode b_M_add 181 = .ok (.bastore, 1) := by decide +kernel
theorem d_M_add_182 : decode b_M_add 182 = .ok (.aload_n 0, 1) := by decide +kernel
theorem d_M_add_183 : decode b_M_add 183 = .ok (.getfield 13, 3) := by decide +kernel
theorem d_M_add_186 : decode b_M_add 186 = .ok (.bipush 8, 2) := by decide +kernel
theorem d_M_add_188 : decode b_M_add 188 = .ok (.aload_n 0, 1) := by decide +kernel
theorem d_M_add_189 : decode b_M_add 189 = .ok (.getfield 13, 3) := by decide +kernel
theorem d_M_add_192 : decode b_M_add 192 = .ok (.bipush 8, 2) := by decide +kernel
theorem d_M_add_194 : decode b_M_add 194 = .ok (.baload, 1) := by decide +kernel
theorem d_M_add_195 : decode b_M_add 195 = .ok (.ifCond .eq 16, 3) := by decide +kernel
theorem d_M_add_198 : decode b_M_add 198 = .ok (.aload_n 0, 1) := by decide +kernel
theorem d_M_add_199 : decode b_M_add 199 = .ok (.bipush 8, 2) := by decide +kernel
theorem d_M_add_201 : decode b_M_add 201 = .ok (.invokevirtual 78, 3) := by decide +kernel
theorem d_M_add_204 : decode b_M_add 204 = .ok (.ifCond .ne 7, 3) := by decide +kernel
theorem d_M_add_207 : decode b_M_add 207 = .ok (.iconst 1, 1) := by decide +kernel
theorem d_M_add_208 : decode b_M_add 208 = .ok (.goto 4, 3) := by decide +kernel
theorem d_M_add_211 : decode b_M_add 211 = .ok (.iconst 0, 1) := by decide +kernel
theorem d_M_add_212 : decode b_M_add 212 = .ok (.bastore, 1) := by decide +kernel
theorem d_M_add_213 : decode b_M_add 213 = .ok (.aload_n 0, 1) := by decide +kernel
theorem d_M_add_214 : decode b_M_add 214 = .ok (.iload_n 1, 1) := by decide +kernel
theorem d_M_add_215 : decode b_M_add 215 = .ok (.bipush 8, 2) := by decide +kernel
theorem d_M_add_217 : decode b_M_add 217 = .ok (.invokevirtual 49, 3) := by decide +kernel
theorem d_M_add_220 : decode b_M_add 220 = .ok (.return_, 1) := by decide +kernel
theorem d_M_exponent_0 : decode b_M_exponent 0 = .ok (.lload_n 0, 1) := by decide +kernel
theorem d_M_exponent_1 : decode b_M_exponent 1 = .ok (.bipush 52, 2) := by decide +kernel
theorem d_M_exponent_3 : decode b_M_exponent 3 = .ok (.lushr, 1) := by decide +kernel
theorem d_M_exponent_4 : decode b_M_exponent 4 = .ok (.ldc2_w 33, 3) := by decide +kernel
theorem d_M_exponent_7 : decode b_M_exponent 7 = .ok (.land, 1) := by decide +kernel
theorem d_M_exponent_8 : decode b_M_exponent 8 = .ok (.l2i, 1) := by decide +kernel
theorem d_M_exponent_9 : decode b_M_exponent 9 = .ok (.ireturn, 1) := by decide +kernel
theorem d_M_isTimes_0 : decode b_M_isTimes 0 = .ok (.iload_n 0, 1) := by decide +kernel
theorem d_M_isTimes_1 : decode b_M_isTimes 1 = .ok (.ldc 21, 2) := by decide +kernel
theorem d_M_isTimes_3 : decode b_M_isTimes 3 = .ok (.if_icmp .lt 13, 3) := by decide +kernel
theorem d_M_isTimes_6 : decode b_M_isTimes 6 = .ok (.iload_n 0, 1) := by decide +kernel
theorem d_M_isTimes_7 : decode b_M_isTimes 7 = .ok (.ldc 22, 2) := by decide +kernel
theorem d_M_isTimes_9 : decode b_M_isTimes 9 = .ok (.if_icmp .gt 7, 3) := by decide +kernel
theorem d_M_isTimes_12 : decode b_M_isTimes 12 = .ok (.iconst 1, 1) := by decide +kernel
theorem d_M_isTimes_13 : decode b_M_isTimes 13 = .ok (.goto 4, 3) := by decide +kernel
theorem d_M_isTimes_16 : decode b_M_isTimes 16 = .ok (.iconst 0, 1) := by decide +kernel
theorem d_M_isTimes_17 : decode b_M_isTimes 17 = .ok (.ireturn, 1) := by decide +kernel
theorem d_M_mantissa_0 : decode b_M_mantissa 0 = .ok (.lload_n 0, 1) := by decide +kernel
theorem d_M_mantissa_1 : decode b_M_mantissa 1 = .ok (.ldc2_w 35, 3) := by decide +kernel
theorem d_M_mantissa_4 : decode b_M_mantissa 4 = .ok (.land, 1) := by decide +kernel
theorem d_M_mantissa_5 : decode b_M_mantissa 5 = .ok (.lstore_n 2, 1) := by decide +kernel
theorem d_M_mantissa_6 : decode b_M_mantissa 6 = .ok (.lload_n 0, 1) := by decide +kernel
theorem d_M_mantissa_7 : decode b_M_mantissa 7 = .ok (.invokestatic 37, 3) := by decide +kernel
theorem d_M_mantissa_10 : decode b_M_mantissa 10 = .ok (.ifCond .ne 7, 3) := by decide +kernel
theorem d_M_mantissa_13 : decode b_M_mantissa 13 = .ok (.lload_n 2, 1) := by decide +kernel
theorem d_M_mantissa_14 : decode b_M_mantissa 14 = .ok (.goto 8, 3) := by decide +kernel
theorem d_M_mantissa_17 : decode b_M_mantissa 17 = .ok (.lload_n 2, 1) := by decide +kernel
theorem d_M_mantissa_18 : decode b_M_mantissa 18 = .ok (.ldc2_w 41, 3) := by decide +kernel
theorem d_M_mantissa_21 : decode b_M_mantissa 21 = .ok (.lor, 1) := by decide +kernel
theorem d_M_mantissa_22 : decode b_M_mantissa 22 = .ok (.lreturn, 1) := by decide +kernel
theorem d_M_timesLong_0 : decode b_M_timesLong 0 = .ok (.aload_n 0, 1) := by decide +kernel
theorem d_M_timesLong_1 : decode b_M_timesLong 1 = .ok (.bipush 8, 2) := by decide +kernel
theorem d_M_timesLong_3 : decode b_M_timesLong 3 = .ok (.bipush 9, 2) := by decide +kernel
theorem d_M_timesLong_5 : decode b_M_timesLong 5 = .ok (.invokevirtual 43, 3) := by decide +kernel
theorem d_M_timesLong_8 : decode b_M_timesLong 8 = .ok (.aload_n 0, 1) := by decide +kernel
theorem d_M_timesLong_9 : decode b_M_timesLong 9 = .ok (.bipush 8, 2) := by decide +kernel
theorem d_M_timesLong_11 : decode b_M_timesLong 11 = .ok (.lload_n 1, 1) := by decide +kernel
theorem d_M_timesLong_12 : decode b_M_timesLong 12 = .ok (.ldc2_w 23, 3) := by decide +kernel
theorem d_M_timesLong_15 : decode b_M_timesLong 15 = .ok (.land, 1) := by decide +kernel
theorem d_M_timesLong_16 : decode b_M_timesLong 16 = .ok (.l2i, 1) := by decide +kernel
theorem d_M_timesLong_17 : decode b_M_timesLong 17 = .ok (.invokevirtual 25, 3) := by decide +kernel
theorem d_M_timesLong_20 : decode b_M_timesLong 20 = .ok (.aload_n 0, 1) := by decide +kernel
theorem d_M_timesLong_21 : decode b_M_timesLong 21 = .ok (.bipush 9, 2) := by decide +kernel
theorem d_M_timesLong_23 : decode b_M_timesLong 23 = .ok (.lload_n 1, 1) := by decide +kernel
theorem d_M_timesLong_24 : decode b_M_timesLong 24 = .ok (.bipush 28, 2) := by decide +kernel
theorem d_M_timesLong_26 : decode b_M_timesLong 26 = .ok (.lshr, 1) := by decide +kernel
theorem d_M_timesLong_27 : decode b_M_timesLong 27 = .ok (.l2i, 1) := by decide +kernel
theorem d_M_timesLong_28 : decode b_M_timesLong 28 = .ok (.invokevirtual 25, 3) := by decide +kernel
theorem d_M_timesLong_31 : decode b_M_timesLong 31 = .ok (.aload_n 0, 1) := by decide +kernel
theorem d_M_timesLong_32 : decode b_M_timesLong 32 = .ok (.bipush 9, 2) := by decide +kernel
theorem d_M_timesLong_34 : decode b_M_timesLong 34 = .ok (.bipush 28, 2) := by decide +kernel
theorem d_M_timesLong_36 : decode b_M_timesLong 36 = .ok (.invokevirtual 46, 3) := by decide +kernel
theorem d_M_timesLong_39 : decode b_M_timesLong 39 = .ok (.aload_n 0, 1) := by decide +kernel
theorem d_M_timesLong_40 : decode b_M_timesLong 40 = .ok (.getfield 13, 3) := by decide +kernel
theorem d_M_timesLong_43 : decode b_M_timesLong 43 = .ok (.bipush 8, 2) := by decide +kernel
theorem d_M_timesLong_45 : decode b_M_timesLong 45 = .ok (.baload, 1) := by decide +kernel
theorem d_M_timesLong_46 : decode b_M_timesLong 46 = .ok (.istore_n 3, 1) := by decide +kernel
theorem d_M_timesLong_47 : decode b_M_timesLong 47 = .ok (.aload_n 0, 1) := by decide +kernel
theorem d_M_timesLong_48 : decode b_M_timesLong 48 = .ok (.getfield 13, 3) := by decide +kernel
theorem d_M_timesLong_51 : decode b_M_timesLong 51 = .ok (.bipush 8, 2) := by decide +kernel
theorem d_M_timesLong_53 : decode b_M_timesLong 53 = .ok (.iconst 0, 1) := by decide +kernel
theorem d_M_timesLong_54 : decode b_M_timesLong 54 = .ok (.bastore, 1) := by decide +kernel
theorem d_M_timesLong_55 : decode b_M_timesLong 55 = .ok (.aload_n 0, 1) := by decide +kernel
theorem d_M_timesLong_56 : decode b_M_timesLong 56 = .ok (.getfield 13, 3) := by decide +kernel
theorem d_M_timesLong_59 : decode b_M_timesLong 59 = .ok (.bipush 9, 2) := by decide +kernel
theorem d_M_timesLong_61 : decode b_M_timesLong 61 = .ok (.iconst 0, 1) := by decide +kernel
theorem d_M_timesLong_62 : decode b_M_timesLong 62 = .ok (.bastore, 1) := by decide +kernel
theorem d_M_timesLong_63 : decode b_M_timesLong 63 = .ok (.aload_n 0, 1) := by decide +kernel
theorem d_M_timesLong_64 : decode b_M_timesLong 64 = .ok (.bipush 8, 2) := by decide +kernel
theorem d_M_timesLong_66 : decode b_M_timesLong 66 = .ok (.bipush 9, 2) := by decide +kernel
theorem d_M_timesLong_68 : decode b_M_timesLong 68 = .ok (.invokevirtual 49, 3) := by decide +kernel
theorem d_M_timesLong_71 : decode b_M_timesLong 71 = .ok (.aload_n 0, 1) := by decide +kernel
theorem d_M_timesLong_72 : decode b_M_timesLong 72 = .ok (.getfield 13, 3) := by decide +kernel
theorem d_M_timesLong_75 : decode b_M_timesLong 75 = .ok (.bipush 8, 2) := by decide +kernel
theorem d_M_timesLong_77 : decode b_M_timesLong 77 = .ok (.iload_n 3, 1) := by decide +kernel
theorem d_M_timesLong_78 : decode b_M_timesLong 78 = .ok (.bastore, 1) := by decide +kernel
theorem d_M_timesLong_79 : decode b_M_timesLong 79 = .ok (.return_, 1) := by decide +kernel
theorem d_M_copy_0 : decode b_M_copy 0 = .ok (.aload_n 0, 1) := by decide +kernel
theorem d_M_copy_1 : decode b_M_copy 1 = .ok (.getfield 13, 3) := by decide +kernel
theorem d_M_copy_4 : decode b_M_copy 4 = .ok (.iload_n 2, 1) := by decide +kernel
theorem d_M_copy_5 : decode b_M_copy 5 = .ok (.aload_n 0, 1) := by decide +kernel
theorem d_M_copy_6 : decode b_M_copy 6 = .ok (.getfield 13, 3) := by decide +kernel
theorem d_M_copy_9 : decode b_M_copy 9 = .ok (.iload_n 1, 1) := by decide +kernel
theorem d_M_copy_10 : decode b_M_copy 10 = .ok (.baload, 1) := by decide +kernel
theorem d_M_copy_11 : decode b_M_copy 11 = .ok (.bastore, 1) := by decide +kernel
theorem d_M_copy_12 : decode b_M_copy 12 = .ok (.iconst 0, 1) := by decide +kernel
theorem d_M_copy_13 : decode b_M_copy 13 = .ok (.istore_n 3, 1) := by decide +kernel
theorem d_M_copy_14 : decode b_M_copy 14 = .ok (.iload_n 3, 1) := by decide +kernel
theorem d_M_copy_15 : decode b_M_copy 15 = .ok (.sipush 240, 3) := by decide +kernel
theorem d_M_copy_18 : decode b_M_copy 18 = .ok (.if_icmp .ge 33, 3) := by decide +kernel
theorem d_M_copy_21 : decode b_M_copy 21 = .ok (.aload_n 0, 1) := by decide +kernel
theorem d_M_copy_22 : decode b_M_copy 22 = .ok (.getfield 7, 3) := by decide +kernel
theorem d_M_copy_25 : decode b_M_copy 25 = .ok (.sipush 240, 3) := by decide +kernel
theorem d_M_copy_28 : decode b_M_copy 28 = .ok (.iload_n 2, 1) := by decide +kernel
theorem d_M_copy_29 : decode b_M_copy 29 = .ok (.imul, 1) := by decide +kernel
theorem d_M_copy_30 : decode b_M_copy 30 = .ok (.iload_n 3, 1) := by decide +kernel
theorem d_M_copy_31 : decode b_M_copy 31 = .ok (.iadd, 1) := by decide +kernel
theorem d_M_copy_32 : decode b_M_copy 32 = .ok (.aload_n 0, 1) := by decide +kernel
theorem d_M_copy_33 : decode b_M_copy 33 = .ok (.getfield 7, 3) := by decide +kernel
theorem d_M_copy_36 : decode b_M_copy 36 = .ok (.sipush 240, 3) := by decide +kernel
theorem d_M_copy_39 : decode b_M_copy 39 = .ok (.iload_n 1, 1) := by decide +kernel
theorem d_M_copy_40 : decode b_M_copy 40 = .ok (.imul, 1) := by decide +kernel
theorem d_M_copy_41 : decode b_M_copy 41 = .ok (.iload_n 3, 1) := by decide +kernel
theorem d_M_copy_42 : decode b_M_copy 42 = .ok (.iadd, 1) := by decide +kernel
theorem d_M_copy_43 : decode b_M_copy 43 = .ok (.iaload, 1) := by decide +kernel
theorem d_M_copy_44 : decode b_M_copy 44 = .ok (.iastore, 1) := by decide +kernel
theorem d_M_copy_45 : decode b_M_copy 45 = .ok (.iinc 3 1, 3) := by decide +kernel
theorem d_M_copy_48 : decode b_M_copy 48 = .ok (.goto (-34), 3) := by decide +kernel
theorem d_M_copy_51 : decode b_M_copy 51 = .ok (.return_, 1) := by decide +kernel
theorem d_M_times_0 : decode b_M_times 0 = .ok (.lconst 0, 1) := by decide +kernel
theorem d_M_times_1 : decode b_M_times 1 = .ok (.lstore_n 3, 1) := by decide +kernel
theorem d_M_times_2 : decode b_M_times 2 = .ok (.iconst 0, 1) := by decide +kernel
theorem d_M_times_3 : decode b_M_times 3 = .ok (.istore 5, 2) := by decide +kernel
theorem d_M_times_5 : decode b_M_times 5 = .ok (.iload 5, 2) := by decide +kernel
theorem d_M_times_7 : decode b_M_times 7 = .ok (.sipush 240, 3) := by decide +kernel
theorem d_M_times_10 : decode b_M_times 10 = .ok (.if_icmp .ge 56, 3) := by decide +kernel
theorem d_M_times_13 : decode b_M_times 13 = .ok (.aload_n 0, 1) := by decide +kernel
theorem d_M_times_14 : decode b_M_times 14 = .ok (.getfield 7, 3) := by decide +kernel
theorem d_M_times_17 : decode b_M_times 17 = .ok (.sipush 240, 3) := by decide +kernel
theorem d_M_times_20 : decode b_M_times 20 = .ok (.iload_n 1, 1) := by decide +kernel
theorem d_M_times_21 : decode b_M_times 21 = .ok (.imul, 1) := by decide +kernel
theorem d_M_times_22 : decode b_M_times 22 = .ok (.iload 5, 2) := by decide +kernel
theorem d_M_times_24 : decode b_M_times 24 = .ok (.iadd, 1) := by decide +kernel
theorem d_M_times_25 : decode b_M_times 25 = .ok (.iaload, 1) := by decide +kernel
theorem d_M_times_26 : decode b_M_times 26 = .ok (.i2l, 1) := by decide +kernel
theorem d_M_times_27 : decode b_M_times 27 = .ok (.iload_n 2, 1) := by decide +kernel
theorem d_M_times_28 : decode b_M_times 28 = .ok (.i2l, 1) := by decide +kernel
theorem d_M_times_29 : decode b_M_times 29 = .ok (.lmul, 1) := by decide +kernel
theorem d_M_times_30 : decode b_M_times 30 = .ok (.lload_n 3, 1) := by decide +kernel
theorem d_M_times_31 : decode b_M_times 31 = .ok (.ladd, 1) := by decide +kernel
theorem d_M_times_32 : decode b_M_times 32 = .ok (.lstore 6, 2) := by decide +kernel
theorem d_M_times_34 : decode b_M_times 34 = .ok (.aload_n 0, 1) := by decide +kernel
theorem d_M_times_35 : decode b_M_times 35 = .ok (.getfield 7, 3) := by decide +kernel
theorem d_M_times_38 : decode b_M_times 38 = .ok (.sipush 240, 3) := by decide +kernel
theorem d_M_times_41 : decode b_M_times 41 = .ok (.iload_n 1, 1) := by decide +kernel
theorem d_M_times_42 : decode b_M_times 42 = .ok (.imul, 1) := by decide +kernel
theorem d_M_times_43 : decode b_M_times 43 = .ok (.iload 5, 2) := by decide +kernel
theorem d_M_times_45 : decode b_M_times 45 = .ok (.iadd, 1) := by decide +kernel
theorem d_M_times_46 : decode b_M_times 46 = .ok (.lload 6, 2) := by decide +kernel
theorem d_M_times_48 : decode b_M_times 48 = .ok (.ldc2_w 23, 3) := by decide +kernel
theorem d_M_times_51 : decode b_M_times 51 = .ok (.land, 1) := by decide +kernel
theorem d_M_times_52 : decode b_M_times 52 = .ok (.l2i, 1) := by decide +kernel
theorem d_M_times_53 : decode b_M_times 53 = .ok (.iastore, 1) := by decide +kernel
theorem d_M_times_54 : decode b_M_times 54 = .ok (.lload 6, 2) := by decide +kernel
theorem d_M_times_56 : decode b_M_times 56 = .ok (.bipush 28, 2) := by decide +kernel
theorem d_M_times_58 : decode b_M_times 58 = .ok (.lshr, 1) := by decide +kernel
theorem d_M_times_59 : decode b_M_times 59 = .ok (.lstore_n 3, 1) := by decide +kernel
theorem d_M_times_60 : decode b_M_times 60 = .ok (.iinc 5 1, 3) := by decide +kernel
theorem d_M_times_63 : decode b_M_times 63 = .ok (.goto (-58), 3) := by decide +kernel
theorem d_M_times_66 : decode b_M_times 66 = .ok (.return_, 1) := by decide +kernel
theorem d_M_shift_0 : decode b_M_shift 0 = .ok (.iload_n 2, 1) := by decide +kernel
theorem d_M_shift_1 : decode b_M_shift 1 = .ok (.bipush 28, 2) := by decide +kernel
theorem d_M_shift_3 : decode b_M_shift 3 = .ok (.idiv, 1) := by decide +kernel
theorem d_M_shift_4 : decode b_M_shift 4 = .ok (.istore_n 3, 1) := by decide +kernel
theorem d_M_shift_5 : decode b_M_shift 5 = .ok (.sipush 239, 3) := by decide +kernel
theorem d_M_shift_8 : decode b_M_shift 8 = .ok (.istore 4, 2) := by decide +kernel
theorem d_M_shift_10 : decode b_M_shift 10 = .ok (.iload 4, 2) := by decide +kernel
theorem d_M_shift_12 : decode b_M_shift 12 = .ok (.ifCond .lt 47, 3) := by decide +kernel
theorem d_M_shift_15 : decode b_M_shift 15 = .ok (.aload_n 0, 1) := by decide +kernel
theorem d_M_shift_16 : decode b_M_shift 16 = .ok (.getfield 7, 3) := by decide +kernel
theorem d_M_shift_19 : decode b_M_shift 19 = .ok (.sipush 240, 3) := by decide +kernel
theorem d_M_shift_22 : decode b_M_shift 22 = .ok (.iload_n 1, 1) := by decide +kernel
theorem d_M_shift_23 : decode b_M_shift 23 = .ok (.imul, 1) := by decide +kernel
theorem d_M_shift_24 : decode b_M_shift 24 = .ok (.iload 4, 2) := by decide +kernel
theorem d_M_shift_26 : decode b_M_shift 26 = .ok (.iadd, 1) := by decide +kernel
theorem d_M_shift_27 : decode b_M_shift 27 = .ok (.iload 4, 2) := by decide +kernel
theorem d_M_shift_29 : decode b_M_shift 29 = .ok (.iload_n 3, 1) := by decide +kernel
theorem d_M_shift_30 : decode b_M_shift 30 = .ok (.if_icmp .lt 21, 3) := by decide +kernel
theorem d_M_shift_33 : decode b_M_shift 33 = .ok (.aload_n 0, 1) := by decide +kernel
theorem d_M_shift_34 : decode b_M_shift 34 = .ok (.getfield 7, 3) := by decide +kernel
theorem d_M_shift_37 : decode b_M_shift 37 = .ok (.sipush 240, 3) := by decide +kernel
theorem d_M_shift_40 : decode b_M_shift 40 = .ok (.iload_n 1, 1) := by decide +kernel
theorem d_M_shift_41 : decode b_M_shift 41 = .ok (.imul, 1) := by decide +kernel
theorem d_M_shift_42 : decode b_M_shift 42 = .ok (.iload 4, 2) := by decide +kernel
theorem d_M_shift_44 : decode b_M_shift 44 = .ok (.iadd, 1) := by decide +kernel
theorem d_M_shift_45 : decode b_M_shift 45 = .ok (.iload_n 3, 1) := by decide +kernel
theorem d_M_shift_46 : decode b_M_shift 46 = .ok (.isub, 1) := by decide +kernel
theorem d_M_shift_47 : decode b_M_shift 47 = .ok (.iaload, 1) := by decide +kernel
theorem d_M_shift_48 : decode b_M_shift 48 = .ok (.goto 4, 3) := by decide +kernel
theorem d_M_shift_51 : decode b_M_shift 51 = .ok (.iconst 0, 1) := by decide +kernel
theorem d_M_shift_52 : decode b_M_shift 52 = .ok (.iastore, 1) := by decide +kernel
theorem d_M_shift_53 : decode b_M_shift 53 = .ok (.iinc 4 (-1), 3) := by decide +kernel
theorem d_M_shift_56 : decode b_M_shift 56 = .ok (.goto (-46), 3) := by decide +kernel
theorem d_M_shift_59 : decode b_M_shift 59 = .ok (.aload_n 0, 1) := by decide +kernel
theorem d_M_shift_60 : decode b_M_shift 60 = .ok (.iload_n 1, 1) := by decide +kernel
theorem d_M_shift_61 : decode b_M_shift 61 = .ok (.iconst 1, 1) := by decide +kernel
theorem d_M_shift_62 : decode b_M_shift 62 = .ok (.iload_n 2, 1) := by decide +kernel
theorem d_M_shift_63 : decode b_M_shift 63 = .ok (.bipush 28, 2) := by decide +kernel
theorem d_M_shift_65 : decode b_M_shift 65 = .ok (.irem, 1) := by decide +kernel
theorem d_M_shift_66 : decode b_M_shift 66 = .ok (.ishl, 1) := by decide +kernel
theorem d_M_shift_67 : decode b_M_shift 67 = .ok (.invokevirtual 25, 3) := by decide +kernel
theorem d_M_shift_70 : decode b_M_shift 70 = .ok (.return_, 1) := by decide +kernel
theorem d_M_together_0 : decode b_M_together 0 = .ok (.lconst 0, 1) := by decide +kernel
theorem d_M_together_1 : decode b_M_together 1 = .ok (.lstore_n 3, 1) := by decide +kernel
theorem d_M_together_2 : decode b_M_together 2 = .ok (.aload_n 0, 1) := by decide +kernel
theorem d_M_together_3 : decode b_M_together 3 = .ok (.getfield 13, 3) := by decide +kernel
theorem d_M_together_6 : decode b_M_together 6 = .ok (.iload_n 1, 1) := by decide +kernel
theorem d_M_together_7 : decode b_M_together 7 = .ok (.baload, 1) := by decide +kernel
theorem d_M_together_8 : decode b_M_together 8 = .ok (.aload_n 0, 1) := by decide +kernel
theorem d_M_together_9 : decode b_M_together 9 = .ok (.getfield 13, 3) := by decide +kernel
theorem d_M_together_12 : decode b_M_together 12 = .ok (.iload_n 2, 1) := by decide +kernel
theorem d_M_together_13 : decode b_M_together 13 = .ok (.baload, 1) := by decide +kernel
theorem d_M_together_14 : decode b_M_together 14 = .ok (.if_icmp .ne 7, 3) := by decide +kernel
theorem d_M_together_17 : decode b_M_together 17 = .ok (.iconst 1, 1) := by decide +kernel
theorem d_M_together_18 : decode b_M_together 18 = .ok (.goto 4, 3) := by decide +kernel
theorem d_M_together_21 : decode b_M_together 21 = .ok (.iconst 0, 1) := by decide +kernel
theorem d_M_together_22 : decode b_M_together 22 = .ok (.istore 5, 2) := by decide +kernel
theorem d_M_together_24 : decode b_M_together 24 = .ok (.aload_n 0, 1) := by decide +kernel
theorem d_M_together_25 : decode b_M_together 25 = .ok (.iload_n 1, 1) := by decide +kernel
theorem d_M_together_26 : decode b_M_together 26 = .ok (.iload_n 2, 1) := by decide +kernel
theorem d_M_together_27 : decode b_M_together 27 = .ok (.invokevirtual 29, 3) := by decide +kernel
theorem d_M_together_30 : decode b_M_together 30 = .ok (.istore 6, 2) := by decide +kernel
theorem d_M_together_32 : decode b_M_together 32 = .ok (.iconst 0, 1) := by decide +kernel
theorem d_M_together_33 : decode b_M_together 33 = .ok (.istore 7, 2) := by decide +kernel
theorem d_M_together_35 : decode b_M_together 35 = .ok (.iload 7, 2) := by decide +kernel
theorem d_M_together_37 : decode b_M_together 37 = .ok (.sipush 240, 3) := by decide +kernel
theorem d_M_together_40 : decode b_M_together 40 = .ok (.if_icmp .ge 102, 3) := by decide +kernel
theorem d_M_together_43 : decode b_M_together 43 = .ok (.aload_n 0, 1) := by decide +kernel
theorem d_M_together_44 : decode b_M_together 44 = .ok (.getfield 7, 3) := by decide +kernel
theorem d_M_together_47 : decode b_M_together 47 = .ok (.sipush 240, 3) := by decide +kernel
theorem d_M_together_50 : decode b_M_together 50 = .ok (.iload_n 1, 1) := by decide +kernel
theorem d_M_together_51 : decode b_M_together 51 = .ok (.imul, 1) := by decide +kernel
theorem d_M_together_52 : decode b_M_together 52 = .ok (.iload 7, 2) := by decide +kernel
theorem d_M_together_54 : decode b_M_together 54 = .ok (.iadd, 1) := by decide +kernel
theorem d_M_together_55 : decode b_M_together 55 = .ok (.iaload, 1) := by decide +kernel
theorem d_M_together_56 : decode b_M_together 56 = .ok (.i2l, 1) := by decide +kernel
theorem d_M_together_57 : decode b_M_together 57 = .ok (.lstore 8, 2) := by decide +kernel
theorem d_M_together_59 : decode b_M_together 59 = .ok (.aload_n 0, 1) := by decide +kernel
theorem d_M_together_60 : decode b_M_together 60 = .ok (.getfield 7, 3) := by decide +kernel
theorem d_M_together_63 : decode b_M_together 63 = .ok (.sipush 240, 3) := by decide +kernel
theorem d_M_together_66 : decode b_M_together 66 = .ok (.iload_n 2, 1) := by decide +kernel
theorem d_M_together_67 : decode b_M_together 67 = .ok (.imul, 1) := by decide +kernel
theorem d_M_together_68 : decode b_M_together 68 = .ok (.iload 7, 2) := by decide +kernel
theorem d_M_together_70 : decode b_M_together 70 = .ok (.iadd, 1) := by decide +kernel
theorem d_M_together_71 : decode b_M_together 71 = .ok (.iaload, 1) := by decide +kernel
theorem d_M_together_72 : decode b_M_together 72 = .ok (.i2l, 1) := by decide +kernel
theorem d_M_together_73 : decode b_M_together 73 = .ok (.lstore 10, 2) := by decide +kernel
theorem d_M_together_75 : decode b_M_together 75 = .ok (.iload 5, 2) := by decide +kernel
theorem d_M_together_77 : decode b_M_together 77 = .ok (.ifCond .eq 11, 3) := by decide +kernel
theorem d_M_together_80 : decode b_M_together 80 = .ok (.lload 8, 2) := by decide +kernel
theorem d_M_together_82 : decode b_M_together 82 = .ok (.lload 10, 2) := by decide +kernel
theorem d_M_together_84 : decode b_M_together 84 = .ok (.ladd, 1) := by decide +kernel
theorem d_M_together_85 : decode b_M_together 85 = .ok (.goto 21, 3) := by decide +kernel
theorem d_M_together_88 : decode b_M_together 88 = .ok (.iload 6, 2) := by decide +kernel
theorem d_M_together_90 : decode b_M_together 90 = .ok (.ifCond .lt 11, 3) := by decide +kernel
theorem d_M_together_93 : decode b_M_together 93 = .ok (.lload 8, 2) := by decide +kernel
theorem d_M_together_95 : decode b_M_together 95 = .ok (.lload 10, 2) := by decide +kernel
theorem d_M_together_97 : decode b_M_together 97 = .ok (.lsub, 1) := by decide +kernel
theorem d_M_together_98 : decode b_M_together 98 = .ok (.goto 8, 3) := by decide +kernel
theorem d_M_together_101 : decode b_M_together 101 = .ok (.lload 10, 2) := by decide +kernel
theorem d_M_together_103 : decode b_M_together 103 = .ok (.lload 8, 2) := by decide +kernel
theorem d_M_together_105 : decode b_M_together 105 = .ok (.lsub, 1) := by decide +kernel
theorem d_M_together_106 : decode b_M_together 106 = .ok (.lload_n 3, 1) := by decide +kernel
theorem d_M_together_107 : decode b_M_together 107 = .ok (.ladd, 1) := by decide +kernel
theorem d_M_together_108 : decode b_M_together 108 = .ok (.lstore 12, 2) := by decide +kernel
theorem d_M_together_110 : decode b_M_together 110 = .ok (.aload_n 0, 1) := by decide +kernel
theorem d_M_together_111 : decode b_M_together 111 = .ok (.getfield 7, 3) := by decide +kernel
theorem d_M_together_114 : decode b_M_together 114 = .ok (.sipush 240, 3) := by decide +kernel
theorem d_M_together_117 : decode b_M_together 117 = .ok (.iload_n 1, 1) := by decide +kernel
theorem d_M_together_118 : decode b_M_together 118 = .ok (.imul, 1) := by decide +kernel
theorem d_M_together_119 : decode b_M_together 119 = .ok (.iload 7, 2) := by decide +kernel
theorem d_M_together_121 : decode b_M_together 121 = .ok (.iadd, 1) := by decide +kernel
theorem d_M_together_122 : decode b_M_together 122 = .ok (.lload 12, 2) := by decide +kernel
theorem d_M_together_124 : decode b_M_together 124 = .ok (.ldc2_w 23, 3) := by decide +kernel
theorem d_M_together_127 : decode b_M_together 127 = .ok (.land, 1) := by decide +kernel
theorem d_M_together_128 : decode b_M_together 128 = .ok (.l2i, 1) := by decide +kernel
theorem d_M_together_129 : decode b_M_together 129 = .ok (.iastore, 1) := by decide +kernel
theorem d_M_together_130 : decode b_M_together 130 = .ok (.lload 12, 2) := by decide +kernel
theorem d_M_together_132 : decode b_M_together 132 = .ok (.bipush 28, 2) := by decide +kernel
theorem d_M_together_134 : decode b_M_together 134 = .ok (.lshr, 1) := by decide +kernel
theorem d_M_together_135 : decode b_M_together 135 = .ok (.lstore_n 3, 1) := by decide +kernel
theorem d_M_together_136 : decode b_M_together 136 = .ok (.iinc 7 1, 3) := by decide +kernel
theorem d_M_together_139 : decode b_M_together 139 = .ok (.goto (-104), 3) := by decide +kernel
theorem d_M_together_142 : decode b_M_together 142 = .ok (.aload_n 0, 1) := by decide +kernel
theorem d_M_together_143 : decode b_M_together 143 = .ok (.getfield 13, 3) := by decide +kernel
theorem d_M_together_146 : decode b_M_together 146 = .ok (.iload_n 1, 1) := by decide +kernel
theorem d_M_together_147 : decode b_M_together 147 = .ok (.iload 5, 2) := by decide +kernel
theorem d_M_together_149 : decode b_M_together 149 = .ok (.ifCond .eq 12, 3) := by decide +kernel
theorem d_M_together_152 : decode b_M_together 152 = .ok (.aload_n 0, 1) := by decide +kernel
theorem d_M_together_153 : decode b_M_together 153 = .ok (.getfield 13, 3) := by decide +kernel
theorem d_M_together_156 : decode b_M_together 156 = .ok (.iload_n 1, 1) := by decide +kernel
theorem d_M_together_157 : decode b_M_together 157 = .ok (.baload, 1) := by decide +kernel
theorem d_M_together_158 : decode b_M_together 158 = .ok (.goto 32, 3) := by decide +kernel
theorem d_M_together_161 : decode b_M_together 161 = .ok (.iload 6, 2) := by decide +kernel
theorem d_M_together_163 : decode b_M_together 163 = .ok (.ifCond .ne 7, 3) := by decide +kernel
theorem d_M_together_166 : decode b_M_together 166 = .ok (.iconst 0, 1) := by decide +kernel
theorem d_M_together_167 : decode b_M_together 167 = .ok (.goto 23, 3) := by decide +kernel
theorem d_M_together_170 : decode b_M_together 170 = .ok (.iload 6, 2) := by decide +kernel
theorem d_M_together_172 : decode b_M_together 172 = .ok (.ifCond .le 12, 3) := by decide +kernel
theorem d_M_together_175 : decode b_M_together 175 = .ok (.aload_n 0, 1) := by decide +kernel
theorem d_M_together_176 : decode b_M_together 176 = .ok (.getfield 13, 3) := by decide +kernel
theorem d_M_together_179 : decode b_M_together 179 = .ok (.iload_n 1, 1) := by decide +kernel
theorem d_M_together_180 : decode b_M_together 180 = .ok (.baload, 1) := by decide +kernel
theorem d_M_together_181 : decode b_M_together 181 = .ok (.goto 9, 3) := by decide +kernel
theorem d_M_together_184 : decode b_M_together 184 = .ok (.aload_n 0, 1) := by decide +kernel
theorem d_M_together_185 : decode b_M_together 185 = .ok (.getfield 13, 3) := by decide +kernel
theorem d_M_together_188 : decode b_M_together 188 = .ok (.iload_n 2, 1) := by decide +kernel
theorem d_M_together_189 : decode b_M_together 189 = .ok (.baload, 1) := by decide +kernel
theorem d_M_together_190 : decode b_M_together 190 = .ok (.bastore, 1) := by decide +kernel
theorem d_M_together_191 : decode b_M_together 191 = .ok (.return_, 1) := by decide +kernel
theorem d_M_sizes_0 : decode b_M_sizes 0 = .ok (.sipush 239, 3) := by decide +kernel
theorem d_M_sizes_3 : decode b_M_sizes 3 = .ok (.istore_n 3, 1) := by decide +kernel
theorem d_M_sizes_4 : decode b_M_sizes 4 = .ok (.iload_n 3, 1) := by decide +kernel
theorem d_M_sizes_5 : decode b_M_sizes 5 = .ok (.ifCond .lt 52, 3) := by decide +kernel
theorem d_M_sizes_8 : decode b_M_sizes 8 = .ok (.aload_n 0, 1) := by decide +kernel
theorem d_M_sizes_9 : decode b_M_sizes 9 = .ok (.getfield 7, 3) := by decide +kernel
theorem d_M_sizes_12 : decode b_M_sizes 12 = .ok (.sipush 240, 3) := by decide +kernel
theorem d_M_sizes_15 : decode b_M_sizes 15 = .ok (.iload_n 1, 1) := by decide +kernel
theorem d_M_sizes_16 : decode b_M_sizes 16 = .ok (.imul, 1) := by decide +kernel
theorem d_M_sizes_17 : decode b_M_sizes 17 = .ok (.iload_n 3, 1) := by decide +kernel
theorem d_M_sizes_18 : decode b_M_sizes 18 = .ok (.iadd, 1) := by decide +kernel
theorem d_M_sizes_19 : decode b_M_sizes 19 = .ok (.iaload, 1) := by decide +kernel
theorem d_M_sizes_20 : decode b_M_sizes 20 = .ok (.aload_n 0, 1) := by decide +kernel
theorem d_M_sizes_21 : decode b_M_sizes 21 = .ok (.getfield 7, 3) := by decide +kernel
theorem d_M_sizes_24 : decode b_M_sizes 24 = .ok (.sipush 240, 3) := by decide +kernel
theorem d_M_sizes_27 : decode b_M_sizes 27 = .ok (.iload_n 2, 1) := by decide +kernel
theorem d_M_sizes_28 : decode b_M_sizes 28 = .ok (.imul, 1) := by decide +kernel
theorem d_M_sizes_29 : decode b_M_sizes 29 = .ok (.iload_n 3, 1) := by decide +kernel
theorem d_M_sizes_30 : decode b_M_sizes 30 = .ok (.iadd, 1) := by decide +kernel
theorem d_M_sizes_31 : decode b_M_sizes 31 = .ok (.iaload, 1) := by decide +kernel
theorem d_M_sizes_32 : decode b_M_sizes 32 = .ok (.isub, 1) := by decide +kernel
theorem d_M_sizes_33 : decode b_M_sizes 33 = .ok (.istore 4, 2) := by decide +kernel
theorem d_M_sizes_35 : decode b_M_sizes 35 = .ok (.iload 4, 2) := by decide +kernel
theorem d_M_sizes_37 : decode b_M_sizes 37 = .ok (.ifCond .eq 14, 3) := by decide +kernel
theorem d_M_sizes_40 : decode b_M_sizes 40 = .ok (.iload 4, 2) := by decide +kernel
theorem d_M_sizes_42 : decode b_M_sizes 42 = .ok (.ifCond .ge 7, 3) := by decide +kernel
theorem d_M_sizes_45 : decode b_M_sizes 45 = .ok (.iconst (-1), 1) := by decide +kernel
theorem d_M_sizes_46 : decode b_M_sizes 46 = .ok (.goto 4, 3) := by decide +kernel
theorem d_M_sizes_49 : decode b_M_sizes 49 = .ok (.iconst 1, 1) := by decide +kernel
theorem d_M_sizes_50 : decode b_M_sizes 50 = .ok (.ireturn, 1) := by decide +kernel
theorem d_M_sizes_51 : decode b_M_sizes 51 = .ok (.iinc 3 (-1), 3) := by decide +kernel
theorem d_M_sizes_54 : decode b_M_sizes 54 = .ok (.goto (-50), 3) := by decide +kernel
theorem d_M_sizes_57 : decode b_M_sizes 57 = .ok (.iconst 0, 1) := by decide +kernel
theorem d_M_sizes_58 : decode b_M_sizes 58 = .ok (.ireturn, 1) := by decide +kernel
theorem d_M_power_0 : decode b_M_power 0 = .ok (.lload_n 0, 1) := by decide +kernel
theorem d_M_power_1 : decode b_M_power 1 = .ok (.invokestatic 37, 3) := by decide +kernel
theorem d_M_power_4 : decode b_M_power 4 = .ok (.ifCond .ne 9, 3) := by decide +kernel
theorem d_M_power_7 : decode b_M_power 7 = .ok (.sipush (-1074), 3) := by decide +kernel
theorem d_M_power_10 : decode b_M_power 10 = .ok (.goto 11, 3) := by decide +kernel
theorem d_M_power_13 : decode b_M_power 13 = .ok (.lload_n 0, 1) := by decide +kernel
theorem d_M_power_14 : decode b_M_power 14 = .ok (.invokestatic 37, 3) := by decide +kernel
theorem d_M_power_17 : decode b_M_power 17 = .ok (.sipush 1075, 3) := by decide +kernel
theorem d_M_power_20 : decode b_M_power 20 = .ok (.isub, 1) := by decide +kernel
theorem d_M_power_21 : decode b_M_power 21 = .ok (.ireturn, 1) := by decide +kernel
theorem d_M_isZero_0 : decode b_M_isZero 0 = .ok (.iconst 1, 1) := by decide +kernel
theorem d_M_isZero_1 : decode b_M_isZero 1 = .ok (.istore_n 2, 1) := by decide +kernel
theorem d_M_isZero_2 : decode b_M_isZero 2 = .ok (.iconst 0, 1) := by decide +kernel
theorem d_M_isZero_3 : decode b_M_isZero 3 = .ok (.istore_n 3, 1) := by decide +kernel
theorem d_M_isZero_4 : decode b_M_isZero 4 = .ok (.iload_n 3, 1) := by decide +kernel
theorem d_M_isZero_5 : decode b_M_isZero 5 = .ok (.sipush 240, 3) := by decide +kernel
theorem d_M_isZero_8 : decode b_M_isZero 8 = .ok (.if_icmp .ge 34, 3) := by decide +kernel
theorem d_M_isZero_11 : decode b_M_isZero 11 = .ok (.iload_n 2, 1) := by decide +kernel
theorem d_M_isZero_12 : decode b_M_isZero 12 = .ok (.ifCond .eq 22, 3) := by decide +kernel
theorem d_M_isZero_15 : decode b_M_isZero 15 = .ok (.aload_n 0, 1) := by decide +kernel
theorem d_M_isZero_16 : decode b_M_isZero 16 = .ok (.getfield 7, 3) := by decide +kernel
theorem d_M_isZero_19 : decode b_M_isZero 19 = .ok (.sipush 240, 3) := by decide +kernel
theorem d_M_isZero_22 : decode b_M_isZero 22 = .ok (.iload_n 1, 1) := by decide +kernel
theorem d_M_isZero_23 : decode b_M_isZero 23 = .ok (.imul, 1) := by decide +kernel
theorem d_M_isZero_24 : decode b_M_isZero 24 = .ok (.iload_n 3, 1) := by decide +kernel
theorem d_M_isZero_25 : decode b_M_isZero 25 = .ok (.iadd, 1) := by decide +kernel
theorem d_M_isZero_26 : decode b_M_isZero 26 = .ok (.iaload, 1) := by decide +kernel
theorem d_M_isZero_27 : decode b_M_isZero 27 = .ok (.ifCond .ne 7, 3) := by decide +kernel
theorem d_M_isZero_30 : decode b_M_isZero 30 = .ok (.iconst 1, 1) := by decide +kernel
theorem d_M_isZero_31 : decode b_M_isZero 31 = .ok (.goto 4, 3) := by decide +kernel
theorem d_M_isZero_34 : decode b_M_isZero 34 = .ok (.iconst 0, 1) := by decide +kernel
theorem d_M_isZero_35 : decode b_M_isZero 35 = .ok (.istore_n 2, 1) := by decide +kernel
theorem d_M_isZero_36 : decode b_M_isZero 36 = .ok (.iinc 3 1, 3) := by decide +kernel
theorem d_M_isZero_39 : decode b_M_isZero 39 = .ok (.goto (-35), 3) := by decide +kernel
theorem d_M_isZero_42 : decode b_M_isZero 42 = .ok (.iload_n 2, 1) := by decide +kernel
theorem d_M_isZero_43 : decode b_M_isZero 43 = .ok (.ireturn, 1) := by decide +kernel
theorem d_M_plus_0 : decode b_M_plus 0 = .ok (.aload_n 0, 1) := by decide +kernel
theorem d_M_plus_1 : decode b_M_plus 1 = .ok (.iload_n 1, 1) := by decide +kernel
theorem d_M_plus_2 : decode b_M_plus 2 = .ok (.invokestatic 52, 3) := by decide +kernel
theorem d_M_plus_5 : decode b_M_plus 5 = .ok (.ifCond .eq 14, 3) := by decide +kernel
theorem d_M_plus_8 : decode b_M_plus 8 = .ok (.iload_n 2, 1) := by decide +kernel
theorem d_M_plus_9 : decode b_M_plus 9 = .ok (.invokestatic 52, 3) := by decide +kernel
theorem d_M_plus_12 : decode b_M_plus 12 = .ok (.ifCond .eq 7, 3) := by decide +kernel
theorem d_M_plus_15 : decode b_M_plus 15 = .ok (.iconst 1, 1) := by decide +kernel
theorem d_M_plus_16 : decode b_M_plus 16 = .ok (.goto 4, 3) := by decide +kernel
theorem d_M_plus_19 : decode b_M_plus 19 = .ok (.iconst 0, 1) := by decide +kernel
theorem d_M_plus_20 : decode b_M_plus 20 = .ok (.iload_n 3, 1) := by decide +kernel
theorem d_M_plus_21 : decode b_M_plus 21 = .ok (.invokestatic 64, 3) := by decide +kernel
theorem d_M_plus_24 : decode b_M_plus 24 = .ok (.invokevirtual 56, 3) := by decide +kernel
theorem d_M_plus_27 : decode b_M_plus 27 = .ok (.ifCond .ne 4, 3) := by decide +kernel
theorem d_M_plus_30 : decode b_M_plus 30 = .ok (.return_, 1) := by decide +kernel
theorem d_M_plus_31 : decode b_M_plus 31 = .ok (.aload_n 0, 1) := by decide +kernel
theorem d_M_plus_32 : decode b_M_plus 32 = .ok (.iload_n 2, 1) := by decide +kernel
theorem d_M_plus_33 : decode b_M_plus 33 = .ok (.bipush 8, 2) := by decide +kernel
theorem d_M_plus_35 : decode b_M_plus 35 = .ok (.invokevirtual 43, 3) := by decide +kernel
theorem d_M_plus_38 : decode b_M_plus 38 = .ok (.aload_n 0, 1) := by decide +kernel
theorem d_M_plus_39 : decode b_M_plus 39 = .ok (.bipush 8, 2) := by decide +kernel
theorem d_M_plus_41 : decode b_M_plus 41 = .ok (.iload_n 3, 1) := by decide +kernel
theorem d_M_plus_42 : decode b_M_plus 42 = .ok (.ifCond .ge 8, 3) := by decide +kernel
theorem d_M_plus_45 : decode b_M_plus 45 = .ok (.iload_n 3, 1) := by decide +kernel
theorem d_M_plus_46 : decode b_M_plus 46 = .ok (.ineg, 1) := by decide +kernel
theorem d_M_plus_47 : decode b_M_plus 47 = .ok (.goto 4, 3) := by decide +kernel
theorem d_M_plus_50 : decode b_M_plus 50 = .ok (.iload_n 3, 1) := by decide +kernel
theorem d_M_plus_51 : decode b_M_plus 51 = .ok (.invokevirtual 25, 3) := by decide +kernel
theorem d_M_plus_54 : decode b_M_plus 54 = .ok (.aload_n 0, 1) := by decide +kernel
theorem d_M_plus_55 : decode b_M_plus 55 = .ok (.getfield 13, 3) := by decide +kernel
theorem d_M_plus_58 : decode b_M_plus 58 = .ok (.bipush 8, 2) := by decide +kernel
theorem d_M_plus_60 : decode b_M_plus 60 = .ok (.aload_n 0, 1) := by decide +kernel
theorem d_M_plus_61 : decode b_M_plus 61 = .ok (.getfield 13, 3) := by decide +kernel
theorem d_M_plus_64 : decode b_M_plus 64 = .ok (.bipush 8, 2) := by decide +kernel
theorem d_M_plus_66 : decode b_M_plus 66 = .ok (.baload, 1) := by decide +kernel
theorem d_M_plus_67 : decode b_M_plus 67 = .ok (.iload_n 3, 1) := by decide +kernel
theorem d_M_plus_68 : decode b_M_plus 68 = .ok (.ifCond .ge 7, 3) := by decide +kernel
theorem d_M_plus_71 : decode b_M_plus 71 = .ok (.iconst 1, 1) := by decide +kernel
theorem d_M_plus_72 : decode b_M_plus 72 = .ok (.goto 4, 3) := by decide +kernel
theorem d_M_plus_75 : decode b_M_plus 75 = .ok (.iconst 0, 1) := by decide +kernel
theorem d_M_plus_76 : decode b_M_plus 76 = .ok (.if_icmp .eq 16, 3) := by decide +kernel
theorem d_M_plus_79 : decode b_M_plus 79 = .ok (.aload_n 0, 1) := by decide +kernel
theorem d_M_plus_80 : decode b_M_plus 80 = .ok (.bipush 8, 2) := by decide +kernel
theorem d_M_plus_82 : decode b_M_plus 82 = .ok (.invokevirtual 78, 3) := by decide +kernel
theorem d_M_plus_85 : decode b_M_plus 85 = .ok (.ifCond .ne 7, 3) := by decide +kernel
theorem d_M_plus_88 : decode b_M_plus 88 = .ok (.iconst 1, 1) := by decide +kernel
theorem d_M_plus_89 : decode b_M_plus 89 = .ok (.goto 4, 3) := by decide +kernel
theorem d_M_plus_92 : decode b_M_plus 92 = .ok (.iconst 0, 1) := by decide +kernel
theorem d_M_plus_93 : decode b_M_plus 93 = .ok (.bastore, 1) := by decide +kernel
theorem d_M_plus_94 : decode b_M_plus 94 = .ok (.aload_n 0, 1) := by decide +kernel
theorem d_M_plus_95 : decode b_M_plus 95 = .ok (.iload_n 1, 1) := by decide +kernel
theorem d_M_plus_96 : decode b_M_plus 96 = .ok (.bipush 9, 2) := by decide +kernel
theorem d_M_plus_98 : decode b_M_plus 98 = .ok (.invokevirtual 43, 3) := by decide +kernel
theorem d_M_plus_101 : decode b_M_plus 101 = .ok (.aload_n 0, 1) := by decide +kernel
theorem d_M_plus_102 : decode b_M_plus 102 = .ok (.bipush 9, 2) := by decide +kernel
theorem d_M_plus_104 : decode b_M_plus 104 = .ok (.bipush 8, 2) := by decide +kernel
theorem d_M_plus_106 : decode b_M_plus 106 = .ok (.invokevirtual 49, 3) := by decide +kernel
theorem d_M_plus_109 : decode b_M_plus 109 = .ok (.aload_n 0, 1) := by decide +kernel
theorem d_M_plus_110 : decode b_M_plus 110 = .ok (.bipush 9, 2) := by decide +kernel
theorem d_M_plus_112 : decode b_M_plus 112 = .ok (.invokevirtual 81, 3) := by decide +kernel
theorem d_M_plus_115 : decode b_M_plus 115 = .ok (.sipush 3150, 3) := by decide +kernel
theorem d_M_plus_118 : decode b_M_plus 118 = .ok (.if_icmp .lt 9, 3) := by decide +kernel
theorem d_M_plus_121 : decode b_M_plus 121 = .ok (.aload_n 0, 1) := by decide +kernel
theorem d_M_plus_122 : decode b_M_plus 122 = .ok (.iconst 3, 1) := by decide +kernel
theorem d_M_plus_123 : decode b_M_plus 123 = .ok (.putfield 17, 3) := by decide +kernel
theorem d_M_plus_126 : decode b_M_plus 126 = .ok (.return_, 1) := by decide +kernel
theorem d_M_plus_127 : decode b_M_plus 127 = .ok (.aload_n 0, 1) := by decide +kernel
theorem d_M_plus_128 : decode b_M_plus 128 = .ok (.bipush 9, 2) := by decide +kernel
theorem d_M_plus_130 : decode b_M_plus 130 = .ok (.iload_n 1, 1) := by decide +kernel
theorem d_M_plus_131 : decode b_M_plus 131 = .ok (.invokevirtual 43, 3) := by decide +kernel
theorem d_M_plus_134 : decode b_M_plus 134 = .ok (.return_, 1) := by decide +kernel
theorem d_M_highest_0 : decode b_M_highest 0 = .ok (.sipush 239, 3) := by decide +kernel
theorem d_M_highest_3 : decode b_M_highest 3 = .ok (.istore_n 2, 1) := by decide +kernel
theorem d_M_highest_4 : decode b_M_highest 4 = .ok (.iload_n 2, 1) := by decide +kernel
theorem d_M_highest_5 : decode b_M_highest 5 = .ok (.ifCond .lt 55, 3) := by decide +kernel
theorem d_M_highest_8 : decode b_M_highest 8 = .ok (.aload_n 0, 1) := by decide +kernel
theorem d_M_highest_9 : decode b_M_highest 9 = .ok (.getfield 7, 3) := by decide +kernel
theorem d_M_highest_12 : decode b_M_highest 12 = .ok (.sipush 240, 3) := by decide +kernel
theorem d_M_highest_15 : decode b_M_highest 15 = .ok (.iload_n 1, 1) := by decide +kernel
theorem d_M_highest_16 : decode b_M_highest 16 = .ok (.imul, 1) := by decide +kernel
theorem d_M_highest_17 : decode b_M_highest 17 = .ok (.iload_n 2, 1) := by decide +kernel
theorem d_M_highest_18 : decode b_M_highest 18 = .ok (.iadd, 1) := by decide +kernel
theorem d_M_highest_19 : decode b_M_highest 19 = .ok (.iaload, 1) := by decide +kernel
theorem d_M_highest_20 : decode b_M_highest 20 = .ok (.istore_n 3, 1) := by decide +kernel
theorem d_M_highest_21 : decode b_M_highest 21 = .ok (.iload_n 3, 1) := by decide +kernel
theorem d_M_highest_22 : decode b_M_highest 22 = .ok (.ifCond .le 32, 3) := by decide +kernel
theorem d_M_highest_25 : decode b_M_highest 25 = .ok (.iconst 0, 1) := by decide +kernel
theorem d_M_highest_26 : decode b_M_highest 26 = .ok (.istore 4, 2) := by decide +kernel
theorem d_M_highest_28 : decode b_M_highest 28 = .ok (.iload_n 3, 1) := by decide +kernel
theorem d_M_highest_29 : decode b_M_highest 29 = .ok (.iload 4, 2) := by decide +kernel
theorem d_M_highest_31 : decode b_M_highest 31 = .ok (.ishr, 1) := by decide +kernel
theorem d_M_highest_32 : decode b_M_highest 32 = .ok (.iconst 1, 1) := by decide +kernel
theorem d_M_highest_33 : decode b_M_highest 33 = .ok (.if_icmp .le 9, 3) := by decide +kernel
theorem d_M_highest_36 : decode b_M_highest 36 = .ok (.iinc 4 1, 3) := by decide +kernel
theorem d_M_highest_39 : decode b_M_highest 39 = .ok (.goto (-11), 3) := by decide +kernel
theorem d_M_highest_42 : decode b_M_highest 42 = .ok (.bipush 28, 2) := by decide +kernel
theorem d_M_highest_44 : decode b_M_highest 44 = .ok (.iload_n 2, 1) := by decide +kernel
theorem d_M_highest_45 : decode b_M_highest 45 = .ok (.imul, 1) := by decide +kernel
theorem d_M_highest_46 : decode b_M_highest 46 = .ok (.iload 4, 2) := by decide +kernel
theorem d_M_highest_48 : decode b_M_highest 48 = .ok (.iadd, 1) := by decide +kernel
theorem d_M_highest_49 : decode b_M_highest 49 = .ok (.sipush (-3222), 3) := by decide +kernel
theorem d_M_highest_52 : decode b_M_highest 52 = .ok (.iadd, 1) := by decide +kernel
theorem d_M_highest_53 : decode b_M_highest 53 = .ok (.ireturn, 1) := by decide +kernel
theorem d_M_highest_54 : decode b_M_highest 54 = .ok (.iinc 2 (-1), 3) := by decide +kernel
theorem d_M_highest_57 : decode b_M_highest 57 = .ok (.goto (-53), 3) := by decide +kernel
theorem d_M_highest_60 : decode b_M_highest 60 = .ok (.ldc 89, 2) := by decide +kernel
theorem d_M_highest_62 : decode b_M_highest 62 = .ok (.ireturn, 1) := by decide +kernel
theorem d_M_sign_0 : decode b_M_sign 0 = .ok (.aload_n 0, 1) := by decide +kernel
theorem d_M_sign_1 : decode b_M_sign 1 = .ok (.iload_n 1, 1) := by decide +kernel
theorem d_M_sign_2 : decode b_M_sign 2 = .ok (.invokestatic 52, 3) := by decide +kernel
theorem d_M_sign_5 : decode b_M_sign 5 = .ok (.iconst 1, 1) := by decide +kernel
theorem d_M_sign_6 : decode b_M_sign 6 = .ok (.invokevirtual 56, 3) := by decide +kernel
theorem d_M_sign_9 : decode b_M_sign 9 = .ok (.ifCond .eq 11, 3) := by decide +kernel
theorem d_M_sign_12 : decode b_M_sign 12 = .ok (.aload_n 0, 1) := by decide +kernel
theorem d_M_sign_13 : decode b_M_sign 13 = .ok (.iload_n 1, 1) := by decide +kernel
theorem d_M_sign_14 : decode b_M_sign 14 = .ok (.invokevirtual 78, 3) := by decide +kernel
theorem d_M_sign_17 : decode b_M_sign 17 = .ok (.ifCond .eq 7, 3) := by decide +kernel
theorem d_M_sign_20 : decode b_M_sign 20 = .ok (.iconst 0, 1) := by decide +kernel
theorem d_M_sign_21 : decode b_M_sign 21 = .ok (.goto 17, 3) := by decide +kernel
theorem d_M_sign_24 : decode b_M_sign 24 = .ok (.aload_n 0, 1) := by decide +kernel
theorem d_M_sign_25 : decode b_M_sign 25 = .ok (.getfield 13, 3) := by decide +kernel
theorem d_M_sign_28 : decode b_M_sign 28 = .ok (.iload_n 1, 1) := by decide +kernel
theorem d_M_sign_29 : decode b_M_sign 29 = .ok (.baload, 1) := by decide +kernel
theorem d_M_sign_30 : decode b_M_sign 30 = .ok (.ifCond .eq 7, 3) := by decide +kernel
theorem d_M_sign_33 : decode b_M_sign 33 = .ok (.iconst (-1), 1) := by decide +kernel
theorem d_M_sign_34 : decode b_M_sign 34 = .ok (.goto 4, 3) := by decide +kernel
theorem d_M_sign_37 : decode b_M_sign 37 = .ok (.iconst 1, 1) := by decide +kernel
theorem d_M_sign_38 : decode b_M_sign 38 = .ok (.ireturn, 1) := by decide +kernel
theorem d_M_compare_0 : decode b_M_compare 0 = .ok (.aload_n 0, 1) := by decide +kernel
theorem d_M_compare_1 : decode b_M_compare 1 = .ok (.iload_n 1, 1) := by decide +kernel
theorem d_M_compare_2 : decode b_M_compare 2 = .ok (.invokestatic 52, 3) := by decide +kernel
theorem d_M_compare_5 : decode b_M_compare 5 = .ok (.ifCond .eq 14, 3) := by decide +kernel
theorem d_M_compare_8 : decode b_M_compare 8 = .ok (.iload_n 2, 1) := by decide +kernel
theorem d_M_compare_9 : decode b_M_compare 9 = .ok (.invokestatic 52, 3) := by decide +kernel
theorem d_M_compare_12 : decode b_M_compare 12 = .ok (.ifCond .eq 7, 3) := by decide +kernel
theorem d_M_compare_15 : decode b_M_compare 15 = .ok (.iconst 1, 1) := by decide +kernel
theorem d_M_compare_16 : decode b_M_compare 16 = .ok (.goto 4, 3) := by decide +kernel
theorem d_M_compare_19 : decode b_M_compare 19 = .ok (.iconst 0, 1) := by decide +kernel
theorem d_M_compare_20 : decode b_M_compare 20 = .ok (.iconst 1, 1) := by decide +kernel
theorem d_M_compare_21 : decode b_M_compare 21 = .ok (.invokevirtual 56, 3) := by decide +kernel
theorem d_M_compare_24 : decode b_M_compare 24 = .ok (.ifCond .ne 5, 3) := by decide +kernel
theorem d_M_compare_27 : decode b_M_compare 27 = .ok (.iconst 0, 1) := by decide +kernel
theorem d_M_compare_28 : decode b_M_compare 28 = .ok (.ireturn, 1) := by decide +kernel
theorem d_M_compare_29 : decode b_M_compare 29 = .ok (.aload_n 0, 1) := by decide +kernel
theorem d_M_compare_30 : decode b_M_compare 30 = .ok (.getfield 13, 3) := by decide +kernel
theorem d_M_compare_33 : decode b_M_compare 33 = .ok (.iload_n 1, 1) := by decide +kernel
theorem d_M_compare_34 : decode b_M_compare 34 = .ok (.baload, 1) := by decide +kernel
theorem d_M_compare_35 : decode b_M_compare 35 = .ok (.aload_n 0, 1) := by decide +kernel
theorem d_M_compare_36 : decode b_M_compare 36 = .ok (.getfield 13, 3) := by decide +kernel
theorem d_M_compare_39 : decode b_M_compare 39 = .ok (.iload_n 2, 1) := by decide +kernel
theorem d_M_compare_40 : decode b_M_compare 40 = .ok (.baload, 1) := by decide +kernel
theorem d_M_compare_41 : decode b_M_compare 41 = .ok (.if_icmp .eq 18, 3) := by decide +kernel
theorem d_M_compare_44 : decode b_M_compare 44 = .ok (.aload_n 0, 1) := by decide +kernel
theorem d_M_compare_45 : decode b_M_compare 45 = .ok (.getfield 13, 3) := by decide +kernel
theorem d_M_compare_48 : decode b_M_compare 48 = .ok (.iload_n 1, 1) := by decide +kernel
theorem d_M_compare_49 : decode b_M_compare 49 = .ok (.baload, 1) := by decide +kernel
theorem d_M_compare_50 : decode b_M_compare 50 = .ok (.ifCond .eq 7, 3) := by decide +kernel
theorem d_M_compare_53 : decode b_M_compare 53 = .ok (.iconst (-1), 1) := by decide +kernel
theorem d_M_compare_54 : decode b_M_compare 54 = .ok (.goto 4, 3) := by decide +kernel
theorem d_M_compare_57 : decode b_M_compare 57 = .ok (.iconst 1, 1) := by decide +kernel
theorem d_M_compare_58 : decode b_M_compare 58 = .ok (.ireturn, 1) := by decide +kernel
theorem d_M_compare_59 : decode b_M_compare 59 = .ok (.aload_n 0, 1) := by decide +kernel
theorem d_M_compare_60 : decode b_M_compare 60 = .ok (.getfield 13, 3) := by decide +kernel
theorem d_M_compare_63 : decode b_M_compare 63 = .ok (.iload_n 1, 1) := by decide +kernel
theorem d_M_compare_64 : decode b_M_compare 64 = .ok (.baload, 1) := by decide +kernel
theorem d_M_compare_65 : decode b_M_compare 65 = .ok (.ifCond .eq 13, 3) := by decide +kernel
theorem d_M_compare_68 : decode b_M_compare 68 = .ok (.aload_n 0, 1) := by decide +kernel
theorem d_M_compare_69 : decode b_M_compare 69 = .ok (.iload_n 1, 1) := by decide +kernel
theorem d_M_compare_70 : decode b_M_compare 70 = .ok (.iload_n 2, 1) := by decide +kernel
theorem d_M_compare_71 : decode b_M_compare 71 = .ok (.invokevirtual 29, 3) := by decide +kernel
theorem d_M_compare_74 : decode b_M_compare 74 = .ok (.ineg, 1) := by decide +kernel
theorem d_M_compare_75 : decode b_M_compare 75 = .ok (.goto 9, 3) := by decide +kernel
theorem d_M_compare_78 : decode b_M_compare 78 = .ok (.aload_n 0, 1) := by decide +kernel
theorem d_M_compare_79 : decode b_M_compare 79 = .ok (.iload_n 1, 1) := by decide +kernel
theorem d_M_compare_80 : decode b_M_compare 80 = .ok (.iload_n 2, 1) := by decide +kernel
theorem d_M_compare_81 : decode b_M_compare 81 = .ok (.invokevirtual 29, 3) := by decide +kernel
theorem d_M_compare_84 : decode b_M_compare 84 = .ok (.ireturn, 1) := by decide +kernel
theorem d_M_compareSizes_0 : decode b_M_compareSizes 0 = .ok (.aload_n 0, 1) := by decide +kernel
theorem d_M_compareSizes_1 : decode b_M_compareSizes 1 = .ok (.iload_n 1, 1) := by decide +kernel
theorem d_M_compareSizes_2 : decode b_M_compareSizes 2 = .ok (.invokestatic 52, 3) := by decide +kernel
theorem d_M_compareSizes_5 : decode b_M_compareSizes 5 = .ok (.ifCond .eq 14, 3) := by decide +kernel
theorem d_M_compareSizes_8 : decode b_M_compareSizes 8 = .ok (.iload_n 2, 1) := by decide +kernel
theorem d_M_compareSizes_9 : decode b_M_compareSizes 9 = .ok (.invokestatic 52, 3) := by decide +kernel
theorem d_M_compareSizes_12 : decode b_M_compareSizes 12 = .ok (.ifCond .eq 7, 3) := by decide +kernel
theorem d_M_compareSizes_15 : decode b_M_compareSizes 15 = .ok (.iconst 1, 1) := by decide +kernel
theorem d_M_compareSizes_16 : decode b_M_compareSizes 16 = .ok (.goto 4, 3) := by decide +kernel
theorem d_M_compareSizes_19 : decode b_M_compareSizes 19 = .ok (.iconst 0, 1) := by decide +kernel
theorem d_M_compareSizes_20 : decode b_M_compareSizes 20 = .ok (.iconst 1, 1) := by decide +kernel
theorem d_M_compareSizes_21 : decode b_M_compareSizes 21 = .ok (.invokevirtual 56, 3) := by decide +kernel
theorem d_M_compareSizes_24 : decode b_M_compareSizes 24 = .ok (.ifCond .eq 12, 3) := by decide +kernel
theorem d_M_compareSizes_27 : decode b_M_compareSizes 27 = .ok (.aload_n 0, 1) := by decide +kernel
theorem d_M_compareSizes_28 : decode b_M_compareSizes 28 = .ok (.iload_n 1, 1) := by decide +kernel
theorem d_M_compareSizes_29 : decode b_M_compareSizes 29 = .ok (.iload_n 2, 1) := by decide +kernel
theorem d_M_compareSizes_30 : decode b_M_compareSizes 30 = .ok (.invokevirtual 29, 3) := by decide +kernel
theorem d_M_compareSizes_33 : decode b_M_compareSizes 33 = .ok (.goto 4, 3) := by decide +kernel
theorem d_M_compareSizes_36 : decode b_M_compareSizes 36 = .ok (.iconst 0, 1) := by decide +kernel
theorem d_M_compareSizes_37 : decode b_M_compareSizes 37 = .ok (.ireturn, 1) := by decide +kernel
theorem d_M_nearest_0 : decode b_M_nearest 0 = .ok (.aload_n 0, 1) := by decide +kernel
theorem d_M_nearest_1 : decode b_M_nearest 1 = .ok (.iload_n 1, 1) := by decide +kernel
theorem d_M_nearest_2 : decode b_M_nearest 2 = .ok (.invokestatic 52, 3) := by decide +kernel
theorem d_M_nearest_5 : decode b_M_nearest 5 = .ok (.iconst 1, 1) := by decide +kernel
theorem d_M_nearest_6 : decode b_M_nearest 6 = .ok (.invokevirtual 56, 3) := by decide +kernel
theorem d_M_nearest_9 : decode b_M_nearest 9 = .ok (.ifCond .eq 11, 3) := by decide +kernel
theorem d_M_nearest_12 : decode b_M_nearest 12 = .ok (.aload_n 0, 1) := by decide +kernel
theorem d_M_nearest_13 : decode b_M_nearest 13 = .ok (.iload_n 1, 1) := by decide +kernel
theorem d_M_nearest_14 : decode b_M_nearest 14 = .ok (.invokevirtual 78, 3) := by decide +kernel
theorem d_M_nearest_17 : decode b_M_nearest 17 = .ok (.ifCond .eq 5, 3) := by decide +kernel
theorem d_M_nearest_20 : decode b_M_nearest 20 = .ok (.lconst 0, 1) := by decide +kernel
theorem d_M_nearest_21 : decode b_M_nearest 21 = .ok (.lreturn, 1) := by decide +kernel
theorem d_M_nearest_22 : decode b_M_nearest 22 = .ok (.aload_n 0, 1) := by decide +kernel
theorem d_M_nearest_23 : decode b_M_nearest 23 = .ok (.getfield 13, 3) := by decide +kernel
theorem d_M_nearest_26 : decode b_M_nearest 26 = .ok (.iload_n 1, 1) := by decide +kernel
theorem d_M_nearest_27 : decode b_M_nearest 27 = .ok (.baload, 1) := by decide +kernel
theorem d_M_nearest_28 : decode b_M_nearest 28 = .ok (.ifCond .eq 9, 3) := by decide +kernel
theorem d_M_nearest_31 : decode b_M_nearest 31 = .ok (.ldc2_w 92, 3) := by decide +kernel
theorem d_M_nearest_34 : decode b_M_nearest 34 = .ok (.goto 4, 3) := by decide +kernel
theorem d_M_nearest_37 : decode b_M_nearest 37 = .ok (.lconst 0, 1) := by decide +kernel
theorem d_M_nearest_38 : decode b_M_nearest 38 = .ok (.lstore_n 2, 1) := by decide +kernel
theorem d_M_nearest_39 : decode b_M_nearest 39 = .ok (.aload_n 0, 1) := by decide +kernel
theorem d_M_nearest_40 : decode b_M_nearest 40 = .ok (.iload_n 1, 1) := by decide +kernel
theorem d_M_nearest_41 : decode b_M_nearest 41 = .ok (.invokevirtual 81, 3) := by decide +kernel
theorem d_M_nearest_44 : decode b_M_nearest 44 = .ok (.istore 4, 2) := by decide +kernel
theorem d_M_nearest_46 : decode b_M_nearest 46 = .ok (.iload 4, 2) := by decide +kernel
theorem d_M_nearest_48 : decode b_M_nearest 48 = .ok (.sipush 1023, 3) := by decide +kernel
theorem d_M_nearest_51 : decode b_M_nearest 51 = .ok (.if_icmp .le 9, 3) := by decide +kernel
theorem d_M_nearest_54 : decode b_M_nearest 54 = .ok (.lload_n 2, 1) := by decide +kernel
theorem d_M_nearest_55 : decode b_M_nearest 55 = .ok (.ldc2_w 94, 3) := by decide +kernel
theorem d_M_nearest_58 : decode b_M_nearest 58 = .ok (.lor, 1) := by decide +kernel
theorem d_M_nearest_59 : decode b_M_nearest 59 = .ok (.lreturn, 1) := by decide +kernel
theorem d_M_nearest_60 : decode b_M_nearest 60 = .ok (.iload 4, 2) := by decide +kernel
theorem d_M_nearest_62 : decode b_M_nearest 62 = .ok (.bipush 52, 2) := by decide +kernel
theorem d_M_nearest_64 : decode b_M_nearest 64 = .ok (.isub, 1) := by decide +kernel
theorem d_M_nearest_65 : decode b_M_nearest 65 = .ok (.sipush (-1074), 3) := by decide +kernel
theorem d_M_nearest_68 : decode b_M_nearest 68 = .ok (.if_icmp .ge 9, 3) := by decide +kernel
theorem d_M_nearest_71 : decode b_M_nearest 71 = .ok (.sipush (-1074), 3) := by decide +kernel
theorem d_M_nearest_74 : decode b_M_nearest 74 = .ok (.goto 8, 3) := by decide +kernel
theorem d_M_nearest_77 : decode b_M_nearest 77 = .ok (.iload 4, 2) := by decide +kernel
theorem d_M_nearest_79 : decode b_M_nearest 79 = .ok (.bipush 52, 2) := by decide +kernel
theorem d_M_nearest_81 : decode b_M_nearest 81 = .ok (.isub, 1) := by decide +kernel
theorem d_M_nearest_82 : decode b_M_nearest 82 = .ok (.istore 5, 2) := by decide +kernel
theorem d_M_nearest_84 : decode b_M_nearest 84 = .ok (.lconst 0, 1) := by decide +kernel
theorem d_M_nearest_85 : decode b_M_nearest 85 = .ok (.lstore 6, 2) := by decide +kernel
theorem d_M_nearest_87 : decode b_M_nearest 87 = .ok (.iload 4, 2) := by decide +kernel
theorem d_M_nearest_89 : decode b_M_nearest 89 = .ok (.istore 8, 2) := by decide +kernel
theorem d_M_nearest_91 : decode b_M_nearest 91 = .ok (.iload 8, 2) := by decide +kernel
theorem d_M_nearest_93 : decode b_M_nearest 93 = .ok (.iload 5, 2) := by decide +kernel
theorem d_M_nearest_95 : decode b_M_nearest 95 = .ok (.if_icmp .lt 32, 3) := by decide +kernel
theorem d_M_nearest_98 : decode b_M_nearest 98 = .ok (.lload 6, 2) := by decide +kernel
theorem d_M_nearest_100 : decode b_M_nearest 100 = .ok (.iconst 1, 1) := by decide +kernel
theorem d_M_nearest_101 : decode b_M_nearest 101 = .ok (.lshl, 1) := by decide +kernel
theorem d_M_nearest_102 : decode b_M_nearest 102 = .ok (.aload_n 0, 1) := by decide +kernel
theorem d_M_nearest_103 : decode b_M_nearest 103 = .ok (.iload_n 1, 1) := by decide +kernel
theorem d_M_nearest_104 : decode b_M_nearest 104 = .ok (.iload 8, 2) := by decide +kernel
theorem d_M_nearest_106 : decode b_M_nearest 106 = .ok (.i2l, 1) := by decide +kernel
theorem d_M_nearest_107 : decode b_M_nearest 107 = .ok (.invokevirtual 96, 3) := by decide +kernel
theorem d_M_nearest_110 : decode b_M_nearest 110 = .ok (.ifCond .eq 7, 3) := by decide +kernel
theorem d_M_nearest_113 : decode b_M_nearest 113 = .ok (.lconst 1, 1) := by decide +kernel
theorem d_M_nearest_114 : decode b_M_nearest 114 = .ok (.goto 4, 3) := by decide +kernel
theorem d_M_nearest_117 : decode b_M_nearest 117 = .ok (.lconst 0, 1) := by decide +kernel
theorem d_M_nearest_118 : decode b_M_nearest 118 = .ok (.lor, 1) := by decide +kernel
theorem d_M_nearest_119 : decode b_M_nearest 119 = .ok (.lstore 6, 2) := by decide +kernel
theorem d_M_nearest_121 : decode b_M_nearest 121 = .ok (.iinc 8 (-1), 3) := by decide +kernel
theorem d_M_nearest_124 : decode b_M_nearest 124 = .ok (.goto (-33), 3) := by decide +kernel
theorem d_M_nearest_127 : decode b_M_nearest 127 = .ok (.aload_n 0, 1) := by decide +kernel
theorem d_M_nearest_128 : decode b_M_nearest 128 = .ok (.iload_n 1, 1) := by decide +kernel
theorem d_M_nearest_129 : decode b_M_nearest 129 = .ok (.iload 5, 2) := by decide +kernel
theorem d_M_nearest_131 : decode b_M_nearest 131 = .ok (.i2l, 1) := by decide +kernel
theorem d_M_nearest_132 : decode b_M_nearest 132 = .ok (.lconst 1, 1) := by decide +kernel
theorem d_M_nearest_133 : decode b_M_nearest 133 = .ok (.lsub, 1) := by decide +kernel
theorem d_M_nearest_134 : decode b_M_nearest 134 = .ok (.invokevirtual 96, 3) := by decide +kernel
theorem d_M_nearest_137 : decode b_M_nearest 137 = .ok (.istore 8, 2) := by decide +kernel
theorem d_M_nearest_139 : decode b_M_nearest 139 = .ok (.iload 8, 2) := by decide +kernel
theorem d_M_nearest_141 : decode b_M_nearest 141 = .ok (.ifCond .eq 19, 3) := by decide +kernel
theorem d_M_nearest_144 : decode b_M_nearest 144 = .ok (.aload_n 0, 1) := by decide +kernel
theorem d_M_nearest_145 : decode b_M_nearest 145 = .ok (.iload_n 1, 1) := by decide +kernel
theorem d_M_nearest_146 : decode b_M_nearest 146 = .ok (.invokevirtual 100, 3) := by decide +kernel
theorem d_M_nearest_149 : decode b_M_nearest 149 = .ok (.iload 5, 2) := by decide +kernel
theorem d_M_nearest_151 : decode b_M_nearest 151 = .ok (.iconst 1, 1) := by decide +kernel
theorem d_M_nearest_152 : decode b_M_nearest 152 = .ok (.isub, 1) := by decide +kernel
theorem d_M_nearest_153 : decode b_M_nearest 153 = .ok (.if_icmp .ge 7, 3) := by decide +kernel
theorem d_M_nearest_156 : decode b_M_nearest 156 = .ok (.iconst 1, 1) := by decide +kernel
theorem d_M_nearest_157 : decode b_M_nearest 157 = .ok (.goto 4, 3) := by decide +kernel
theorem d_M_nearest_160 : decode b_M_nearest 160 = .ok (.iconst 0, 1) := by decide +kernel
theorem d_M_nearest_161 : decode b_M_nearest 161 = .ok (.istore 9, 2) := by decide +kernel
theorem d_M_nearest_163 : decode b_M_nearest 163 = .ok (.iload 8, 2) := by decide +kernel
theorem d_M_nearest_165 : decode b_M_nearest 165 = .ok (.ifCond .eq 24, 3) := by decide +kernel
theorem d_M_nearest_168 : decode b_M_nearest 168 = .ok (.iload 9, 2) := by decide +kernel
theorem d_M_nearest_170 : decode b_M_nearest 170 = .ok (.ifCond .ne 12, 3) := by decide +kernel
theorem d_M_nearest_173 : decode b_M_nearest 173 = .ok (.lload 6, 2) := by decide +kernel
theorem d_M_nearest_175 : decode b_M_nearest 175 = .ok (.lconst 1, 1) := by decide +kernel
theorem d_M_nearest_176 : decode b_M_nearest 176 = .ok (.land, 1) := by decide +kernel
theorem d_M_nearest_177 : decode b_M_nearest 177 = .ok (.lconst 1, 1) := by decide +kernel
theorem d_M_nearest_178 : decode b_M_nearest 178 = .ok (.lcmp, 1) := by decide +kernel
theorem d_M_nearest_179 : decode b_M_nearest 179 = .ok (.ifCond .ne 10, 3) := by decide +kernel
theorem d_M_nearest_182 : decode b_M_nearest 182 = .ok (.lload 6, 2) := by decide +kernel
theorem d_M_nearest_184 : decode b_M_nearest 184 = .ok (.lconst 1, 1) := by decide +kernel
theorem d_M_nearest_185 : decode b_M_nearest 185 = .ok (.ladd, 1) := by decide +kernel
theorem d_M_nearest_186 : decode b_M_nearest 186 = .ok (.goto 5, 3) := by decide +kernel
theorem d_M_nearest_189 : decode b_M_nearest 189 = .ok (.lload 6, 2) := by decide +kernel
theorem d_M_nearest_191 : decode b_M_nearest 191 = .ok (.lstore 6, 2) := by decide +kernel
theorem d_M_nearest_193 : decode b_M_nearest 193 = .ok (.iload 5, 2) := by decide +kernel
theorem d_M_nearest_195 : decode b_M_nearest 195 = .ok (.sipush (-1074), 3) := by decide +kernel
theorem d_M_nearest_198 : decode b_M_nearest 198 = .ok (.if_icmp .ne 8, 3) := by decide +kernel
theorem d_M_nearest_201 : decode b_M_nearest 201 = .ok (.lload 6, 2) := by decide +kernel
theorem d_M_nearest_203 : decode b_M_nearest 203 = .ok (.goto 16, 3) := by decide +kernel
theorem d_M_nearest_206 : decode b_M_nearest 206 = .ok (.iload 5, 2) := by decide +kernel
theorem d_M_nearest_208 : decode b_M_nearest 208 = .ok (.sipush 1074, 3) := by decide +kernel
theorem d_M_nearest_211 : decode b_M_nearest 211 = .ok (.iadd, 1) := by decide +kernel
theorem d_M_nearest_212 : decode b_M_nearest 212 = .ok (.i2l, 1) := by decide +kernel
theorem d_M_nearest_213 : decode b_M_nearest 213 = .ok (.bipush 52, 2) := by decide +kernel
theorem d_M_nearest_215 : decode b_M_nearest 215 = .ok (.lshl, 1) := by decide +kernel
theorem d_M_nearest_216 : decode b_M_nearest 216 = .ok (.lload 6, 2) := by decide +kernel
theorem d_M_nearest_218 : decode b_M_nearest 218 = .ok (.ladd, 1) := by decide +kernel
theorem d_M_nearest_219 : decode b_M_nearest 219 = .ok (.lstore 10, 2) := by decide +kernel
theorem d_M_nearest_221 : decode b_M_nearest 221 = .ok (.lload_n 2, 1) := by decide +kernel
theorem d_M_nearest_222 : decode b_M_nearest 222 = .ok (.lload 10, 2) := by decide +kernel
theorem d_M_nearest_224 : decode b_M_nearest 224 = .ok (.lor, 1) := by decide +kernel
theorem d_M_nearest_225 : decode b_M_nearest 225 = .ok (.lreturn, 1) := by decide +kernel
theorem d_M_has_0 : decode b_M_has 0 = .ok (.lload_n 2, 1) := by decide +kernel
theorem d_M_has_1 : decode b_M_has 1 = .ok (.ldc2_w 85, 3) := by decide +kernel
theorem d_M_has_4 : decode b_M_has 4 = .ok (.lsub, 1) := by decide +kernel
theorem d_M_has_5 : decode b_M_has 5 = .ok (.lstore 4, 2) := by decide +kernel
theorem d_M_has_7 : decode b_M_has 7 = .ok (.lload 4, 2) := by decide +kernel
theorem d_M_has_9 : decode b_M_has 9 = .ok (.lconst 0, 1) := by decide +kernel
theorem d_M_has_10 : decode b_M_has 10 = .ok (.lcmp, 1) := by decide +kernel
theorem d_M_has_11 : decode b_M_has 11 = .ok (.ifCond .lt 46, 3) := by decide +kernel
theorem d_M_has_14 : decode b_M_has 14 = .ok (.lload 4, 2) := by decide +kernel
theorem d_M_has_16 : decode b_M_has 16 = .ok (.ldc2_w 87, 3) := by decide +kernel
theorem d_M_has_19 : decode b_M_has 19 = .ok (.lcmp, 1) := by decide +kernel
theorem d_M_has_20 : decode b_M_has 20 = .ok (.ifCond .ge 37, 3) := by decide +kernel
theorem d_M_has_23 : decode b_M_has 23 = .ok (.aload_n 0, 1) := by decide +kernel
theorem d_M_has_24 : decode b_M_has 24 = .ok (.getfield 7, 3) := by decide +kernel
theorem d_M_has_27 : decode b_M_has 27 = .ok (.sipush 240, 3) := by decide +kernel
theorem d_M_has_30 : decode b_M_has 30 = .ok (.iload_n 1, 1) := by decide +kernel
theorem d_M_has_31 : decode b_M_has 31 = .ok (.imul, 1) := by decide +kernel
theorem d_M_has_32 : decode b_M_has 32 = .ok (.lload 4, 2) := by decide +kernel
theorem d_M_has_34 : decode b_M_has 34 = .ok (.l2i, 1) := by decide +kernel
theorem d_M_has_35 : decode b_M_has 35 = .ok (.bipush 28, 2) := by decide +kernel
theorem d_M_has_37 : decode b_M_has 37 = .ok (.idiv, 1) := by decide +kernel
theorem d_M_has_38 : decode b_M_has 38 = .ok (.iadd, 1) := by decide +kernel
theorem d_M_has_39 : decode b_M_has 39 = .ok (.iaload, 1) := by decide +kernel
theorem d_M_has_40 : decode b_M_has 40 = .ok (.lload 4, 2) := by decide +kernel
theorem d_M_has_42 : decode b_M_has 42 = .ok (.l2i, 1) := by decide +kernel
theorem d_M_has_43 : decode b_M_has 43 = .ok (.bipush 28, 2) := by decide +kernel
theorem d_M_has_45 : decode b_M_has 45 = .ok (.irem, 1) := by decide +kernel
theorem d_M_has_46 : decode b_M_has 46 = .ok (.ishr, 1) := by decide +kernel
theorem d_M_has_47 : decode b_M_has 47 = .ok (.iconst 1, 1) := by decide +kernel
theorem d_M_has_48 : decode b_M_has 48 = .ok (.iand, 1) := by decide +kernel
theorem d_M_has_49 : decode b_M_has 49 = .ok (.iconst 1, 1) := by decide +kernel
theorem d_M_has_50 : decode b_M_has 50 = .ok (.if_icmp .ne 7, 3) := by decide +kernel
theorem d_M_has_53 : decode b_M_has 53 = .ok (.iconst 1, 1) := by decide +kernel
theorem d_M_has_54 : decode b_M_has 54 = .ok (.goto 4, 3) := by decide +kernel
theorem d_M_has_57 : decode b_M_has 57 = .ok (.iconst 0, 1) := by decide +kernel
theorem d_M_has_58 : decode b_M_has 58 = .ok (.ireturn, 1) := by decide +kernel
theorem d_M_lowest_0 : decode b_M_lowest 0 = .ok (.iconst 0, 1) := by decide +kernel
theorem d_M_lowest_1 : decode b_M_lowest 1 = .ok (.istore_n 2, 1) := by decide +kernel
theorem d_M_lowest_2 : decode b_M_lowest 2 = .ok (.iload_n 2, 1) := by decide +kernel
theorem d_M_lowest_3 : decode b_M_lowest 3 = .ok (.sipush 240, 3) := by decide +kernel
theorem d_M_lowest_6 : decode b_M_lowest 6 = .ok (.if_icmp .ge 56, 3) := by decide +kernel
theorem d_M_lowest_9 : decode b_M_lowest 9 = .ok (.aload_n 0, 1) := by decide +kernel
theorem d_M_lowest_10 : decode b_M_lowest 10 = .ok (.getfield 7, 3) := by decide +kernel
theorem d_M_lowest_13 : decode b_M_lowest 13 = .ok (.sipush 240, 3) := by decide +kernel
theorem d_M_lowest_16 : decode b_M_lowest 16 = .ok (.iload_n 1, 1) := by decide +kernel
theorem d_M_lowest_17 : decode b_M_lowest 17 = .ok (.imul, 1) := by decide +kernel
theorem d_M_lowest_18 : decode b_M_lowest 18 = .ok (.iload_n 2, 1) := by decide +kernel
theorem d_M_lowest_19 : decode b_M_lowest 19 = .ok (.iadd, 1) := by decide +kernel
theorem d_M_lowest_20 : decode b_M_lowest 20 = .ok (.iaload, 1) := by decide +kernel
theorem d_M_lowest_21 : decode b_M_lowest 21 = .ok (.istore_n 3, 1) := by decide +kernel
theorem d_M_lowest_22 : decode b_M_lowest 22 = .ok (.iload_n 3, 1) := by decide +kernel
theorem d_M_lowest_23 : decode b_M_lowest 23 = .ok (.ifCond .le 33, 3) := by decide +kernel
theorem d_M_lowest_26 : decode b_M_lowest 26 = .ok (.iconst 0, 1) := by decide +kernel
theorem d_M_lowest_27 : decode b_M_lowest 27 = .ok (.istore 4, 2) := by decide +kernel
theorem d_M_lowest_29 : decode b_M_lowest 29 = .ok (.iload_n 3, 1) := by decide +kernel
theorem d_M_lowest_30 : decode b_M_lowest 30 = .ok (.iload 4, 2) := by decide +kernel
theorem d_M_lowest_32 : decode b_M_lowest 32 = .ok (.ishr, 1) := by decide +kernel
theorem d_M_lowest_33 : decode b_M_lowest 33 = .ok (.iconst 1, 1) := by decide +kernel
theorem d_M_lowest_34 : decode b_M_lowest 34 = .ok (.iand, 1) := by decide +kernel
theorem d_M_lowest_35 : decode b_M_lowest 35 = .ok (.ifCond .ne 9, 3) := by decide +kernel
theorem d_M_lowest_38 : decode b_M_lowest 38 = .ok (.iinc 4 1, 3) := by decide +kernel
theorem d_M_lowest_41 : decode b_M_lowest 41 = .ok (.goto (-12), 3) := by decide +kernel
theorem d_M_lowest_44 : decode b_M_lowest 44 = .ok (.bipush 28, 2) := by decide +kernel
theorem d_M_lowest_46 : decode b_M_lowest 46 = .ok (.iload_n 2, 1) := by decide +kernel
theorem d_M_lowest_47 : decode b_M_lowest 47 = .ok (.imul, 1) := by decide +kernel
theorem d_M_lowest_48 : decode b_M_lowest 48 = .ok (.iload 4, 2) := by decide +kernel
theorem d_M_lowest_50 : decode b_M_lowest 50 = .ok (.iadd, 1) := by decide +kernel
theorem d_M_lowest_51 : decode b_M_lowest 51 = .ok (.sipush (-3222), 3) := by decide +kernel
theorem d_M_lowest_54 : decode b_M_lowest 54 = .ok (.iadd, 1) := by decide +kernel
theorem d_M_lowest_55 : decode b_M_lowest 55 = .ok (.ireturn, 1) := by decide +kernel
theorem d_M_lowest_56 : decode b_M_lowest 56 = .ok (.iinc 2 1, 3) := by decide +kernel
theorem d_M_lowest_59 : decode b_M_lowest 59 = .ok (.goto (-57), 3) := by decide +kernel
theorem d_M_lowest_62 : decode b_M_lowest 62 = .ok (.ldc 89, 2) := by decide +kernel
theorem d_M_lowest_64 : decode b_M_lowest 64 = .ok (.ireturn, 1) := by decide +kernel
theorem d_M_top_0 : decode b_M_top 0 = .ok (.aload_n 0, 1) := by decide +kernel
theorem d_M_top_1 : decode b_M_top 1 = .ok (.iload_n 1, 1) := by decide +kernel
theorem d_M_top_2 : decode b_M_top 2 = .ok (.invokestatic 52, 3) := by decide +kernel
theorem d_M_top_5 : decode b_M_top 5 = .ok (.iconst 1, 1) := by decide +kernel
theorem d_M_top_6 : decode b_M_top 6 = .ok (.invokevirtual 56, 3) := by decide +kernel
theorem d_M_top_9 : decode b_M_top 9 = .ok (.ifCond .eq 11, 3) := by decide +kernel
theorem d_M_top_12 : decode b_M_top 12 = .ok (.aload_n 0, 1) := by decide +kernel
theorem d_M_top_13 : decode b_M_top 13 = .ok (.iload_n 1, 1) := by decide +kernel
theorem d_M_top_14 : decode b_M_top 14 = .ok (.invokevirtual 81, 3) := by decide +kernel
theorem d_M_top_17 : decode b_M_top 17 = .ok (.goto 4, 3) := by decide +kernel
theorem d_M_top_20 : decode b_M_top 20 = .ok (.iconst 0, 1) := by decide +kernel
theorem d_M_top_21 : decode b_M_top 21 = .ok (.ireturn, 1) := by decide +kernel
theorem d_M_bottom_0 : decode b_M_bottom 0 = .ok (.aload_n 0, 1) := by decide +kernel
theorem d_M_bottom_1 : decode b_M_bottom 1 = .ok (.iload_n 1, 1) := by decide +kernel
theorem d_M_bottom_2 : decode b_M_bottom 2 = .ok (.invokestatic 52, 3) := by decide +kernel
theorem d_M_bottom_5 : decode b_M_bottom 5 = .ok (.iconst 1, 1) := by decide +kernel
theorem d_M_bottom_6 : decode b_M_bottom 6 = .ok (.invokevirtual 56, 3) := by decide +kernel
theorem d_M_bottom_9 : decode b_M_bottom 9 = .ok (.ifCond .eq 11, 3) := by decide +kernel
theorem d_M_bottom_12 : decode b_M_bottom 12 = .ok (.aload_n 0, 1) := by decide +kernel
theorem d_M_bottom_13 : decode b_M_bottom 13 = .ok (.iload_n 1, 1) := by decide +kernel
theorem d_M_bottom_14 : decode b_M_bottom 14 = .ok (.invokevirtual 100, 3) := by decide +kernel
theorem d_M_bottom_17 : decode b_M_bottom 17 = .ok (.goto 4, 3) := by decide +kernel
theorem d_M_bottom_20 : decode b_M_bottom 20 = .ok (.iconst 0, 1) := by decide +kernel
theorem d_M_bottom_21 : decode b_M_bottom 21 = .ok (.ireturn, 1) := by decide +kernel
theorem d_M_bit_0 : decode b_M_bit 0 = .ok (.aload_n 0, 1) := by decide +kernel
theorem d_M_bit_1 : decode b_M_bit 1 = .ok (.iload_n 1, 1) := by decide +kernel
theorem d_M_bit_2 : decode b_M_bit 2 = .ok (.invokestatic 52, 3) := by decide +kernel
theorem d_M_bit_5 : decode b_M_bit 5 = .ok (.iconst 1, 1) := by decide +kernel
theorem d_M_bit_6 : decode b_M_bit 6 = .ok (.invokevirtual 56, 3) := by decide +kernel
theorem d_M_bit_9 : decode b_M_bit 9 = .ok (.ifCond .eq 17, 3) := by decide +kernel
theorem d_M_bit_12 : decode b_M_bit 12 = .ok (.aload_n 0, 1) := by decide +kernel
theorem d_M_bit_13 : decode b_M_bit 13 = .ok (.iload_n 1, 1) := by decide +kernel
theorem d_M_bit_14 : decode b_M_bit 14 = .ok (.iload_n 2, 1) := by decide +kernel
theorem d_M_bit_15 : decode b_M_bit 15 = .ok (.i2l, 1) := by decide +kernel
theorem d_M_bit_16 : decode b_M_bit 16 = .ok (.invokevirtual 96, 3) := by decide +kernel
theorem d_M_bit_19 : decode b_M_bit 19 = .ok (.ifCond .eq 7, 3) := by decide +kernel
theorem d_M_bit_22 : decode b_M_bit 22 = .ok (.iconst 1, 1) := by decide +kernel
theorem d_M_bit_23 : decode b_M_bit 23 = .ok (.goto 4, 3) := by decide +kernel
theorem d_M_bit_26 : decode b_M_bit 26 = .ok (.iconst 0, 1) := by decide +kernel
theorem d_M_bit_27 : decode b_M_bit 27 = .ok (.ireturn, 1) := by decide +kernel
theorem d_M_word_0 : decode b_M_word 0 = .ok (.aload_n 0, 1) := by decide +kernel
theorem d_M_word_1 : decode b_M_word 1 = .ok (.iload_n 1, 1) := by decide +kernel
theorem d_M_word_2 : decode b_M_word 2 = .ok (.invokestatic 52, 3) := by decide +kernel
theorem d_M_word_5 : decode b_M_word 5 = .ok (.iconst 1, 1) := by decide +kernel
theorem d_M_word_6 : decode b_M_word 6 = .ok (.invokevirtual 56, 3) := by decide +kernel
theorem d_M_word_9 : decode b_M_word 9 = .ok (.ifCond .ne 5, 3) := by decide +kernel
theorem d_M_word_12 : decode b_M_word 12 = .ok (.lconst 0, 1) := by decide +kernel
theorem d_M_word_13 : decode b_M_word 13 = .ok (.lreturn, 1) := by decide +kernel
theorem d_M_word_14 : decode b_M_word 14 = .ok (.lconst 0, 1) := by decide +kernel
theorem d_M_word_15 : decode b_M_word 15 = .ok (.lstore_n 3, 1) := by decide +kernel
theorem d_M_word_16 : decode b_M_word 16 = .ok (.bipush 63, 2) := by decide +kernel
theorem d_M_word_18 : decode b_M_word 18 = .ok (.istore 5, 2) := by decide +kernel
theorem d_M_word_20 : decode b_M_word 20 = .ok (.iload 5, 2) := by decide +kernel
theorem d_M_word_22 : decode b_M_word 22 = .ok (.ifCond .lt 33, 3) := by decide +kernel
theorem d_M_word_25 : decode b_M_word 25 = .ok (.lload_n 3, 1) := by decide +kernel
theorem d_M_word_26 : decode b_M_word 26 = .ok (.iconst 1, 1) := by decide +kernel
theorem d_M_word_27 : decode b_M_word 27 = .ok (.lshl, 1) := by decide +kernel
theorem d_M_word_28 : decode b_M_word 28 = .ok (.aload_n 0, 1) := by decide +kernel
theorem d_M_word_29 : decode b_M_word 29 = .ok (.iload_n 1, 1) := by decide +kernel
theorem d_M_word_30 : decode b_M_word 30 = .ok (.iload_n 2, 1) := by decide +kernel
theorem d_M_word_31 : decode b_M_word 31 = .ok (.i2l, 1) := by decide +kernel
theorem d_M_word_32 : decode b_M_word 32 = .ok (.iload 5, 2) := by decide +kernel
theorem d_M_word_34 : decode b_M_word 34 = .ok (.i2l, 1) := by decide +kernel
theorem d_M_word_35 : decode b_M_word 35 = .ok (.ladd, 1) := by decide +kernel
theorem d_M_word_36 : decode b_M_word 36 = .ok (.invokevirtual 96, 3) := by decide +kernel
theorem d_M_word_39 : decode b_M_word 39 = .ok (.ifCond .eq 7, 3) := by decide +kernel
theorem d_M_word_42 : decode b_M_word 42 = .ok (.lconst 1, 1) := by decide +kernel
theorem d_M_word_43 : decode b_M_word 43 = .ok (.goto 4, 3) := by decide +kernel
theorem d_M_word_46 : decode b_M_word 46 = .ok (.lconst 0, 1) := by decide +kernel
theorem d_M_word_47 : decode b_M_word 47 = .ok (.lor, 1) := by decide +kernel
theorem d_M_word_48 : decode b_M_word 48 = .ok (.lstore_n 3, 1) := by decide +kernel
theorem d_M_word_49 : decode b_M_word 49 = .ok (.iinc 5 (-1), 3) := by decide +kernel
theorem d_M_word_52 : decode b_M_word 52 = .ok (.goto (-32), 3) := by decide +kernel
theorem d_M_word_55 : decode b_M_word 55 = .ok (.lload_n 3, 1) := by decide +kernel
theorem d_M_word_56 : decode b_M_word 56 = .ok (.lreturn, 1) := by decide +kernel
