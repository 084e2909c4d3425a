theorem ts_goodF {L : List Cond} : (L.filter goodWord).all goodWord = true := List.all_eq_true.mpr (fun w hw => (List.mem_filter.mp hw).2)
def wx_T_sumAt : List Cond := .code y_T_sumAt b_T_sumAt 2 (some (.object "TripleSums$Whole")) :: (([.classLink R_T 100 ts_IO, .initialized ts_IO]) ++ ts_atIO)
def wx_T_refuseUnlessFinite : List Cond := .code y_T_refuseUnlessFinite b_T_refuseUnlessFinite 2 none :: (([.classLink R_T 108 ts_IA, .initialized ts_IA, .methodLink R_T 105 y_T_exponentOf, .static y_T_exponentOf, .initialized R_T, .code y_T_exponentOf b_T_exponentOf 2 (some .int)]) ++ ts_atIA)
def wx_T_refuseUnlessInRange : List Cond := .code y_T_refuseUnlessInRange b_T_refuseUnlessInRange 1 none :: (([.classLink R_T 108 ts_IA, .initialized ts_IA, .constant R_T 113 (-1000000), .constant R_T 114 (1000000)]) ++ ts_atIA)
def wx_T_clear : List Cond := .code y_T_clear b_T_clear 2 none :: (([.methodLink R_T 26 y_T_sumAt, .instanceMethod y_T_sumAt, .selects R_T y_T_sumAt y_T_sumAt, .initialized R_T, .code y_T_sumAt b_T_sumAt 2 (some (.object "TripleSums$Whole")), .classLink R_T 100 ts_IO, .initialized ts_IO]) ++ ts_atIO)
def wx_T_sign : List Cond := .code y_T_sign b_T_sign 2 (some .int) :: (([.methodLink R_T 26 y_T_sumAt, .instanceMethod y_T_sumAt, .selects R_T y_T_sumAt y_T_sumAt, .initialized R_T, .code y_T_sumAt b_T_sumAt 2 (some (.object "TripleSums$Whole")), .classLink R_T 100 ts_IO, .initialized ts_IO]) ++ ts_atIO)
def wx_T_nearest : List Cond := .code y_T_nearest b_T_nearest 5 (some .long) :: (([.methodLink R_T 26 y_T_sumAt, .instanceMethod y_T_sumAt, .selects R_T y_T_sumAt y_T_sumAt, .initialized R_T, .code y_T_sumAt b_T_sumAt 2 (some (.object "TripleSums$Whole")), .classLink R_T 100 ts_IO, .initialized ts_IO]) ++ ts_atIO)
def wx_T_top : List Cond := .code y_T_top b_T_top 2 (some .int) :: (([.methodLink R_T 26 y_T_sumAt, .instanceMethod y_T_sumAt, .selects R_T y_T_sumAt y_T_sumAt, .initialized R_T, .code y_T_sumAt b_T_sumAt 2 (some (.object "TripleSums$Whole")), .classLink R_T 100 ts_IO, .initialized ts_IO]) ++ ts_atIO)
def wx_T_bottom : List Cond := .code y_T_bottom b_T_bottom 2 (some .int) :: (([.methodLink R_T 26 y_T_sumAt, .instanceMethod y_T_sumAt, .selects R_T y_T_sumAt y_T_sumAt, .initialized R_T, .code y_T_sumAt b_T_sumAt 2 (some (.object "TripleSums$Whole")), .classLink R_T 100 ts_IO, .initialized ts_IO]) ++ ts_atIO)
def wx_T_bit : List Cond := .code y_T_bit b_T_bit 3 (some .boolean) :: (([.methodLink R_T 26 y_T_sumAt, .instanceMethod y_T_sumAt, .selects R_T y_T_sumAt y_T_sumAt, .initialized R_T, .code y_T_sumAt b_T_sumAt 2 (some (.object "TripleSums$Whole")), .classLink R_T 100 ts_IO, .initialized ts_IO]) ++ ts_atIO)
def wx_T_word : List Cond := .code y_T_word b_T_word 3 (some .long) :: (([.methodLink R_T 26 y_T_sumAt, .instanceMethod y_T_sumAt, .selects R_T y_T_sumAt y_T_sumAt, .initialized R_T, .code y_T_sumAt b_T_sumAt 2 (some (.object "TripleSums$Whole")), .classLink R_T 100 ts_IO, .initialized ts_IO]) ++ ts_atIO)
def wx_T_add : List Cond := .code y_T_add b_T_add 11 none :: (([.methodLink R_T 26 y_T_sumAt, .instanceMethod y_T_sumAt, .selects R_T y_T_sumAt y_T_sumAt, .initialized R_T, .code y_T_sumAt b_T_sumAt 2 (some (.object "TripleSums$Whole")), .classLink R_T 100 ts_IO, .initialized ts_IO]) ++ ts_atIO)
def wx_T_compare : List Cond := .code y_T_compare b_T_compare 5 (some .int) :: (([.methodLink R_T 26 y_T_sumAt, .instanceMethod y_T_sumAt, .selects R_T y_T_sumAt y_T_sumAt, .initialized R_T, .code y_T_sumAt b_T_sumAt 2 (some (.object "TripleSums$Whole")), .fieldLink R_T 11 "TripleSums" "sums" "[LTripleSums$Whole;", .classLink R_T 100 ts_IO, .initialized ts_IO] ++ v_T) ++ ts_atIO)
def wx_T_compareSizes : List Cond := .code y_T_compareSizes b_T_compareSizes 6 (some .int) :: (([.methodLink R_T 26 y_T_sumAt, .instanceMethod y_T_sumAt, .selects R_T y_T_sumAt y_T_sumAt, .initialized R_T, .code y_T_sumAt b_T_sumAt 2 (some (.object "TripleSums$Whole")), .fieldLink R_T 11 "TripleSums" "sums" "[LTripleSums$Whole;", .classLink R_T 100 ts_IO, .initialized ts_IO] ++ v_T) ++ ts_atIO)
def wx_T_plus : List Cond := .code y_T_plus b_T_plus 6 none :: (([.methodLink R_T 26 y_T_sumAt, .instanceMethod y_T_sumAt, .selects R_T y_T_sumAt y_T_sumAt, .initialized R_T, .code y_T_sumAt b_T_sumAt 2 (some (.object "TripleSums$Whole")), .fieldLink R_T 11 "TripleSums" "sums" "[LTripleSums$Whole;", .classLink R_T 100 ts_IO, .initialized ts_IO] ++ v_T) ++ ts_atIO)
def wx_T_addA : List Cond := .code y_T_add b_T_add 11 none :: (([.methodLink R_T 26 y_T_sumAt, .instanceMethod y_T_sumAt, .selects R_T y_T_sumAt y_T_sumAt, .initialized R_T, .code y_T_sumAt b_T_sumAt 2 (some (.object "TripleSums$Whole")), .fieldLink R_T 11 "TripleSums" "sums" "[LTripleSums$Whole;", .methodLink R_T 33 y_T_refuseUnlessFinite, .static y_T_refuseUnlessFinite, .code y_T_refuseUnlessFinite b_T_refuseUnlessFinite 2 none, .classLink R_T 108 ts_IA, .initialized ts_IA, .methodLink R_T 105 y_T_exponentOf, .static y_T_exponentOf, .code y_T_exponentOf b_T_exponentOf 2 (some .int), .methodLink R_T 37 y_T_refuseUnlessInRange, .static y_T_refuseUnlessInRange, .code y_T_refuseUnlessInRange b_T_refuseUnlessInRange 1 none, .constant R_T 113 (-1000000), .constant R_T 114 (1000000)] ++ v_T) ++ ts_atIA)
def wx_T_plusA : List Cond := .code y_T_plus b_T_plus 6 none :: (([.methodLink R_T 26 y_T_sumAt, .instanceMethod y_T_sumAt, .selects R_T y_T_sumAt y_T_sumAt, .initialized R_T, .code y_T_sumAt b_T_sumAt 2 (some (.object "TripleSums$Whole")), .fieldLink R_T 11 "TripleSums" "sums" "[LTripleSums$Whole;", .methodLink R_T 37 y_T_refuseUnlessInRange, .static y_T_refuseUnlessInRange, .code y_T_refuseUnlessInRange b_T_refuseUnlessInRange 1 none, .classLink R_T 108 ts_IA, .initialized ts_IA, .constant R_T 113 (-1000000), .constant R_T 114 (1000000)] ++ v_T) ++ ts_atIA)
def wx_T_plusS : List Cond := .code y_T_plus b_T_plus 6 none :: (([.methodLink R_T 26 y_T_sumAt, .instanceMethod y_T_sumAt, .selects R_T y_T_sumAt y_T_sumAt, .initialized R_T, .code y_T_sumAt b_T_sumAt 2 (some (.object "TripleSums$Whole")), .fieldLink R_T 11 "TripleSums" "sums" "[LTripleSums$Whole;", .methodLink R_T 37 y_T_refuseUnlessInRange, .static y_T_refuseUnlessInRange, .code y_T_refuseUnlessInRange b_T_refuseUnlessInRange 1 none, .constant R_T 113 (-1000000), .constant R_T 114 (1000000), .fieldLink R_T 20 "TripleSums" "result" "LTripleSums$Whole;", .methodLink R_T 59 y_W_copyFrom, .instanceMethod y_W_copyFrom, .selects R_W y_W_copyFrom y_W_copyFrom, .initialized R_W, .code y_W_copyFrom b_W_copyFrom 2 none, .fieldLink R_W 9 "TripleSums$Whole" "limbs" "[J", .methodLink R_W 24 arraycopyName, .native arraycopyName, .static arraycopyName, .initialized "java/lang/System", .methodLink R_T 55 y_W_increase, .instanceMethod y_W_increase, .selects R_W y_W_increase y_W_increase, .code y_W_increase b_W_increase 8 none, .constantLong R_W 30 (4294967295), .methodLink R_T 63 y_T_sizeOf, .instanceMethod y_T_sizeOf, .selects R_T y_T_sizeOf y_T_sizeOf, .code y_T_sizeOf b_T_sizeOf 2 (some (.object "TripleSums$Whole")), .fieldLink R_T 23 "TripleSums" "size" "LTripleSums$Whole;", .methodLink R_T 30 y_W_setZero, .instanceMethod y_W_setZero, .selects R_W y_W_setZero y_W_setZero, .code y_W_setZero b_W_setZero 1 none, .methodLink R_W 15 y_A_fill, .static y_A_fill, .initialized R_A, .code y_A_fill b_A_fill 5 none, .methodLink R_T 78 y_W_signum, .instanceMethod y_W_signum, .selects R_W y_W_signum y_W_signum, .code y_W_signum b_W_signum 1 (some .int), .constantLong R_W 32 (2147483648), .methodLink R_W 34 y_W_highestPlace, .instanceMethod y_W_highestPlace, .selects R_W y_W_highestPlace y_W_highestPlace, .code y_W_highestPlace b_W_highestPlace 2 (some .int), .methodLink R_W 39 y_J_numberOfLeadingZeros, .static y_J_numberOfLeadingZeros, .initialized R_J, .code y_J_numberOfLeadingZeros b_J_numberOfLeadingZeros 3 (some .int), .methodLink R_J 308 y_I_numberOfLeadingZeros, .static y_I_numberOfLeadingZeros, .initialized R_I, .code y_I_numberOfLeadingZeros b_I_numberOfLeadingZeros 2 (some .int), .constant R_I 264 (65536), .constant R_W 38 (-100000), .methodLink R_T 67 y_W_highestPlace, .classLink R_T 71 ts_IS, .initialized ts_IS] ++ v_T ++ v_W) ++ ts_atIS)
set_option maxRecDepth 20000 in
theorem gg_xT_clear_xT_sumAt : GoodIn wx_T_clear wx_T_sumAt := goodIn_ca (goodIn_r _ [5, 6, 7] (by decide +kernel) (by decide +kernel)) (goodIn_sub (fun _ h => List.mem_cons_of_mem _ (List.mem_append_right _ h)) ts_goodF)
set_option maxRecDepth 20000 in
theorem g_xT_clear_xT_sumAt : GoodIn wx_T_clear (wsV R_T 26 R_T y_T_sumAt wx_T_sumAt) := goodIn_app (goodIn_of _ (by decide +kernel)) gg_xT_clear_xT_sumAt
set_option maxRecDepth 20000 in
theorem gg_xT_sign_xT_sumAt : GoodIn wx_T_sign wx_T_sumAt := goodIn_ca (goodIn_r _ [5, 6, 7] (by decide +kernel) (by decide +kernel)) (goodIn_sub (fun _ h => List.mem_cons_of_mem _ (List.mem_append_right _ h)) ts_goodF)
set_option maxRecDepth 20000 in
theorem g_xT_sign_xT_sumAt : GoodIn wx_T_sign (wsV R_T 26 R_T y_T_sumAt wx_T_sumAt) := goodIn_app (goodIn_of _ (by decide +kernel)) gg_xT_sign_xT_sumAt
set_option maxRecDepth 20000 in
theorem gg_xT_nearest_xT_sumAt : GoodIn wx_T_nearest wx_T_sumAt := goodIn_ca (goodIn_r _ [5, 6, 7] (by decide +kernel) (by decide +kernel)) (goodIn_sub (fun _ h => List.mem_cons_of_mem _ (List.mem_append_right _ h)) ts_goodF)
set_option maxRecDepth 20000 in
theorem g_xT_nearest_xT_sumAt : GoodIn wx_T_nearest (wsV R_T 26 R_T y_T_sumAt wx_T_sumAt) := goodIn_app (goodIn_of _ (by decide +kernel)) gg_xT_nearest_xT_sumAt
set_option maxRecDepth 20000 in
theorem gg_xT_top_xT_sumAt : GoodIn wx_T_top wx_T_sumAt := goodIn_ca (goodIn_r _ [5, 6, 7] (by decide +kernel) (by decide +kernel)) (goodIn_sub (fun _ h => List.mem_cons_of_mem _ (List.mem_append_right _ h)) ts_goodF)
set_option maxRecDepth 20000 in
theorem g_xT_top_xT_sumAt : GoodIn wx_T_top (wsV R_T 26 R_T y_T_sumAt wx_T_sumAt) := goodIn_app (goodIn_of _ (by decide +kernel)) gg_xT_top_xT_sumAt
set_option maxRecDepth 20000 in
theorem gg_xT_bottom_xT_sumAt : GoodIn wx_T_bottom wx_T_sumAt := goodIn_ca (goodIn_r _ [5, 6, 7] (by decide +kernel) (by decide +kernel)) (goodIn_sub (fun _ h => List.mem_cons_of_mem _ (List.mem_append_right _ h)) ts_goodF)
set_option maxRecDepth 20000 in
theorem g_xT_bottom_xT_sumAt : GoodIn wx_T_bottom (wsV R_T 26 R_T y_T_sumAt wx_T_sumAt) := goodIn_app (goodIn_of _ (by decide +kernel)) gg_xT_bottom_xT_sumAt
set_option maxRecDepth 20000 in
theorem gg_xT_bit_xT_sumAt : GoodIn wx_T_bit wx_T_sumAt := goodIn_ca (goodIn_r _ [5, 6, 7] (by decide +kernel) (by decide +kernel)) (goodIn_sub (fun _ h => List.mem_cons_of_mem _ (List.mem_append_right _ h)) ts_goodF)
set_option maxRecDepth 20000 in
theorem g_xT_bit_xT_sumAt : GoodIn wx_T_bit (wsV R_T 26 R_T y_T_sumAt wx_T_sumAt) := goodIn_app (goodIn_of _ (by decide +kernel)) gg_xT_bit_xT_sumAt
set_option maxRecDepth 20000 in
theorem gg_xT_word_xT_sumAt : GoodIn wx_T_word wx_T_sumAt := goodIn_ca (goodIn_r _ [5, 6, 7] (by decide +kernel) (by decide +kernel)) (goodIn_sub (fun _ h => List.mem_cons_of_mem _ (List.mem_append_right _ h)) ts_goodF)
set_option maxRecDepth 20000 in
theorem g_xT_word_xT_sumAt : GoodIn wx_T_word (wsV R_T 26 R_T y_T_sumAt wx_T_sumAt) := goodIn_app (goodIn_of _ (by decide +kernel)) gg_xT_word_xT_sumAt
set_option maxRecDepth 20000 in
theorem gg_xT_add_xT_sumAt : GoodIn wx_T_add wx_T_sumAt := goodIn_ca (goodIn_r _ [5, 6, 7] (by decide +kernel) (by decide +kernel)) (goodIn_sub (fun _ h => List.mem_cons_of_mem _ (List.mem_append_right _ h)) ts_goodF)
set_option maxRecDepth 20000 in
theorem g_xT_add_xT_sumAt : GoodIn wx_T_add (wsV R_T 26 R_T y_T_sumAt wx_T_sumAt) := goodIn_app (goodIn_of _ (by decide +kernel)) gg_xT_add_xT_sumAt
set_option maxRecDepth 20000 in
theorem gg_xT_compare_xT_sumAt : GoodIn wx_T_compare wx_T_sumAt := goodIn_ca (goodIn_r _ [5, 7, 8] (by decide +kernel) (by decide +kernel)) (goodIn_sub (fun _ h => List.mem_cons_of_mem _ (List.mem_append_right _ h)) ts_goodF)
set_option maxRecDepth 20000 in
theorem g_xT_compare_xT_sumAt : GoodIn wx_T_compare (wsV R_T 26 R_T y_T_sumAt wx_T_sumAt) := goodIn_app (goodIn_of _ (by decide +kernel)) gg_xT_compare_xT_sumAt
set_option maxRecDepth 20000 in
theorem gg_xT_compare_T_sumAt : GoodIn wx_T_compare w_T_sumAt := goodIn_r _ [5, 6, 9, 10, 11, 12] (by decide +kernel) (by decide +kernel)
set_option maxRecDepth 20000 in
theorem g_xT_compare_T_sumAt : GoodIn wx_T_compare (wsV R_T 26 R_T y_T_sumAt w_T_sumAt) := goodIn_app (goodIn_of _ (by decide +kernel)) gg_xT_compare_T_sumAt
set_option maxRecDepth 20000 in
theorem gg_xT_compareSizes_xT_sumAt : GoodIn wx_T_compareSizes wx_T_sumAt := goodIn_ca (goodIn_r _ [5, 7, 8] (by decide +kernel) (by decide +kernel)) (goodIn_sub (fun _ h => List.mem_cons_of_mem _ (List.mem_append_right _ h)) ts_goodF)
set_option maxRecDepth 20000 in
theorem g_xT_compareSizes_xT_sumAt : GoodIn wx_T_compareSizes (wsV R_T 26 R_T y_T_sumAt wx_T_sumAt) := goodIn_app (goodIn_of _ (by decide +kernel)) gg_xT_compareSizes_xT_sumAt
set_option maxRecDepth 20000 in
theorem gg_xT_compareSizes_T_sumAt : GoodIn wx_T_compareSizes w_T_sumAt := goodIn_r _ [5, 6, 9, 10, 11, 12] (by decide +kernel) (by decide +kernel)
set_option maxRecDepth 20000 in
theorem g_xT_compareSizes_T_sumAt : GoodIn wx_T_compareSizes (wsV R_T 26 R_T y_T_sumAt w_T_sumAt) := goodIn_app (goodIn_of _ (by decide +kernel)) gg_xT_compareSizes_T_sumAt
set_option maxRecDepth 20000 in
theorem gg_xT_plus_xT_sumAt : GoodIn wx_T_plus wx_T_sumAt := goodIn_ca (goodIn_r _ [5, 7, 8] (by decide +kernel) (by decide +kernel)) (goodIn_sub (fun _ h => List.mem_cons_of_mem _ (List.mem_append_right _ h)) ts_goodF)
set_option maxRecDepth 20000 in
theorem g_xT_plus_xT_sumAt : GoodIn wx_T_plus (wsV R_T 26 R_T y_T_sumAt wx_T_sumAt) := goodIn_app (goodIn_of _ (by decide +kernel)) gg_xT_plus_xT_sumAt
set_option maxRecDepth 20000 in
theorem gg_xT_plus_T_sumAt : GoodIn wx_T_plus w_T_sumAt := goodIn_r _ [5, 6, 9, 10, 11, 12] (by decide +kernel) (by decide +kernel)
set_option maxRecDepth 20000 in
theorem g_xT_plus_T_sumAt : GoodIn wx_T_plus (wsV R_T 26 R_T y_T_sumAt w_T_sumAt) := goodIn_app (goodIn_of _ (by decide +kernel)) gg_xT_plus_T_sumAt
set_option maxRecDepth 20000 in
theorem gg_xT_addA_T_sumAt : GoodIn wx_T_addA w_T_sumAt := goodIn_r _ [5, 6, 20, 21, 22, 23] (by decide +kernel) (by decide +kernel)
set_option maxRecDepth 20000 in
theorem g_xT_addA_T_sumAt : GoodIn wx_T_addA (wsV R_T 26 R_T y_T_sumAt w_T_sumAt) := goodIn_app (goodIn_of _ (by decide +kernel)) gg_xT_addA_T_sumAt
set_option maxRecDepth 20000 in
theorem gg_xT_addA_T_refuseUnlessFinite : GoodIn wx_T_addA w_T_refuseUnlessFinite := goodIn_r _ [9, 12, 13, 4, 14] (by decide +kernel) (by decide +kernel)
set_option maxRecDepth 20000 in
theorem g_xT_addA_T_refuseUnlessFinite : GoodIn wx_T_addA (va_wsS R_T 33 y_T_refuseUnlessFinite w_T_refuseUnlessFinite) := goodIn_app (goodIn_of _ (by decide +kernel)) gg_xT_addA_T_refuseUnlessFinite
set_option maxRecDepth 20000 in
theorem gg_xT_addA_xT_refuseUnlessFinite : GoodIn wx_T_addA wx_T_refuseUnlessFinite := goodIn_ca (goodIn_r _ [9, 10, 11, 12, 13, 4, 14] (by decide +kernel) (by decide +kernel)) (goodIn_sub (fun _ h => List.mem_cons_of_mem _ (List.mem_append_right _ h)) ts_goodF)
set_option maxRecDepth 20000 in
theorem g_xT_addA_xT_refuseUnlessFinite : GoodIn wx_T_addA (va_wsS R_T 33 y_T_refuseUnlessFinite wx_T_refuseUnlessFinite) := goodIn_app (goodIn_of _ (by decide +kernel)) gg_xT_addA_xT_refuseUnlessFinite
set_option maxRecDepth 20000 in
theorem gg_xT_addA_T_refuseUnlessInRange : GoodIn wx_T_addA w_T_refuseUnlessInRange := goodIn_r _ [17, 18, 19] (by decide +kernel) (by decide +kernel)
set_option maxRecDepth 20000 in
theorem g_xT_addA_T_refuseUnlessInRange : GoodIn wx_T_addA (va_wsS R_T 37 y_T_refuseUnlessInRange w_T_refuseUnlessInRange) := goodIn_app (goodIn_of _ (by decide +kernel)) gg_xT_addA_T_refuseUnlessInRange
set_option maxRecDepth 20000 in
theorem gg_xT_addA_xT_refuseUnlessInRange : GoodIn wx_T_addA wx_T_refuseUnlessInRange := goodIn_ca (goodIn_r _ [17, 10, 11, 18, 19] (by decide +kernel) (by decide +kernel)) (goodIn_sub (fun _ h => List.mem_cons_of_mem _ (List.mem_append_right _ h)) ts_goodF)
set_option maxRecDepth 20000 in
theorem g_xT_addA_xT_refuseUnlessInRange : GoodIn wx_T_addA (va_wsS R_T 37 y_T_refuseUnlessInRange wx_T_refuseUnlessInRange) := goodIn_app (goodIn_of _ (by decide +kernel)) gg_xT_addA_xT_refuseUnlessInRange
set_option maxRecDepth 20000 in
theorem gg_xT_plusA_T_sumAt : GoodIn wx_T_plusA w_T_sumAt := goodIn_r _ [5, 6, 14, 15, 16, 17] (by decide +kernel) (by decide +kernel)
set_option maxRecDepth 20000 in
theorem g_xT_plusA_T_sumAt : GoodIn wx_T_plusA (wsV R_T 26 R_T y_T_sumAt w_T_sumAt) := goodIn_app (goodIn_of _ (by decide +kernel)) gg_xT_plusA_T_sumAt
set_option maxRecDepth 20000 in
theorem gg_xT_plusA_xT_refuseUnlessInRange : GoodIn wx_T_plusA wx_T_refuseUnlessInRange := goodIn_ca (goodIn_r _ [9, 10, 11, 12, 13] (by decide +kernel) (by decide +kernel)) (goodIn_sub (fun _ h => List.mem_cons_of_mem _ (List.mem_append_right _ h)) ts_goodF)
set_option maxRecDepth 20000 in
theorem g_xT_plusA_xT_refuseUnlessInRange : GoodIn wx_T_plusA (va_wsS R_T 37 y_T_refuseUnlessInRange wx_T_refuseUnlessInRange) := goodIn_app (goodIn_of _ (by decide +kernel)) gg_xT_plusA_xT_refuseUnlessInRange
set_option maxRecDepth 20000 in
theorem gg_xT_plusS_T_sumAt : GoodIn wx_T_plusS w_T_sumAt := goodIn_r _ [5, 6, 63, 64, 65, 66] (by decide +kernel) (by decide +kernel)
set_option maxRecDepth 20000 in
theorem g_xT_plusS_T_sumAt : GoodIn wx_T_plusS (wsV R_T 26 R_T y_T_sumAt w_T_sumAt) := goodIn_app (goodIn_of _ (by decide +kernel)) gg_xT_plusS_T_sumAt
set_option maxRecDepth 20000 in
theorem gg_xT_plusS_T_refuseUnlessInRange : GoodIn wx_T_plusS w_T_refuseUnlessInRange := goodIn_r _ [9, 10, 11] (by decide +kernel) (by decide +kernel)
set_option maxRecDepth 20000 in
theorem g_xT_plusS_T_refuseUnlessInRange : GoodIn wx_T_plusS (va_wsS R_T 37 y_T_refuseUnlessInRange w_T_refuseUnlessInRange) := goodIn_app (goodIn_of _ (by decide +kernel)) gg_xT_plusS_T_refuseUnlessInRange
set_option maxRecDepth 20000 in
theorem gg_xT_plusS_W_copyFrom : GoodIn wx_T_plusS w_W_copyFrom := goodIn_r _ [17, 18, 19, 20, 21, 22, 67] (by decide +kernel) (by decide +kernel)
set_option maxRecDepth 20000 in
theorem g_xT_plusS_W_copyFrom : GoodIn wx_T_plusS (wsV R_T 59 R_W y_W_copyFrom w_W_copyFrom) := goodIn_app (goodIn_of _ (by decide +kernel)) gg_xT_plusS_W_copyFrom
set_option maxRecDepth 20000 in
theorem gg_xT_plusS_W_increase : GoodIn wx_T_plusS w_W_increase := goodIn_r _ [26, 18, 27, 67] (by decide +kernel) (by decide +kernel)
set_option maxRecDepth 20000 in
theorem g_xT_plusS_W_increase : GoodIn wx_T_plusS (wsV R_T 55 R_W y_W_increase w_W_increase) := goodIn_app (goodIn_of _ (by decide +kernel)) gg_xT_plusS_W_increase
set_option maxRecDepth 20000 in
theorem gg_xT_plusS_T_sizeOf : GoodIn wx_T_plusS w_T_sizeOf := goodIn_r _ [31, 32, 33, 34, 35, 16, 36, 18, 37, 38, 39, 40, 41, 42, 43, 44, 45, 46, 47, 48, 49, 50, 51, 52, 53, 54, 55, 56, 57, 58, 59, 23, 24, 25, 26, 27, 63, 64, 65, 66, 67] (by decide +kernel) (by decide +kernel)
set_option maxRecDepth 20000 in
theorem g_xT_plusS_T_sizeOf : GoodIn wx_T_plusS (wsV R_T 63 R_T y_T_sizeOf w_T_sizeOf) := goodIn_app (goodIn_of _ (by decide +kernel)) gg_xT_plusS_T_sizeOf
set_option maxRecDepth 20000 in
theorem gg_xT_plusS_W_highestPlace : GoodIn wx_T_plusS w_W_highestPlace := goodIn_r _ [49, 18, 50, 51, 52, 53, 54, 55, 56, 57, 58, 59, 67] (by decide +kernel) (by decide +kernel)
set_option maxRecDepth 20000 in
theorem g_xT_plusS_W_highestPlace : GoodIn wx_T_plusS (wsV R_T 67 R_W y_W_highestPlace w_W_highestPlace) := goodIn_app (goodIn_of _ (by decide +kernel)) gg_xT_plusS_W_highestPlace
set_option maxRecDepth 20000 in
theorem gg_xT_refuseUnlessFinite_T_exponentOf : GoodIn wx_T_refuseUnlessFinite w_T_exponentOf := goodIn_r _ [6] (by decide +kernel) (by decide +kernel)
set_option maxRecDepth 20000 in
theorem g_xT_refuseUnlessFinite_T_exponentOf : GoodIn wx_T_refuseUnlessFinite (va_wsS R_T 105 y_T_exponentOf w_T_exponentOf) := goodIn_app (goodIn_of _ (by decide +kernel)) gg_xT_refuseUnlessFinite_T_exponentOf
