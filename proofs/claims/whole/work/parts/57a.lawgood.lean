set_option maxRecDepth 40000 in
theorem ts_inIO : ∀ w ∈ ts_atIO, w ∈ lw_tbl := by decide +kernel
set_option maxRecDepth 40000 in
theorem ts_inIA : ∀ w ∈ ts_atIA, w ∈ lw_tbl := by decide +kernel
set_option maxRecDepth 40000 in
theorem ts_inIS : ∀ w ∈ ts_atIS, w ∈ lw_tbl := by decide +kernel
set_option maxRecDepth 40000 in
theorem i_W : ∀ w ∈ v_W, w ∈ lw_tbl := by decide +kernel
set_option maxRecDepth 40000 in
theorem i_T : ∀ w ∈ v_T, w ∈ lw_tbl := by decide +kernel
set_option maxRecDepth 40000 in
theorem i_M : ∀ w ∈ v_M, w ∈ lw_tbl := by decide +kernel
set_option maxRecDepth 40000 in
theorem gg_law_T_init : GoodIn lw_tbl w_T_init := goodIn_p _ [36, 39, 45] (by decide +kernel) (by decide +kernel)
set_option maxRecDepth 40000 in
theorem gg_law_M_init : GoodIn lw_tbl w_M_init := goodIn_p _ [362, 39] (by decide +kernel) (by decide +kernel)
set_option maxRecDepth 40000 in
theorem gg_law_M_clear : GoodIn lw_tbl w_M_clear := goodIn_p _ [383, 386, 390, 394] (by decide +kernel) (by decide +kernel)
set_option maxRecDepth 40000 in
theorem g_law_M_clear : GoodIn lw_tbl (wsV R_L 65 R_M y_M_clear w_M_clear) := goodIn_app (goodIn_of _ (by decide +kernel)) gg_law_M_clear
set_option maxRecDepth 40000 in
theorem gg_law_M_thrown : GoodIn lw_tbl w_M_thrown := goodIn_p _ [379] (by decide +kernel) (by decide +kernel)
set_option maxRecDepth 40000 in
theorem g_law_M_thrown : GoodIn lw_tbl (wsV R_L 66 R_M y_M_thrown w_M_thrown) := goodIn_app (goodIn_of _ (by decide +kernel)) gg_law_M_thrown
set_option maxRecDepth 40000 in
theorem gg_law_M_add : GoodIn lw_tbl w_M_add := goodIn_p _ [398, 401, 405, 386, 390, 394, 410, 416, 420, 425, 429, 433, 437, 440, 444] (by decide +kernel) (by decide +kernel)
set_option maxRecDepth 40000 in
theorem g_law_M_add : GoodIn lw_tbl (wsV R_L 75 R_M y_M_add w_M_add) := goodIn_app (goodIn_of _ (by decide +kernel)) gg_law_M_add
set_option maxRecDepth 40000 in
theorem gg_law_M_plus : GoodIn lw_tbl w_M_plus := goodIn_p _ [448, 386, 405, 390, 420, 425, 444, 433, 437, 452] (by decide +kernel) (by decide +kernel)
set_option maxRecDepth 40000 in
theorem g_law_M_plus : GoodIn lw_tbl (wsV R_L 79 R_M y_M_plus w_M_plus) := goodIn_app (goodIn_of _ (by decide +kernel)) gg_law_M_plus
set_option maxRecDepth 40000 in
theorem gg_law_M_sign : GoodIn lw_tbl w_M_sign := goodIn_p _ [457, 386, 390, 444] (by decide +kernel) (by decide +kernel)
set_option maxRecDepth 40000 in
theorem g_law_M_sign : GoodIn lw_tbl (wsV R_L 83 R_M y_M_sign w_M_sign) := goodIn_app (goodIn_of _ (by decide +kernel)) gg_law_M_sign
set_option maxRecDepth 40000 in
theorem gg_law_M_compare : GoodIn lw_tbl w_M_compare := goodIn_p _ [461, 386, 390, 437] (by decide +kernel) (by decide +kernel)
set_option maxRecDepth 40000 in
theorem g_law_M_compare : GoodIn lw_tbl (wsV R_L 87 R_M y_M_compare w_M_compare) := goodIn_app (goodIn_of _ (by decide +kernel)) gg_law_M_compare
set_option maxRecDepth 40000 in
theorem gg_law_M_compareSizes : GoodIn lw_tbl w_M_compareSizes := goodIn_p _ [465, 386, 390, 437] (by decide +kernel) (by decide +kernel)
set_option maxRecDepth 40000 in
theorem g_law_M_compareSizes : GoodIn lw_tbl (wsV R_L 90 R_M y_M_compareSizes w_M_compareSizes) := goodIn_app (goodIn_of _ (by decide +kernel)) gg_law_M_compareSizes
set_option maxRecDepth 40000 in
theorem gg_law_M_nearest : GoodIn lw_tbl w_M_nearest := goodIn_p _ [469, 386, 390, 444, 452, 475, 481] (by decide +kernel) (by decide +kernel)
set_option maxRecDepth 40000 in
theorem g_law_M_nearest : GoodIn lw_tbl (wsV R_L 93 R_M y_M_nearest w_M_nearest) := goodIn_app (goodIn_of _ (by decide +kernel)) gg_law_M_nearest
set_option maxRecDepth 40000 in
theorem gg_law_M_top : GoodIn lw_tbl w_M_top := goodIn_p _ [485, 386, 390, 452] (by decide +kernel) (by decide +kernel)
set_option maxRecDepth 40000 in
theorem g_law_M_top : GoodIn lw_tbl (wsV R_L 96 R_M y_M_top w_M_top) := goodIn_app (goodIn_of _ (by decide +kernel)) gg_law_M_top
set_option maxRecDepth 40000 in
theorem gg_law_M_bottom : GoodIn lw_tbl w_M_bottom := goodIn_p _ [489, 386, 390, 481] (by decide +kernel) (by decide +kernel)
set_option maxRecDepth 40000 in
theorem g_law_M_bottom : GoodIn lw_tbl (wsV R_L 99 R_M y_M_bottom w_M_bottom) := goodIn_app (goodIn_of _ (by decide +kernel)) gg_law_M_bottom
set_option maxRecDepth 40000 in
theorem gg_law_M_bit : GoodIn lw_tbl w_M_bit := goodIn_p _ [493, 386, 390, 475] (by decide +kernel) (by decide +kernel)
set_option maxRecDepth 40000 in
theorem g_law_M_bit : GoodIn lw_tbl (wsV R_L 102 R_M y_M_bit w_M_bit) := goodIn_app (goodIn_of _ (by decide +kernel)) gg_law_M_bit
set_option maxRecDepth 40000 in
theorem gg_law_M_word : GoodIn lw_tbl w_M_word := goodIn_p _ [497, 386, 390, 475] (by decide +kernel) (by decide +kernel)
set_option maxRecDepth 40000 in
theorem g_law_M_word : GoodIn lw_tbl (wsV R_L 105 R_M y_M_word w_M_word) := goodIn_app (goodIn_of _ (by decide +kernel)) gg_law_M_word
