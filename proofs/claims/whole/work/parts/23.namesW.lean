def w_W_init : List Cond := .code y_W_init b_W_init 1 none :: ([.methodLink R_W 3 objectInit, .instanceMethod objectInit, .code objectInit ⟨#[0xb1]⟩ 1 none, .arrayClass .long, .fieldLink R_W 9 "TripleSums$Whole" "limbs" "[J"] ++ v_W)
def w_W_setZero : List Cond := .code y_W_setZero b_W_setZero 1 none :: ([.fieldLink R_W 9 "TripleSums$Whole" "limbs" "[J", .methodLink R_W 15 y_A_fill, .static y_A_fill, .initialized R_A, .code y_A_fill b_A_fill 5 none] ++ v_W)
def w_A_fill : List Cond := .code y_A_fill b_A_fill 5 none :: ([])
def w_W_setPowerOfTwo : List Cond := .code y_W_setPowerOfTwo b_W_setPowerOfTwo 3 none :: ([.methodLink R_W 21 y_W_setZero, .instanceMethod y_W_setZero, .selects R_W y_W_setZero y_W_setZero, .initialized R_W, .code y_W_setZero b_W_setZero 1 none, .fieldLink R_W 9 "TripleSums$Whole" "limbs" "[J", .methodLink R_W 15 y_A_fill, .static y_A_fill, .initialized R_A, .code y_A_fill b_A_fill 5 none] ++ v_W)
def w_W_multiply : List Cond := .code y_W_multiply b_W_multiply 12 none :: ([.constantLong R_W 30 (4294967295), .fieldLink R_W 9 "TripleSums$Whole" "limbs" "[J"] ++ v_W)
def w_W_increase : List Cond := .code y_W_increase b_W_increase 8 none :: ([.fieldLink R_W 9 "TripleSums$Whole" "limbs" "[J", .constantLong R_W 30 (4294967295)] ++ v_W)
def w_W_copyFrom : List Cond := .code y_W_copyFrom b_W_copyFrom 2 none :: ([.fieldLink R_W 9 "TripleSums$Whole" "limbs" "[J", .methodLink R_W 24 arraycopyName, .native arraycopyName, .static arraycopyName, .initialized "java/lang/System"] ++ v_W)
def w_W_signum : List Cond := .code y_W_signum b_W_signum 1 (some .int) :: ([.fieldLink R_W 9 "TripleSums$Whole" "limbs" "[J", .constantLong R_W 32 (2147483648), .methodLink R_W 34 y_W_highestPlace, .instanceMethod y_W_highestPlace, .selects R_W y_W_highestPlace y_W_highestPlace, .initialized R_W, .code y_W_highestPlace b_W_highestPlace 2 (some .int), .methodLink R_W 39 y_J_numberOfLeadingZeros, .static y_J_numberOfLeadingZeros, .initialized R_J, .code y_J_numberOfLeadingZeros b_J_numberOfLeadingZeros 3 (some .int), .methodLink R_J 308 y_I_numberOfLeadingZeros, .static y_I_numberOfLeadingZeros, .initialized R_I, .code y_I_numberOfLeadingZeros b_I_numberOfLeadingZeros 2 (some .int), .constant R_I 264 (65536), .constant R_W 38 (-100000)] ++ v_W)
def w_W_highestPlace : List Cond := .code y_W_highestPlace b_W_highestPlace 2 (some .int) :: ([.fieldLink R_W 9 "TripleSums$Whole" "limbs" "[J", .methodLink R_W 39 y_J_numberOfLeadingZeros, .static y_J_numberOfLeadingZeros, .initialized R_J, .code y_J_numberOfLeadingZeros b_J_numberOfLeadingZeros 3 (some .int), .methodLink R_J 308 y_I_numberOfLeadingZeros, .static y_I_numberOfLeadingZeros, .initialized R_I, .code y_I_numberOfLeadingZeros b_I_numberOfLeadingZeros 2 (some .int), .constant R_I 264 (65536), .constant R_W 38 (-100000)] ++ v_W)
def w_J_numberOfLeadingZeros : List Cond := .code y_J_numberOfLeadingZeros b_J_numberOfLeadingZeros 3 (some .int) :: ([.methodLink R_J 308 y_I_numberOfLeadingZeros, .static y_I_numberOfLeadingZeros, .initialized R_I, .code y_I_numberOfLeadingZeros b_I_numberOfLeadingZeros 2 (some .int), .constant R_I 264 (65536)])
def w_I_numberOfLeadingZeros : List Cond := .code y_I_numberOfLeadingZeros b_I_numberOfLeadingZeros 2 (some .int) :: ([.constant R_I 264 (65536)])
def w_W_wordFrom : List Cond := .code y_W_wordFrom b_W_wordFrom 7 (some .long) :: ([.constantLong R_W 48 (31), .methodLink R_W 50 y_W_limbAt, .instanceMethod y_W_limbAt, .selects R_W y_W_limbAt y_W_limbAt, .initialized R_W, .code y_W_limbAt b_W_limbAt 2 (some .long), .fieldLink R_W 9 "TripleSums$Whole" "limbs" "[J"] ++ v_W)
def w_W_limbAt : List Cond := .code y_W_limbAt b_W_limbAt 2 (some .long) :: ([.fieldLink R_W 9 "TripleSums$Whole" "limbs" "[J"] ++ v_W)
def w_W_lowestPlace : List Cond := .code y_W_lowestPlace b_W_lowestPlace 2 (some .int) :: ([.fieldLink R_W 9 "TripleSums$Whole" "limbs" "[J", .methodLink R_W 45 y_J_numberOfTrailingZeros, .static y_J_numberOfTrailingZeros, .initialized R_J, .code y_J_numberOfTrailingZeros b_J_numberOfTrailingZeros 3 (some .int), .methodLink R_J 311 y_I_numberOfTrailingZeros, .static y_I_numberOfTrailingZeros, .initialized R_I, .code y_I_numberOfTrailingZeros b_I_numberOfTrailingZeros 2 (some .int), .constant R_I 264 (65536), .constant R_W 38 (-100000)] ++ v_W)
def w_J_numberOfTrailingZeros : List Cond := .code y_J_numberOfTrailingZeros b_J_numberOfTrailingZeros 3 (some .int) :: ([.methodLink R_J 311 y_I_numberOfTrailingZeros, .static y_I_numberOfTrailingZeros, .initialized R_I, .code y_I_numberOfTrailingZeros b_I_numberOfTrailingZeros 2 (some .int), .constant R_I 264 (65536)])
def w_I_numberOfTrailingZeros : List Cond := .code y_I_numberOfTrailingZeros b_I_numberOfTrailingZeros 2 (some .int) :: ([.constant R_I 264 (65536)])
set_option maxRecDepth 20000 in
theorem gg_W_setZero_A_fill : GoodIn w_W_setZero w_A_fill := goodIn_r _ [5] (by decide +kernel) (by decide +kernel)
set_option maxRecDepth 20000 in
theorem g_W_setZero_A_fill : GoodIn w_W_setZero (va_wsS R_W 15 y_A_fill w_A_fill) := goodIn_app (goodIn_of _ (by decide +kernel)) gg_W_setZero_A_fill
set_option maxRecDepth 20000 in
theorem gg_W_setPowerOfTwo_W_setZero : GoodIn w_W_setPowerOfTwo w_W_setZero := goodIn_r _ [5, 6, 7, 8, 9, 10, 11] (by decide +kernel) (by decide +kernel)
set_option maxRecDepth 20000 in
theorem g_W_setPowerOfTwo_W_setZero : GoodIn w_W_setPowerOfTwo (wsV R_W 21 R_W y_W_setZero w_W_setZero) := goodIn_app (goodIn_of _ (by decide +kernel)) gg_W_setPowerOfTwo_W_setZero
set_option maxRecDepth 20000 in
theorem gg_W_signum_W_highestPlace : GoodIn w_W_signum w_W_highestPlace := goodIn_r _ [7, 1, 8, 9, 10, 11, 12, 13, 14, 15, 16, 17, 18] (by decide +kernel) (by decide +kernel)
set_option maxRecDepth 20000 in
theorem g_W_signum_W_highestPlace : GoodIn w_W_signum (wsV R_W 34 R_W y_W_highestPlace w_W_highestPlace) := goodIn_app (goodIn_of _ (by decide +kernel)) gg_W_signum_W_highestPlace
set_option maxRecDepth 20000 in
theorem gg_W_highestPlace_J_numberOfLeadingZeros : GoodIn w_W_highestPlace w_J_numberOfLeadingZeros := goodIn_r _ [5, 6, 7, 8, 9, 10] (by decide +kernel) (by decide +kernel)
set_option maxRecDepth 20000 in
theorem g_W_highestPlace_J_numberOfLeadingZeros : GoodIn w_W_highestPlace (va_wsS R_W 39 y_J_numberOfLeadingZeros w_J_numberOfLeadingZeros) := goodIn_app (goodIn_of _ (by decide +kernel)) gg_W_highestPlace_J_numberOfLeadingZeros
set_option maxRecDepth 20000 in
theorem gg_J_numberOfLeadingZeros_I_numberOfLeadingZeros : GoodIn w_J_numberOfLeadingZeros w_I_numberOfLeadingZeros := goodIn_r _ [4, 5] (by decide +kernel) (by decide +kernel)
set_option maxRecDepth 20000 in
theorem g_J_numberOfLeadingZeros_I_numberOfLeadingZeros : GoodIn w_J_numberOfLeadingZeros (va_wsS R_J 308 y_I_numberOfLeadingZeros w_I_numberOfLeadingZeros) := goodIn_app (goodIn_of _ (by decide +kernel)) gg_J_numberOfLeadingZeros_I_numberOfLeadingZeros
set_option maxRecDepth 20000 in
theorem gg_W_wordFrom_W_limbAt : GoodIn w_W_wordFrom w_W_limbAt := goodIn_r _ [6, 7, 8] (by decide +kernel) (by decide +kernel)
set_option maxRecDepth 20000 in
theorem g_W_wordFrom_W_limbAt : GoodIn w_W_wordFrom (wsV R_W 50 R_W y_W_limbAt w_W_limbAt) := goodIn_app (goodIn_of _ (by decide +kernel)) gg_W_wordFrom_W_limbAt
set_option maxRecDepth 20000 in
theorem gg_W_lowestPlace_J_numberOfTrailingZeros : GoodIn w_W_lowestPlace w_J_numberOfTrailingZeros := goodIn_r _ [5, 6, 7, 8, 9, 10] (by decide +kernel) (by decide +kernel)
set_option maxRecDepth 20000 in
theorem g_W_lowestPlace_J_numberOfTrailingZeros : GoodIn w_W_lowestPlace (va_wsS R_W 45 y_J_numberOfTrailingZeros w_J_numberOfTrailingZeros) := goodIn_app (goodIn_of _ (by decide +kernel)) gg_W_lowestPlace_J_numberOfTrailingZeros
set_option maxRecDepth 20000 in
theorem gg_J_numberOfTrailingZeros_I_numberOfTrailingZeros : GoodIn w_J_numberOfTrailingZeros w_I_numberOfTrailingZeros := goodIn_r _ [4, 5] (by decide +kernel) (by decide +kernel)
set_option maxRecDepth 20000 in
theorem g_J_numberOfTrailingZeros_I_numberOfTrailingZeros : GoodIn w_J_numberOfTrailingZeros (va_wsS R_J 311 y_I_numberOfTrailingZeros w_I_numberOfTrailingZeros) := goodIn_app (goodIn_of _ (by decide +kernel)) gg_J_numberOfTrailingZeros_I_numberOfTrailingZeros
theorem d_W_init_0 : decode b_W_init 0 = .ok (.aload_n 0, 1) := by decide +kernel
theorem d_W_init_1 : decode b_W_init 1 = .ok (.invokespecial 3, 3) := by decide +kernel
theorem d_W_init_4 : decode b_W_init 4 = .ok (.aload_n 0, 1) := by decide +kernel
theorem d_W_init_5 : decode b_W_init 5 = .ok (.sipush 200, 3) := by decide +kernel
theorem d_W_init_8 : decode b_W_init 8 = .ok (.newarray .long, 2) := by decide +kernel
theorem d_W_init_10 : decode b_W_init 10 = .ok (.putfield 9, 3) := by decide +kernel
theorem d_W_init_13 : decode b_W_init 13 = .ok (.return_, 1) := by decide +kernel
theorem d_W_setZero_0 : decode b_W_setZero 0 = .ok (.aload_n 0, 1) := by decide +kernel
theorem d_W_setZero_1 : decode b_W_setZero 1 = .ok (.getfield 9, 3) := by decide +kernel
theorem d_W_setZero_4 : decode b_W_setZero 4 = .ok (.lconst 0, 1) := by decide +kernel
theorem d_W_setZero_5 : decode b_W_setZero 5 = .ok (.invokestatic 15, 3) := by decide +kernel
theorem d_W_setZero_8 : decode b_W_setZero 8 = .ok (.return_, 1) := by decide +kernel
theorem d_A_fill_0 : decode b_A_fill 0 = .ok (.iconst 0, 1) := by decide +kernel
theorem d_A_fill_1 : decode b_A_fill 1 = .ok (.istore_n 3, 1) := by decide +kernel
theorem d_A_fill_2 : decode b_A_fill 2 = .ok (.aload_n 0, 1) := by decide +kernel
theorem d_A_fill_3 : decode b_A_fill 3 = .ok (.arraylength, 1) := by decide +kernel
theorem d_A_fill_4 : decode b_A_fill 4 = .ok (.istore 4, 2) := by decide +kernel
theorem d_A_fill_6 : decode b_A_fill 6 = .ok (.iload_n 3, 1) := by decide +kernel
theorem d_A_fill_7 : decode b_A_fill 7 = .ok (.iload 4, 2) := by decide +kernel
theorem d_A_fill_9 : decode b_A_fill 9 = .ok (.if_icmp .ge 13, 3) := by decide +kernel
theorem d_A_fill_12 : decode b_A_fill 12 = .ok (.aload_n 0, 1) := by decide +kernel
theorem d_A_fill_13 : decode b_A_fill 13 = .ok (.iload_n 3, 1) := by decide +kernel
theorem d_A_fill_14 : decode b_A_fill 14 = .ok (.lload_n 1, 1) := by decide +kernel
theorem d_A_fill_15 : decode b_A_fill 15 = .ok (.lastore, 1) := by decide +kernel
theorem d_A_fill_16 : decode b_A_fill 16 = .ok (.iinc 3 1, 3) := by decide +kernel
theorem d_A_fill_19 : decode b_A_fill 19 = .ok (.goto (-13), 3) := by decide +kernel
theorem d_A_fill_22 : decode b_A_fill 22 = .ok (.return_, 1) := by decide +kernel
theorem d_W_setPowerOfTwo_0 : decode b_W_setPowerOfTwo 0 = .ok (.aload_n 0, 1) := by decide +kernel
theorem d_W_setPowerOfTwo_1 : decode b_W_setPowerOfTwo 1 = .ok (.invokevirtual 21, 3) := by decide +kernel
theorem d_W_setPowerOfTwo_4 : decode b_W_setPowerOfTwo 4 = .ok (.iload_n 1, 1) := by decide +kernel
theorem d_W_setPowerOfTwo_5 : decode b_W_setPowerOfTwo 5 = .ok (.iconst 5, 1) := by decide +kernel
theorem d_W_setPowerOfTwo_6 : decode b_W_setPowerOfTwo 6 = .ok (.ishr, 1) := by decide +kernel
theorem d_W_setPowerOfTwo_7 : decode b_W_setPowerOfTwo 7 = .ok (.istore_n 2, 1) := by decide +kernel
theorem d_W_setPowerOfTwo_8 : decode b_W_setPowerOfTwo 8 = .ok (.iload_n 2, 1) := by decide +kernel
theorem d_W_setPowerOfTwo_9 : decode b_W_setPowerOfTwo 9 = .ok (.ifCond .lt 22, 3) := by decide +kernel
theorem d_W_setPowerOfTwo_12 : decode b_W_setPowerOfTwo 12 = .ok (.iload_n 2, 1) := by decide +kernel
theorem d_W_setPowerOfTwo_13 : decode b_W_setPowerOfTwo 13 = .ok (.sipush 200, 3) := by decide +kernel
theorem d_W_setPowerOfTwo_16 : decode b_W_setPowerOfTwo 16 = .ok (.if_icmp .ge 15, 3) := by decide +kernel
theorem d_W_setPowerOfTwo_19 : decode b_W_setPowerOfTwo 19 = .ok (.aload_n 0, 1) := by decide +kernel
theorem d_W_setPowerOfTwo_20 : decode b_W_setPowerOfTwo 20 = .ok (.getfield 9, 3) := by decide +kernel
theorem d_W_setPowerOfTwo_23 : decode b_W_setPowerOfTwo 23 = .ok (.iload_n 2, 1) := by decide +kernel
theorem d_W_setPowerOfTwo_24 : decode b_W_setPowerOfTwo 24 = .ok (.lconst 1, 1) := by decide +kernel
theorem d_W_setPowerOfTwo_25 : decode b_W_setPowerOfTwo 25 = .ok (.iload_n 1, 1) := by decide +kernel
theorem d_W_setPowerOfTwo_26 : decode b_W_setPowerOfTwo 26 = .ok (.bipush 31, 2) := by decide +kernel
theorem d_W_setPowerOfTwo_28 : decode b_W_setPowerOfTwo 28 = .ok (.iand, 1) := by decide +kernel
theorem d_W_setPowerOfTwo_29 : decode b_W_setPowerOfTwo 29 = .ok (.lshl, 1) := by decide +kernel
theorem d_W_setPowerOfTwo_30 : decode b_W_setPowerOfTwo 30 = .ok (.lastore, 1) := by decide +kernel
theorem d_W_setPowerOfTwo_31 : decode b_W_setPowerOfTwo 31 = .ok (.return_, 1) := by decide +kernel
theorem d_W_multiply_0 : decode b_W_multiply 0 = .ok (.lload_n 1, 1) := by decide +kernel
theorem d_W_multiply_1 : decode b_W_multiply 1 = .ok (.ldc2_w 30, 3) := by decide +kernel
theorem d_W_multiply_4 : decode b_W_multiply 4 = .ok (.land, 1) := by decide +kernel
theorem d_W_multiply_5 : decode b_W_multiply 5 = .ok (.lstore_n 3, 1) := by decide +kernel
theorem d_W_multiply_6 : decode b_W_multiply 6 = .ok (.lload_n 1, 1) := by decide +kernel
theorem d_W_multiply_7 : decode b_W_multiply 7 = .ok (.bipush 32, 2) := by decide +kernel
theorem d_W_multiply_9 : decode b_W_multiply 9 = .ok (.lushr, 1) := by decide +kernel
theorem d_W_multiply_10 : decode b_W_multiply 10 = .ok (.lstore 5, 2) := by decide +kernel
theorem d_W_multiply_12 : decode b_W_multiply 12 = .ok (.lconst 0, 1) := by decide +kernel
theorem d_W_multiply_13 : decode b_W_multiply 13 = .ok (.lstore 7, 2) := by decide +kernel
theorem d_W_multiply_15 : decode b_W_multiply 15 = .ok (.iconst 0, 1) := by decide +kernel
theorem d_W_multiply_16 : decode b_W_multiply 16 = .ok (.istore 9, 2) := by decide +kernel
theorem d_W_multiply_18 : decode b_W_multiply 18 = .ok (.iload 9, 2) := by decide +kernel
theorem d_W_multiply_20 : decode b_W_multiply 20 = .ok (.sipush 200, 3) := by decide +kernel
theorem d_W_multiply_23 : decode b_W_multiply 23 = .ok (.if_icmp .ge 64, 3) := by decide +kernel
theorem d_W_multiply_26 : decode b_W_multiply 26 = .ok (.aload_n 0, 1) := by decide +kernel
theorem d_W_multiply_27 : decode b_W_multiply 27 = .ok (.getfield 9, 3) := by decide +kernel
theorem d_W_multiply_30 : decode b_W_multiply 30 = .ok (.iload 9, 2) := by decide +kernel
theorem d_W_multiply_32 : decode b_W_multiply 32 = .ok (.laload, 1) := by decide +kernel
theorem d_W_multiply_33 : decode b_W_multiply 33 = .ok (.lload_n 3, 1) := by decide +kernel
theorem d_W_multiply_34 : decode b_W_multiply 34 = .ok (.lmul, 1) := by decide +kernel
theorem d_W_multiply_35 : decode b_W_multiply 35 = .ok (.lload 7, 2) := by decide +kernel
theorem d_W_multiply_37 : decode b_W_multiply 37 = .ok (.ldc2_w 30, 3) := by decide +kernel
theorem d_W_multiply_40 : decode b_W_multiply 40 = .ok (.land, 1) := by decide +kernel
theorem d_W_multiply_41 : decode b_W_multiply 41 = .ok (.ladd, 1) := by decide +kernel
theorem d_W_multiply_42 : decode b_W_multiply 42 = .ok (.lstore 10, 2) := by decide +kernel
theorem d_W_multiply_44 : decode b_W_multiply 44 = .ok (.aload_n 0, 1) := by decide +kernel
theorem d_W_multiply_45 : decode b_W_multiply 45 = .ok (.getfield 9, 3) := by decide +kernel
theorem d_W_multiply_48 : decode b_W_multiply 48 = .ok (.iload 9, 2) := by decide +kernel
theorem d_W_multiply_50 : decode b_W_multiply 50 = .ok (.laload, 1) := by decide +kernel
theorem d_W_multiply_51 : decode b_W_multiply 51 = .ok (.lload 5, 2) := by decide +kernel
theorem d_W_multiply_53 : decode b_W_multiply 53 = .ok (.lmul, 1) := by decide +kernel
theorem d_W_multiply_54 : decode b_W_multiply 54 = .ok (.lload 7, 2) := by decide +kernel
theorem d_W_multiply_56 : decode b_W_multiply 56 = .ok (.bipush 32, 2) := by decide +kernel
theorem d_W_multiply_58 : decode b_W_multiply 58 = .ok (.lushr, 1) := by decide +kernel
theorem d_W_multiply_59 : decode b_W_multiply 59 = .ok (.ladd, 1) := by decide +kernel
theorem d_W_multiply_60 : decode b_W_multiply 60 = .ok (.lload 10, 2) := by decide +kernel
theorem d_W_multiply_62 : decode b_W_multiply 62 = .ok (.bipush 32, 2) := by decide +kernel
theorem d_W_multiply_64 : decode b_W_multiply 64 = .ok (.lushr, 1) := by decide +kernel
theorem d_W_multiply_65 : decode b_W_multiply 65 = .ok (.ladd, 1) := by decide +kernel
theorem d_W_multiply_66 : decode b_W_multiply 66 = .ok (.lstore 7, 2) := by decide +kernel
theorem d_W_multiply_68 : decode b_W_multiply 68 = .ok (.aload_n 0, 1) := by decide +kernel
theorem d_W_multiply_69 : decode b_W_multiply 69 = .ok (.getfield 9, 3) := by decide +kernel
theorem d_W_multiply_72 : decode b_W_multiply 72 = .ok (.iload 9, 2) := by decide +kernel
theorem d_W_multiply_74 : decode b_W_multiply 74 = .ok (.lload 10, 2) := by decide +kernel
theorem d_W_multiply_76 : decode b_W_multiply 76 = .ok (.ldc2_w 30, 3) := by decide +kernel
theorem d_W_multiply_79 : decode b_W_multiply 79 = .ok (.land, 1) := by decide +kernel
theorem d_W_multiply_80 : decode b_W_multiply 80 = .ok (.lastore, 1) := by decide +kernel
theorem d_W_multiply_81 : decode b_W_multiply 81 = .ok (.iinc 9 1, 3) := by decide +kernel
theorem d_W_multiply_84 : decode b_W_multiply 84 = .ok (.goto (-66), 3) := by decide +kernel
theorem d_W_multiply_87 : decode b_W_multiply 87 = .ok (.return_, 1) := by decide +kernel
theorem d_W_increase_0 : decode b_W_increase 0 = .ok (.lconst 0, 1) := by decide +kernel
theorem d_W_increase_1 : decode b_W_increase 1 = .ok (.lstore_n 3, 1) := by decide +kernel
theorem d_W_increase_2 : decode b_W_increase 2 = .ok (.iconst 0, 1) := by decide +kernel
theorem d_W_increase_3 : decode b_W_increase 3 = .ok (.istore 5, 2) := by decide +kernel
theorem d_W_increase_5 : decode b_W_increase 5 = .ok (.iload 5, 2) := by decide +kernel
theorem d_W_increase_7 : decode b_W_increase 7 = .ok (.sipush 200, 3) := by decide +kernel
theorem d_W_increase_10 : decode b_W_increase 10 = .ok (.if_icmp .ge 50, 3) := by decide +kernel
theorem d_W_increase_13 : decode b_W_increase 13 = .ok (.aload_n 0, 1) := by decide +kernel
theorem d_W_increase_14 : decode b_W_increase 14 = .ok (.getfield 9, 3) := by decide +kernel
theorem d_W_increase_17 : decode b_W_increase 17 = .ok (.iload 5, 2) := by decide +kernel
theorem d_W_increase_19 : decode b_W_increase 19 = .ok (.laload, 1) := by decide +kernel
theorem d_W_increase_20 : decode b_W_increase 20 = .ok (.aload_n 1, 1) := by decide +kernel
theorem d_W_increase_21 : decode b_W_increase 21 = .ok (.getfield 9, 3) := by decide +kernel
theorem d_W_increase_24 : decode b_W_increase 24 = .ok (.iload 5, 2) := by decide +kernel
theorem d_W_increase_26 : decode b_W_increase 26 = .ok (.laload, 1) := by decide +kernel
theorem d_W_increase_27 : decode b_W_increase 27 = .ok (.iload_n 2, 1) := by decide +kernel
theorem d_W_increase_28 : decode b_W_increase 28 = .ok (.i2l, 1) := by decide +kernel
theorem d_W_increase_29 : decode b_W_increase 29 = .ok (.lmul, 1) := by decide +kernel
theorem d_W_increase_30 : decode b_W_increase 30 = .ok (.ladd, 1) := by decide +kernel
theorem d_W_increase_31 : decode b_W_increase 31 = .ok (.lload_n 3, 1) := by decide +kernel
theorem d_W_increase_32 : decode b_W_increase 32 = .ok (.ladd, 1) := by decide +kernel
theorem d_W_increase_33 : decode b_W_increase 33 = .ok (.lstore 6, 2) := by decide +kernel
theorem d_W_increase_35 : decode b_W_increase 35 = .ok (.aload_n 0, 1) := by decide +kernel
theorem d_W_increase_36 : decode b_W_increase 36 = .ok (.getfield 9, 3) := by decide +kernel
theorem d_W_increase_39 : decode b_W_increase 39 = .ok (.iload 5, 2) := by decide +kernel
theorem d_W_increase_41 : decode b_W_increase 41 = .ok (.lload 6, 2) := by decide +kernel
theorem d_W_increase_43 : decode b_W_increase 43 = .ok (.ldc2_w 30, 3) := by decide +kernel
theorem d_W_increase_46 : decode b_W_increase 46 = .ok (.land, 1) := by decide +kernel
theorem d_W_increase_47 : decode b_W_increase 47 = .ok (.lastore, 1) := by decide +kernel
theorem d_W_increase_48 : decode b_W_increase 48 = .ok (.lload 6, 2) := by decide +kernel
theorem d_W_increase_50 : decode b_W_increase 50 = .ok (.bipush 32, 2) := by decide +kernel
theorem d_W_increase_52 : decode b_W_increase 52 = .ok (.lshr, 1) := by decide +kernel
theorem d_W_increase_53 : decode b_W_increase 53 = .ok (.lstore_n 3, 1) := by decide +kernel
theorem d_W_increase_54 : decode b_W_increase 54 = .ok (.iinc 5 1, 3) := by decide +kernel
theorem d_W_increase_57 : decode b_W_increase 57 = .ok (.goto (-52), 3) := by decide +kernel
theorem d_W_increase_60 : decode b_W_increase 60 = .ok (.return_, 1) := by decide +kernel
theorem d_W_copyFrom_0 : decode b_W_copyFrom 0 = .ok (.aload_n 1, 1) := by decide +kernel
theorem d_W_copyFrom_1 : decode b_W_copyFrom 1 = .ok (.getfield 9, 3) := by decide +kernel
theorem d_W_copyFrom_4 : decode b_W_copyFrom 4 = .ok (.iconst 0, 1) := by decide +kernel
theorem d_W_copyFrom_5 : decode b_W_copyFrom 5 = .ok (.aload_n 0, 1) := by decide +kernel
theorem d_W_copyFrom_6 : decode b_W_copyFrom 6 = .ok (.getfield 9, 3) := by decide +kernel
theorem d_W_copyFrom_9 : decode b_W_copyFrom 9 = .ok (.iconst 0, 1) := by decide +kernel
theorem d_W_copyFrom_10 : decode b_W_copyFrom 10 = .ok (.sipush 200, 3) := by decide +kernel
theorem d_W_copyFrom_13 : decode b_W_copyFrom 13 = .ok (.invokestatic 24, 3) := by decide +kernel
theorem d_W_copyFrom_16 : decode b_W_copyFrom 16 = .ok (.return_, 1) := by decide +kernel
theorem d_W_signum_0 : decode b_W_signum 0 = .ok (.aload_n 0, 1) := by decide +kernel
theorem d_W_signum_1 : decode b_W_signum 1 = .ok (.getfield 9, 3) := by decide +kernel
theorem d_W_signum_4 : decode b_W_signum 4 = .ok (.sipush 199, 3) := by decide +kernel
theorem d_W_signum_7 : decode b_W_signum 7 = .ok (.laload, 1) := by decide +kernel
theorem d_W_signum_8 : decode b_W_signum 8 = .ok (.ldc2_w 32, 3) := by decide +kernel
theorem d_W_signum_11 : decode b_W_signum 11 = .ok (.lcmp, 1) := by decide +kernel
theorem d_W_signum_12 : decode b_W_signum 12 = .ok (.ifCond .lt 5, 3) := by decide +kernel
theorem d_W_signum_15 : decode b_W_signum 15 = .ok (.iconst (-1), 1) := by decide +kernel
theorem d_W_signum_16 : decode b_W_signum 16 = .ok (.ireturn, 1) := by decide +kernel
theorem d_W_signum_17 : decode b_W_signum 17 = .ok (.aload_n 0, 1) := by decide +kernel
theorem d_W_signum_18 : decode b_W_signum 18 = .ok (.invokevirtual 34, 3) := by decide +kernel
theorem d_W_signum_21 : decode b_W_signum 21 = .ok (.ldc 38, 2) := by decide +kernel
theorem d_W_signum_23 : decode b_W_signum 23 = .ok (.if_icmp .ne 7, 3) := by decide +kernel
theorem d_W_signum_26 : decode b_W_signum 26 = .ok (.iconst 0, 1) := by decide +kernel
theorem d_W_signum_27 : decode b_W_signum 27 = .ok (.goto 4, 3) := by decide +kernel
theorem d_W_signum_30 : decode b_W_signum 30 = .ok (.iconst 1, 1) := by decide +kernel
theorem d_W_signum_31 : decode b_W_signum 31 = .ok (.ireturn, 1) := by decide +kernel
theorem d_W_highestPlace_0 : decode b_W_highestPlace 0 = .ok (.sipush 199, 3) := by decide +kernel
theorem d_W_highestPlace_3 : decode b_W_highestPlace 3 = .ok (.istore_n 1, 1) := by decide +kernel
theorem d_W_highestPlace_4 : decode b_W_highestPlace 4 = .ok (.iload_n 1, 1) := by decide +kernel
theorem d_W_highestPlace_5 : decode b_W_highestPlace 5 = .ok (.ifCond .lt 38, 3) := by decide +kernel
theorem d_W_highestPlace_8 : decode b_W_highestPlace 8 = .ok (.aload_n 0, 1) := by decide +kernel
theorem d_W_highestPlace_9 : decode b_W_highestPlace 9 = .ok (.getfield 9, 3) := by decide +kernel
theorem d_W_highestPlace_12 : decode b_W_highestPlace 12 = .ok (.iload_n 1, 1) := by decide +kernel
theorem d_W_highestPlace_13 : decode b_W_highestPlace 13 = .ok (.laload, 1) := by decide +kernel
theorem d_W_highestPlace_14 : decode b_W_highestPlace 14 = .ok (.lconst 0, 1) := by decide +kernel
theorem d_W_highestPlace_15 : decode b_W_highestPlace 15 = .ok (.lcmp, 1) := by decide +kernel
theorem d_W_highestPlace_16 : decode b_W_highestPlace 16 = .ok (.ifCond .eq 21, 3) := by decide +kernel
theorem d_W_highestPlace_19 : decode b_W_highestPlace 19 = .ok (.iload_n 1, 1) := by decide +kernel
theorem d_W_highestPlace_20 : decode b_W_highestPlace 20 = .ok (.bipush 32, 2) := by decide +kernel
theorem d_W_highestPlace_22 : decode b_W_highestPlace 22 = .ok (.imul, 1) := by decide +kernel
theorem d_W_highestPlace_23 : decode b_W_highestPlace 23 = .ok (.bipush 63, 2) := by decide +kernel
theorem d_W_highestPlace_25 : decode b_W_highestPlace 25 = .ok (.iadd, 1) := by decide +kernel
theorem d_W_highestPlace_26 : decode b_W_highestPlace 26 = .ok (.aload_n 0, 1) := by decide +kernel
theorem d_W_highestPlace_27 : decode b_W_highestPlace 27 = .ok (.getfield 9, 3) := by decide +kernel
theorem d_W_highestPlace_30 : decode b_W_highestPlace 30 = .ok (.iload_n 1, 1) := by decide +kernel
theorem d_W_highestPlace_31 : decode b_W_highestPlace 31 = .ok (.laload, 1) := by decide +kernel
theorem d_W_highestPlace_32 : decode b_W_highestPlace 32 = .ok (.invokestatic 39, 3) := by decide +kernel
theorem d_W_highestPlace_35 : decode b_W_highestPlace 35 = .ok (.isub, 1) := by decide +kernel
theorem d_W_highestPlace_36 : decode b_W_highestPlace 36 = .ok (.ireturn, 1) := by decide +kernel
theorem d_W_highestPlace_37 : decode b_W_highestPlace 37 = .ok (.iinc 1 (-1), 3) := by decide +kernel
theorem d_W_highestPlace_40 : decode b_W_highestPlace 40 = .ok (.goto (-36), 3) := by decide +kernel
theorem d_W_highestPlace_43 : decode b_W_highestPlace 43 = .ok (.ldc 38, 2) := by decide +kernel
theorem d_W_highestPlace_45 : decode b_W_highestPlace 45 = .ok (.ireturn, 1) := by decide +kernel
theorem d_J_numberOfLeadingZeros_0 : decode b_J_numberOfLeadingZeros 0 = .ok (.lload_n 0, 1) := by decide +kernel
theorem d_J_numberOfLeadingZeros_1 : decode b_J_numberOfLeadingZeros 1 = .ok (.bipush 32, 2) := by decide +kernel
theorem d_J_numberOfLeadingZeros_3 : decode b_J_numberOfLeadingZeros 3 = .ok (.lushr, 1) := by decide +kernel
theorem d_J_numberOfLeadingZeros_4 : decode b_J_numberOfLeadingZeros 4 = .ok (.l2i, 1) := by decide +kernel
theorem d_J_numberOfLeadingZeros_5 : decode b_J_numberOfLeadingZeros 5 = .ok (.istore_n 2, 1) := by decide +kernel
theorem d_J_numberOfLeadingZeros_6 : decode b_J_numberOfLeadingZeros 6 = .ok (.iload_n 2, 1) := by decide +kernel
theorem d_J_numberOfLeadingZeros_7 : decode b_J_numberOfLeadingZeros 7 = .ok (.ifCond .ne 14, 3) := by decide +kernel
theorem d_J_numberOfLeadingZeros_10 : decode b_J_numberOfLeadingZeros 10 = .ok (.bipush 32, 2) := by decide +kernel
theorem d_J_numberOfLeadingZeros_12 : decode b_J_numberOfLeadingZeros 12 = .ok (.lload_n 0, 1) := by decide +kernel
theorem d_J_numberOfLeadingZeros_13 : decode b_J_numberOfLeadingZeros 13 = .ok (.l2i, 1) := by decide +kernel
theorem d_J_numberOfLeadingZeros_14 : decode b_J_numberOfLeadingZeros 14 = .ok (.invokestatic 308, 3) := by decide +kernel
theorem d_J_numberOfLeadingZeros_17 : decode b_J_numberOfLeadingZeros 17 = .ok (.iadd, 1) := by decide +kernel
theorem d_J_numberOfLeadingZeros_18 : decode b_J_numberOfLeadingZeros 18 = .ok (.goto 7, 3) := by decide +kernel
theorem d_J_numberOfLeadingZeros_21 : decode b_J_numberOfLeadingZeros 21 = .ok (.iload_n 2, 1) := by decide +kernel
theorem d_J_numberOfLeadingZeros_22 : decode b_J_numberOfLeadingZeros 22 = .ok (.invokestatic 308, 3) := by decide +kernel
theorem d_J_numberOfLeadingZeros_25 : decode b_J_numberOfLeadingZeros 25 = .ok (.ireturn, 1) := by decide +kernel
theorem d_I_numberOfLeadingZeros_0 : decode b_I_numberOfLeadingZeros 0 = .ok (.iload_n 0, 1) := by decide +kernel
theorem d_I_numberOfLeadingZeros_1 : decode b_I_numberOfLeadingZeros 1 = .ok (.ifCond .gt 14, 3) := by decide +kernel
theorem d_I_numberOfLeadingZeros_4 : decode b_I_numberOfLeadingZeros 4 = .ok (.iload_n 0, 1) := by decide +kernel
theorem d_I_numberOfLeadingZeros_5 : decode b_I_numberOfLeadingZeros 5 = .ok (.ifCond .ne 8, 3) := by decide +kernel
theorem d_I_numberOfLeadingZeros_8 : decode b_I_numberOfLeadingZeros 8 = .ok (.bipush 32, 2) := by decide +kernel
theorem d_I_numberOfLeadingZeros_10 : decode b_I_numberOfLeadingZeros 10 = .ok (.goto 4, 3) := by decide +kernel
theorem d_I_numberOfLeadingZeros_13 : decode b_I_numberOfLeadingZeros 13 = .ok (.iconst 0, 1) := by decide +kernel
theorem d_I_numberOfLeadingZeros_14 : decode b_I_numberOfLeadingZeros 14 = .ok (.ireturn, 1) := by decide +kernel
theorem d_I_numberOfLeadingZeros_15 : decode b_I_numberOfLeadingZeros 15 = .ok (.bipush 31, 2) := by decide +kernel
theorem d_I_numberOfLeadingZeros_17 : decode b_I_numberOfLeadingZeros 17 = .ok (.istore_n 1, 1) := by decide +kernel
theorem d_I_numberOfLeadingZeros_18 : decode b_I_numberOfLeadingZeros 18 = .ok (.iload_n 0, 1) := by decide +kernel
theorem d_I_numberOfLeadingZeros_19 : decode b_I_numberOfLeadingZeros 19 = .ok (.ldc_w 264, 3) := by decide +kernel
theorem d_I_numberOfLeadingZeros_22 : decode b_I_numberOfLeadingZeros 22 = .ok (.if_icmp .lt 11, 3) := by decide +kernel
theorem d_I_numberOfLeadingZeros_25 : decode b_I_numberOfLeadingZeros 25 = .ok (.iinc 1 (-16), 3) := by decide +kernel
theorem d_I_numberOfLeadingZeros_28 : decode b_I_numberOfLeadingZeros 28 = .ok (.iload_n 0, 1) := by decide +kernel
theorem d_I_numberOfLeadingZeros_29 : decode b_I_numberOfLeadingZeros 29 = .ok (.bipush 16, 2) := by decide +kernel
theorem d_I_numberOfLeadingZeros_31 : decode b_I_numberOfLeadingZeros 31 = .ok (.iushr, 1) := by decide +kernel
theorem d_I_numberOfLeadingZeros_32 : decode b_I_numberOfLeadingZeros 32 = .ok (.istore_n 0, 1) := by decide +kernel
theorem d_I_numberOfLeadingZeros_33 : decode b_I_numberOfLeadingZeros 33 = .ok (.iload_n 0, 1) := by decide +kernel
theorem d_I_numberOfLeadingZeros_34 : decode b_I_numberOfLeadingZeros 34 = .ok (.sipush 256, 3) := by decide +kernel
theorem d_I_numberOfLeadingZeros_37 : decode b_I_numberOfLeadingZeros 37 = .ok (.if_icmp .lt 11, 3) := by decide +kernel
theorem d_I_numberOfLeadingZeros_40 : decode b_I_numberOfLeadingZeros 40 = .ok (.iinc 1 (-8), 3) := by decide +kernel
theorem d_I_numberOfLeadingZeros_43 : decode b_I_numberOfLeadingZeros 43 = .ok (.iload_n 0, 1) := by decide +kernel
theorem d_I_numberOfLeadingZeros_44 : decode b_I_numberOfLeadingZeros 44 = .ok (.bipush 8, 2) := by decide +kernel
theorem d_I_numberOfLeadingZeros_46 : decode b_I_numberOfLeadingZeros 46 = .ok (.iushr, 1) := by decide +kernel
theorem d_I_numberOfLeadingZeros_47 : decode b_I_numberOfLeadingZeros 47 = .ok (.istore_n 0, 1) := by decide +kernel
theorem d_I_numberOfLeadingZeros_48 : decode b_I_numberOfLeadingZeros 48 = .ok (.iload_n 0, 1) := by decide +kernel
theorem d_I_numberOfLeadingZeros_49 : decode b_I_numberOfLeadingZeros 49 = .ok (.bipush 16, 2) := by decide +kernel
theorem d_I_numberOfLeadingZeros_51 : decode b_I_numberOfLeadingZeros 51 = .ok (.if_icmp .lt 10, 3) := by decide +kernel
theorem d_I_numberOfLeadingZeros_54 : decode b_I_numberOfLeadingZeros 54 = .ok (.iinc 1 (-4), 3) := by decide +kernel
theorem d_I_numberOfLeadingZeros_57 : decode b_I_numberOfLeadingZeros 57 = .ok (.iload_n 0, 1) := by decide +kernel
theorem d_I_numberOfLeadingZeros_58 : decode b_I_numberOfLeadingZeros 58 = .ok (.iconst 4, 1) := by decide +kernel
theorem d_I_numberOfLeadingZeros_59 : decode b_I_numberOfLeadingZeros 59 = .ok (.iushr, 1) := by decide +kernel
theorem d_I_numberOfLeadingZeros_60 : decode b_I_numberOfLeadingZeros 60 = .ok (.istore_n 0, 1) := by decide +kernel
theorem d_I_numberOfLeadingZeros_61 : decode b_I_numberOfLeadingZeros 61 = .ok (.iload_n 0, 1) := by decide +kernel
theorem d_I_numberOfLeadingZeros_62 : decode b_I_numberOfLeadingZeros 62 = .ok (.iconst 4, 1) := by decide +kernel
theorem d_I_numberOfLeadingZeros_63 : decode b_I_numberOfLeadingZeros 63 = .ok (.if_icmp .lt 10, 3) := by decide +kernel
theorem d_I_numberOfLeadingZeros_66 : decode b_I_numberOfLeadingZeros 66 = .ok (.iinc 1 (-2), 3) := by decide +kernel
theorem d_I_numberOfLeadingZeros_69 : decode b_I_numberOfLeadingZeros 69 = .ok (.iload_n 0, 1) := by decide +kernel
theorem d_I_numberOfLeadingZeros_70 : decode b_I_numberOfLeadingZeros 70 = .ok (.iconst 2, 1) := by decide +kernel
theorem d_I_numberOfLeadingZeros_71 : decode b_I_numberOfLeadingZeros 71 = .ok (.iushr, 1) := by decide +kernel
theorem d_I_numberOfLeadingZeros_72 : decode b_I_numberOfLeadingZeros 72 = .ok (.istore_n 0, 1) := by decide +kernel
theorem d_I_numberOfLeadingZeros_73 : decode b_I_numberOfLeadingZeros 73 = .ok (.iload_n 1, 1) := by decide +kernel
theorem d_I_numberOfLeadingZeros_74 : decode b_I_numberOfLeadingZeros 74 = .ok (.iload_n 0, 1) := by decide +kernel
theorem d_I_numberOfLeadingZeros_75 : decode b_I_numberOfLeadingZeros 75 = .ok (.iconst 1, 1) := by decide +kernel
theorem d_I_numberOfLeadingZeros_76 : decode b_I_numberOfLeadingZeros 76 = .ok (.iushr, 1) := by decide +kernel
theorem d_I_numberOfLeadingZeros_77 : decode b_I_numberOfLeadingZeros 77 = .ok (.isub, 1) := by decide +kernel
theorem d_I_numberOfLeadingZeros_78 : decode b_I_numberOfLeadingZeros 78 = .ok (.ireturn, 1) := by decide +kernel
theorem d_W_wordFrom_0 : decode b_W_wordFrom 0 = .ok (.lload_n 1, 1) := by decide +kernel
theorem d_W_wordFrom_1 : decode b_W_wordFrom 1 = .ok (.iconst 5, 1) := by decide +kernel
theorem d_W_wordFrom_2 : decode b_W_wordFrom 2 = .ok (.lshr, 1) := by decide +kernel
theorem d_W_wordFrom_3 : decode b_W_wordFrom 3 = .ok (.l2i, 1) := by decide +kernel
theorem d_W_wordFrom_4 : decode b_W_wordFrom 4 = .ok (.istore_n 3, 1) := by decide +kernel
theorem d_W_wordFrom_5 : decode b_W_wordFrom 5 = .ok (.lload_n 1, 1) := by decide +kernel
theorem d_W_wordFrom_6 : decode b_W_wordFrom 6 = .ok (.ldc2_w 48, 3) := by decide +kernel
theorem d_W_wordFrom_9 : decode b_W_wordFrom 9 = .ok (.land, 1) := by decide +kernel
theorem d_W_wordFrom_10 : decode b_W_wordFrom 10 = .ok (.l2i, 1) := by decide +kernel
theorem d_W_wordFrom_11 : decode b_W_wordFrom 11 = .ok (.istore 4, 2) := by decide +kernel
theorem d_W_wordFrom_13 : decode b_W_wordFrom 13 = .ok (.aload_n 0, 1) := by decide +kernel
theorem d_W_wordFrom_14 : decode b_W_wordFrom 14 = .ok (.iload_n 3, 1) := by decide +kernel
theorem d_W_wordFrom_15 : decode b_W_wordFrom 15 = .ok (.invokevirtual 50, 3) := by decide +kernel
theorem d_W_wordFrom_18 : decode b_W_wordFrom 18 = .ok (.aload_n 0, 1) := by decide +kernel
theorem d_W_wordFrom_19 : decode b_W_wordFrom 19 = .ok (.iload_n 3, 1) := by decide +kernel
theorem d_W_wordFrom_20 : decode b_W_wordFrom 20 = .ok (.iconst 1, 1) := by decide +kernel
theorem d_W_wordFrom_21 : decode b_W_wordFrom 21 = .ok (.iadd, 1) := by decide +kernel
theorem d_W_wordFrom_22 : decode b_W_wordFrom 22 = .ok (.invokevirtual 50, 3) := by decide +kernel
theorem d_W_wordFrom_25 : decode b_W_wordFrom 25 = .ok (.bipush 32, 2) := by decide +kernel
theorem d_W_wordFrom_27 : decode b_W_wordFrom 27 = .ok (.lshl, 1) := by decide +kernel
theorem d_W_wordFrom_28 : decode b_W_wordFrom 28 = .ok (.lor, 1) := by decide +kernel
theorem d_W_wordFrom_29 : decode b_W_wordFrom 29 = .ok (.lstore 5, 2) := by decide +kernel
theorem d_W_wordFrom_31 : decode b_W_wordFrom 31 = .ok (.iload 4, 2) := by decide +kernel
theorem d_W_wordFrom_33 : decode b_W_wordFrom 33 = .ok (.ifCond .ne 8, 3) := by decide +kernel
theorem d_W_wordFrom_36 : decode b_W_wordFrom 36 = .ok (.lload 5, 2) := by decide +kernel
theorem d_W_wordFrom_38 : decode b_W_wordFrom 38 = .ok (.goto 22, 3) := by decide +kernel
theorem d_W_wordFrom_41 : decode b_W_wordFrom 41 = .ok (.lload 5, 2) := by decide +kernel
theorem d_W_wordFrom_43 : decode b_W_wordFrom 43 = .ok (.iload 4, 2) := by decide +kernel
theorem d_W_wordFrom_45 : decode b_W_wordFrom 45 = .ok (.lushr, 1) := by decide +kernel
theorem d_W_wordFrom_46 : decode b_W_wordFrom 46 = .ok (.aload_n 0, 1) := by decide +kernel
theorem d_W_wordFrom_47 : decode b_W_wordFrom 47 = .ok (.iload_n 3, 1) := by decide +kernel
theorem d_W_wordFrom_48 : decode b_W_wordFrom 48 = .ok (.iconst 2, 1) := by decide +kernel
theorem d_W_wordFrom_49 : decode b_W_wordFrom 49 = .ok (.iadd, 1) := by decide +kernel
theorem d_W_wordFrom_50 : decode b_W_wordFrom 50 = .ok (.invokevirtual 50, 3) := by decide +kernel
theorem d_W_wordFrom_53 : decode b_W_wordFrom 53 = .ok (.bipush 64, 2) := by decide +kernel
theorem d_W_wordFrom_55 : decode b_W_wordFrom 55 = .ok (.iload 4, 2) := by decide +kernel
theorem d_W_wordFrom_57 : decode b_W_wordFrom 57 = .ok (.isub, 1) := by decide +kernel
theorem d_W_wordFrom_58 : decode b_W_wordFrom 58 = .ok (.lshl, 1) := by decide +kernel
theorem d_W_wordFrom_59 : decode b_W_wordFrom 59 = .ok (.lor, 1) := by decide +kernel
theorem d_W_wordFrom_60 : decode b_W_wordFrom 60 = .ok (.lreturn, 1) := by decide +kernel
theorem d_W_limbAt_0 : decode b_W_limbAt 0 = .ok (.iload_n 1, 1) := by decide +kernel
theorem d_W_limbAt_1 : decode b_W_limbAt 1 = .ok (.ifCond .lt 19, 3) := by decide +kernel
theorem d_W_limbAt_4 : decode b_W_limbAt 4 = .ok (.iload_n 1, 1) := by decide +kernel
theorem d_W_limbAt_5 : decode b_W_limbAt 5 = .ok (.sipush 200, 3) := by decide +kernel
theorem d_W_limbAt_8 : decode b_W_limbAt 8 = .ok (.if_icmp .ge 12, 3) := by decide +kernel
theorem d_W_limbAt_11 : decode b_W_limbAt 11 = .ok (.aload_n 0, 1) := by decide +kernel
theorem d_W_limbAt_12 : decode b_W_limbAt 12 = .ok (.getfield 9, 3) := by decide +kernel
theorem d_W_limbAt_15 : decode b_W_limbAt 15 = .ok (.iload_n 1, 1) := by decide +kernel
theorem d_W_limbAt_16 : decode b_W_limbAt 16 = .ok (.laload, 1) := by decide +kernel
theorem d_W_limbAt_17 : decode b_W_limbAt 17 = .ok (.goto 4, 3) := by decide +kernel
theorem d_W_limbAt_20 : decode b_W_limbAt 20 = .ok (.lconst 0, 1) := by decide +kernel
theorem d_W_limbAt_21 : decode b_W_limbAt 21 = .ok (.lreturn, 1) := by decide +kernel
theorem d_W_lowestPlace_0 : decode b_W_lowestPlace 0 = .ok (.iconst 0, 1) := by decide +kernel
theorem d_W_lowestPlace_1 : decode b_W_lowestPlace 1 = .ok (.istore_n 1, 1) := by decide +kernel
theorem d_W_lowestPlace_2 : decode b_W_lowestPlace 2 = .ok (.iload_n 1, 1) := by decide +kernel
theorem d_W_lowestPlace_3 : decode b_W_lowestPlace 3 = .ok (.sipush 200, 3) := by decide +kernel
theorem d_W_lowestPlace_6 : decode b_W_lowestPlace 6 = .ok (.if_icmp .ge 35, 3) := by decide +kernel
theorem d_W_lowestPlace_9 : decode b_W_lowestPlace 9 = .ok (.aload_n 0, 1) := by decide +kernel
theorem d_W_lowestPlace_10 : decode b_W_lowestPlace 10 = .ok (.getfield 9, 3) := by decide +kernel
theorem d_W_lowestPlace_13 : decode b_W_lowestPlace 13 = .ok (.iload_n 1, 1) := by decide +kernel
theorem d_W_lowestPlace_14 : decode b_W_lowestPlace 14 = .ok (.laload, 1) := by decide +kernel
theorem d_W_lowestPlace_15 : decode b_W_lowestPlace 15 = .ok (.lconst 0, 1) := by decide +kernel
theorem d_W_lowestPlace_16 : decode b_W_lowestPlace 16 = .ok (.lcmp, 1) := by decide +kernel
theorem d_W_lowestPlace_17 : decode b_W_lowestPlace 17 = .ok (.ifCond .eq 18, 3) := by decide +kernel
theorem d_W_lowestPlace_20 : decode b_W_lowestPlace 20 = .ok (.iload_n 1, 1) := by decide +kernel
theorem d_W_lowestPlace_21 : decode b_W_lowestPlace 21 = .ok (.bipush 32, 2) := by decide +kernel
theorem d_W_lowestPlace_23 : decode b_W_lowestPlace 23 = .ok (.imul, 1) := by decide +kernel
theorem d_W_lowestPlace_24 : decode b_W_lowestPlace 24 = .ok (.aload_n 0, 1) := by decide +kernel
theorem d_W_lowestPlace_25 : decode b_W_lowestPlace 25 = .ok (.getfield 9, 3) := by decide +kernel
theorem d_W_lowestPlace_28 : decode b_W_lowestPlace 28 = .ok (.iload_n 1, 1) := by decide +kernel
theorem d_W_lowestPlace_29 : decode b_W_lowestPlace 29 = .ok (.laload, 1) := by decide +kernel
theorem d_W_lowestPlace_30 : decode b_W_lowestPlace 30 = .ok (.invokestatic 45, 3) := by decide +kernel
theorem d_W_lowestPlace_33 : decode b_W_lowestPlace 33 = .ok (.iadd, 1) := by decide +kernel
theorem d_W_lowestPlace_34 : decode b_W_lowestPlace 34 = .ok (.ireturn, 1) := by decide +kernel
theorem d_W_lowestPlace_35 : decode b_W_lowestPlace 35 = .ok (.iinc 1 1, 3) := by decide +kernel
theorem d_W_lowestPlace_38 : decode b_W_lowestPlace 38 = .ok (.goto (-36), 3) := by decide +kernel
theorem d_W_lowestPlace_41 : decode b_W_lowestPlace 41 = .ok (.ldc 38, 2) := by decide +kernel
theorem d_W_lowestPlace_43 : decode b_W_lowestPlace 43 = .ok (.ireturn, 1) := by decide +kernel
theorem d_J_numberOfTrailingZeros_0 : decode b_J_numberOfTrailingZeros 0 = .ok (.lload_n 0, 1) := by decide +kernel
theorem d_J_numberOfTrailingZeros_1 : decode b_J_numberOfTrailingZeros 1 = .ok (.l2i, 1) := by decide +kernel
theorem d_J_numberOfTrailingZeros_2 : decode b_J_numberOfTrailingZeros 2 = .ok (.istore_n 2, 1) := by decide +kernel
theorem d_J_numberOfTrailingZeros_3 : decode b_J_numberOfTrailingZeros 3 = .ok (.iload_n 2, 1) := by decide +kernel
theorem d_J_numberOfTrailingZeros_4 : decode b_J_numberOfTrailingZeros 4 = .ok (.ifCond .ne 17, 3) := by decide +kernel
theorem d_J_numberOfTrailingZeros_7 : decode b_J_numberOfTrailingZeros 7 = .ok (.bipush 32, 2) := by decide +kernel
theorem d_J_numberOfTrailingZeros_9 : decode b_J_numberOfTrailingZeros 9 = .ok (.lload_n 0, 1) := by decide +kernel
theorem d_J_numberOfTrailingZeros_10 : decode b_J_numberOfTrailingZeros 10 = .ok (.bipush 32, 2) := by decide +kernel
theorem d_J_numberOfTrailingZeros_12 : decode b_J_numberOfTrailingZeros 12 = .ok (.lushr, 1) := by decide +kernel
theorem d_J_numberOfTrailingZeros_13 : decode b_J_numberOfTrailingZeros 13 = .ok (.l2i, 1) := by decide +kernel
theorem d_J_numberOfTrailingZeros_14 : decode b_J_numberOfTrailingZeros 14 = .ok (.invokestatic 311, 3) := by decide +kernel
theorem d_J_numberOfTrailingZeros_17 : decode b_J_numberOfTrailingZeros 17 = .ok (.iadd, 1) := by decide +kernel
theorem d_J_numberOfTrailingZeros_18 : decode b_J_numberOfTrailingZeros 18 = .ok (.goto 7, 3) := by decide +kernel
theorem d_J_numberOfTrailingZeros_21 : decode b_J_numberOfTrailingZeros 21 = .ok (.iload_n 2, 1) := by decide +kernel
theorem d_J_numberOfTrailingZeros_22 : decode b_J_numberOfTrailingZeros 22 = .ok (.invokestatic 311, 3) := by decide +kernel
theorem d_J_numberOfTrailingZeros_25 : decode b_J_numberOfTrailingZeros 25 = .ok (.ireturn, 1) := by decide +kernel
theorem d_I_numberOfTrailingZeros_0 : decode b_I_numberOfTrailingZeros 0 = .ok (.iload_n 0, 1) := by decide +kernel
theorem d_I_numberOfTrailingZeros_1 : decode b_I_numberOfTrailingZeros 1 = .ok (.iconst (-1), 1) := by decide +kernel
theorem d_I_numberOfTrailingZeros_2 : decode b_I_numberOfTrailingZeros 2 = .ok (.ixor, 1) := by decide +kernel
theorem d_I_numberOfTrailingZeros_3 : decode b_I_numberOfTrailingZeros 3 = .ok (.iload_n 0, 1) := by decide +kernel
theorem d_I_numberOfTrailingZeros_4 : decode b_I_numberOfTrailingZeros 4 = .ok (.iconst 1, 1) := by decide +kernel
theorem d_I_numberOfTrailingZeros_5 : decode b_I_numberOfTrailingZeros 5 = .ok (.isub, 1) := by decide +kernel
theorem d_I_numberOfTrailingZeros_6 : decode b_I_numberOfTrailingZeros 6 = .ok (.iand, 1) := by decide +kernel
theorem d_I_numberOfTrailingZeros_7 : decode b_I_numberOfTrailingZeros 7 = .ok (.istore_n 0, 1) := by decide +kernel
theorem d_I_numberOfTrailingZeros_8 : decode b_I_numberOfTrailingZeros 8 = .ok (.iload_n 0, 1) := by decide +kernel
theorem d_I_numberOfTrailingZeros_9 : decode b_I_numberOfTrailingZeros 9 = .ok (.ifCond .gt 8, 3) := by decide +kernel
theorem d_I_numberOfTrailingZeros_12 : decode b_I_numberOfTrailingZeros 12 = .ok (.iload_n 0, 1) := by decide +kernel
theorem d_I_numberOfTrailingZeros_13 : decode b_I_numberOfTrailingZeros 13 = .ok (.bipush 32, 2) := by decide +kernel
theorem d_I_numberOfTrailingZeros_15 : decode b_I_numberOfTrailingZeros 15 = .ok (.iand, 1) := by decide +kernel
theorem d_I_numberOfTrailingZeros_16 : decode b_I_numberOfTrailingZeros 16 = .ok (.ireturn, 1) := by decide +kernel
theorem d_I_numberOfTrailingZeros_17 : decode b_I_numberOfTrailingZeros 17 = .ok (.iconst 1, 1) := by decide +kernel
theorem d_I_numberOfTrailingZeros_18 : decode b_I_numberOfTrailingZeros 18 = .ok (.istore_n 1, 1) := by decide +kernel
theorem d_I_numberOfTrailingZeros_19 : decode b_I_numberOfTrailingZeros 19 = .ok (.iload_n 0, 1) := by decide +kernel
theorem d_I_numberOfTrailingZeros_20 : decode b_I_numberOfTrailingZeros 20 = .ok (.ldc_w 264, 3) := by decide +kernel
theorem d_I_numberOfTrailingZeros_23 : decode b_I_numberOfTrailingZeros 23 = .ok (.if_icmp .le 11, 3) := by decide +kernel
theorem d_I_numberOfTrailingZeros_26 : decode b_I_numberOfTrailingZeros 26 = .ok (.iinc 1 16, 3) := by decide +kernel
theorem d_I_numberOfTrailingZeros_29 : decode b_I_numberOfTrailingZeros 29 = .ok (.iload_n 0, 1) := by decide +kernel
theorem d_I_numberOfTrailingZeros_30 : decode b_I_numberOfTrailingZeros 30 = .ok (.bipush 16, 2) := by decide +kernel
theorem d_I_numberOfTrailingZeros_32 : decode b_I_numberOfTrailingZeros 32 = .ok (.iushr, 1) := by decide +kernel
theorem d_I_numberOfTrailingZeros_33 : decode b_I_numberOfTrailingZeros 33 = .ok (.istore_n 0, 1) := by decide +kernel
theorem d_I_numberOfTrailingZeros_34 : decode b_I_numberOfTrailingZeros 34 = .ok (.iload_n 0, 1) := by decide +kernel
theorem d_I_numberOfTrailingZeros_35 : decode b_I_numberOfTrailingZeros 35 = .ok (.sipush 256, 3) := by decide +kernel
theorem d_I_numberOfTrailingZeros_38 : decode b_I_numberOfTrailingZeros 38 = .ok (.if_icmp .le 11, 3) := by decide +kernel
theorem d_I_numberOfTrailingZeros_41 : decode b_I_numberOfTrailingZeros 41 = .ok (.iinc 1 8, 3) := by decide +kernel
theorem d_I_numberOfTrailingZeros_44 : decode b_I_numberOfTrailingZeros 44 = .ok (.iload_n 0, 1) := by decide +kernel
theorem d_I_numberOfTrailingZeros_45 : decode b_I_numberOfTrailingZeros 45 = .ok (.bipush 8, 2) := by decide +kernel
theorem d_I_numberOfTrailingZeros_47 : decode b_I_numberOfTrailingZeros 47 = .ok (.iushr, 1) := by decide +kernel
theorem d_I_numberOfTrailingZeros_48 : decode b_I_numberOfTrailingZeros 48 = .ok (.istore_n 0, 1) := by decide +kernel
theorem d_I_numberOfTrailingZeros_49 : decode b_I_numberOfTrailingZeros 49 = .ok (.iload_n 0, 1) := by decide +kernel
theorem d_I_numberOfTrailingZeros_50 : decode b_I_numberOfTrailingZeros 50 = .ok (.bipush 16, 2) := by decide +kernel
theorem d_I_numberOfTrailingZeros_52 : decode b_I_numberOfTrailingZeros 52 = .ok (.if_icmp .le 10, 3) := by decide +kernel
theorem d_I_numberOfTrailingZeros_55 : decode b_I_numberOfTrailingZeros 55 = .ok (.iinc 1 4, 3) := by decide +kernel
theorem d_I_numberOfTrailingZeros_58 : decode b_I_numberOfTrailingZeros 58 = .ok (.iload_n 0, 1) := by decide +kernel
theorem d_I_numberOfTrailingZeros_59 : decode b_I_numberOfTrailingZeros 59 = .ok (.iconst 4, 1) := by decide +kernel
theorem d_I_numberOfTrailingZeros_60 : decode b_I_numberOfTrailingZeros 60 = .ok (.iushr, 1) := by decide +kernel
theorem d_I_numberOfTrailingZeros_61 : decode b_I_numberOfTrailingZeros 61 = .ok (.istore_n 0, 1) := by decide +kernel
theorem d_I_numberOfTrailingZeros_62 : decode b_I_numberOfTrailingZeros 62 = .ok (.iload_n 0, 1) := by decide +kernel
theorem d_I_numberOfTrailingZeros_63 : decode b_I_numberOfTrailingZeros 63 = .ok (.iconst 4, 1) := by decide +kernel
theorem d_I_numberOfTrailingZeros_64 : decode b_I_numberOfTrailingZeros 64 = .ok (.if_icmp .le 10, 3) := by decide +kernel
theorem d_I_numberOfTrailingZeros_67 : decode b_I_numberOfTrailingZeros 67 = .ok (.iinc 1 2, 3) := by decide +kernel
theorem d_I_numberOfTrailingZeros_70 : decode b_I_numberOfTrailingZeros 70 = .ok (.iload_n 0, 1) := by decide +kernel
theorem d_I_numberOfTrailingZeros_71 : decode b_I_numberOfTrailingZeros 71 = .ok (.iconst 2, 1) := by decide +kernel
theorem d_I_numberOfTrailingZeros_72 : decode b_I_numberOfTrailingZeros 72 = .ok (.iushr, 1) := by decide +kernel
theorem d_I_numberOfTrailingZeros_73 : decode b_I_numberOfTrailingZeros 73 = .ok (.istore_n 0, 1) := by decide +kernel
theorem d_I_numberOfTrailingZeros_74 : decode b_I_numberOfTrailingZeros 74 = .ok (.iload_n 1, 1) := by decide +kernel
theorem d_I_numberOfTrailingZeros_75 : decode b_I_numberOfTrailingZeros 75 = .ok (.iload_n 0, 1) := by decide +kernel
theorem d_I_numberOfTrailingZeros_76 : decode b_I_numberOfTrailingZeros 76 = .ok (.iconst 1, 1) := by decide +kernel
theorem d_I_numberOfTrailingZeros_77 : decode b_I_numberOfTrailingZeros 77 = .ok (.iushr, 1) := by decide +kernel
theorem d_I_numberOfTrailingZeros_78 : decode b_I_numberOfTrailingZeros 78 = .ok (.iadd, 1) := by decide +kernel
theorem d_I_numberOfTrailingZeros_79 : decode b_I_numberOfTrailingZeros 79 = .ok (.ireturn, 1) := by decide +kernel
