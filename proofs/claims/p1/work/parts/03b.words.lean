set_option maxRecDepth 20000 in
theorem ggX0_init_X0_clear : GoodIn wsX0_init wsX0_clear := goodIn_r _ [10, 11, 5, 12, 13] (by decide +kernel) (by decide +kernel)
set_option maxRecDepth 20000 in
theorem gX0_init_X0_clear : GoodIn wsX0_init (wsV RX0 15 RX0 yX0_clear wsX0_clear) := goodIn_app (goodIn_of _ (by decide +kernel)) ggX0_init_X0_clear
set_option maxRecDepth 20000 in
theorem ggX0_readFrom_X0_clear : GoodIn wsX0_readFrom wsX0_clear := goodIn_r _ [5, 6, 7, 72, 73] (by decide +kernel) (by decide +kernel)
set_option maxRecDepth 20000 in
theorem gX0_readFrom_X0_clear : GoodIn wsX0_readFrom (wsV RX0 15 RX0 yX0_clear wsX0_clear) := goodIn_app (goodIn_of _ (by decide +kernel)) ggX0_readFrom_X0_clear
set_option maxRecDepth 20000 in
theorem ggX0_readFrom_X8_isFaulty : GoodIn wsX0_readFrom wsX8_isFaulty := goodIn_r _ [12, 13, 74, 75, 76, 77, 78, 79, 80] (by decide +kernel) (by decide +kernel)
set_option maxRecDepth 20000 in
theorem gX0_readFrom_X8_isFaulty : GoodIn wsX0_readFrom (wsV RX0 22 RX8 yX8_isFaulty wsX8_isFaulty) := goodIn_app (goodIn_of _ (by decide +kernel)) ggX0_readFrom_X8_isFaulty
set_option maxRecDepth 20000 in
theorem ggX0_readFrom_X8_isEnded : GoodIn wsX0_readFrom wsX8_isEnded := goodIn_r _ [17, 18, 19, 20, 21, 22, 11, 23, 24, 74, 75, 76, 77, 78, 79, 80] (by decide +kernel) (by decide +kernel)
set_option maxRecDepth 20000 in
theorem gX0_readFrom_X8_isEnded : GoodIn wsX0_readFrom (wsV RX0 28 RX8 yX8_isEnded wsX8_isEnded) := goodIn_app (goodIn_of _ (by decide +kernel)) ggX0_readFrom_X8_isEnded
set_option maxRecDepth 20000 in
theorem ggX1_init_X1_begin : GoodIn wsX1_init wsX1_begin := goodIn_r _ [11, 12, 13, 5, 14, 15, 16, 17, 18, 19, 20, 21, 22, 23, 24, 25, 26, 27, 28, 29, 30, 31, 32, 33, 34, 35, 36, 37] (by decide +kernel) (by decide +kernel)
set_option maxRecDepth 20000 in
theorem gX1_init_X1_begin : GoodIn wsX1_init (wsV RX1 20 RX1 yX1_begin wsX1_begin) := goodIn_app (goodIn_of _ (by decide +kernel)) ggX1_init_X1_begin
set_option maxRecDepth 20000 in
theorem ggX1_passDay_X1_strike : GoodIn wsX1_passDay wsX1_strike := goodIn_r _ [11, 1, 2, 3, 12, 13, 14, 15, 10, 16, 17, 18, 19, 20, 21, 22, 23, 24, 25, 26, 27, 28, 29, 30, 4, 5, 6, 31, 32, 33, 34, 35, 36, 37, 38, 39, 40, 41, 42, 43, 44, 45, 46, 47, 48, 49, 50, 51, 52, 53, 54] (by decide +kernel) (by decide +kernel)
set_option maxRecDepth 20000 in
theorem gX1_passDay_X1_strike : GoodIn wsX1_passDay (wsV RX1 124 RX1 yX1_strike wsX1_strike) := goodIn_app (goodIn_of _ (by decide +kernel)) ggX1_passDay_X1_strike
set_option maxRecDepth 20000 in
theorem ggX1_strike_X1_endangered : GoodIn wsX1_strike wsX1_endangered := goodIn_r _ [9, 1, 2, 10, 11, 12, 8, 13, 3, 14, 15, 16, 17, 18, 19, 20, 21, 22, 23, 24, 25, 26, 27, 28, 29, 30, 35, 36, 37, 38, 39, 40, 41, 42, 43, 44, 45, 46, 47, 48, 49, 50] (by decide +kernel) (by decide +kernel)
set_option maxRecDepth 20000 in
theorem gX1_strike_X1_endangered : GoodIn wsX1_strike (wsV RX1 127 RX1 yX1_endangered wsX1_endangered) := goodIn_app (goodIn_of _ (by decide +kernel)) ggX1_strike_X1_endangered
set_option maxRecDepth 20000 in
theorem ggX1_drawDays_X1_passDay : GoodIn wsX1_drawDays wsX1_passDay := goodIn_r _ [135, 1, 2, 24, 136, 137, 138, 139, 140, 141, 6, 142, 143, 144, 145, 146, 147, 20, 21, 22, 23, 25, 26, 27, 28, 148, 149, 150, 32, 151, 152, 60, 61, 62, 63, 153, 154, 155, 156, 157, 158, 159, 160, 161, 162, 163, 164, 165, 166, 167, 168, 169, 170, 171, 172] (by decide +kernel) (by decide +kernel)
set_option maxRecDepth 20000 in
theorem gX1_drawDays_X1_passDay : GoodIn wsX1_drawDays (wsV RX1 152 RX1 yX1_passDay wsX1_passDay) := goodIn_app (goodIn_of _ (by decide +kernel)) ggX1_drawDays_X1_passDay
set_option maxRecDepth 20000 in
theorem ggX2_readFrom_X8_isFaulty : GoodIn wsX2_readFrom wsX8_isFaulty := goodIn_r _ [9, 10, 170, 171, 172, 173, 174, 175, 176] (by decide +kernel) (by decide +kernel)
set_option maxRecDepth 20000 in
theorem gX2_readFrom_X8_isFaulty : GoodIn wsX2_readFrom (wsV RX2 46 RX8 yX8_isFaulty wsX8_isFaulty) := goodIn_app (goodIn_of _ (by decide +kernel)) ggX2_readFrom_X8_isFaulty
set_option maxRecDepth 20000 in
theorem ggX2_readFrom_X8_isEnded : GoodIn wsX2_readFrom wsX8_isEnded := goodIn_r _ [14, 15, 16, 17, 18, 19, 8, 20, 21, 170, 171, 172, 173, 174, 175, 176] (by decide +kernel) (by decide +kernel)
set_option maxRecDepth 20000 in
theorem gX2_readFrom_X8_isEnded : GoodIn wsX2_readFrom (wsV RX2 52 RX8 yX8_isEnded wsX8_isEnded) := goodIn_app (goodIn_of _ (by decide +kernel)) ggX2_readFrom_X8_isEnded
set_option maxRecDepth 20000 in
theorem ggX2_readFrom_X2_findSafe : GoodIn wsX2_readFrom wsX2_findSafe := goodIn_r _ [149, 150, 1, 151, 152, 153, 25, 154, 3, 90, 139, 155, 156, 108, 157, 91, 140, 158, 159, 160, 161, 162, 163, 164, 165, 166, 167, 168, 169] (by decide +kernel) (by decide +kernel)
set_option maxRecDepth 20000 in
theorem gX2_readFrom_X2_findSafe : GoodIn wsX2_readFrom (wsV RX2 59 RX2 yX2_findSafe wsX2_findSafe) := goodIn_app (goodIn_of _ (by decide +kernel)) ggX2_readFrom_X2_findSafe
set_option maxRecDepth 20000 in
theorem ggX4_init_X4_setPlain : GoodIn wsX4_init wsX4_setPlain := goodIn_r _ [13, 14, 15, 16, 17, 12, 18, 5, 6, 19, 20, 21, 22, 23] (by decide +kernel) (by decide +kernel)
set_option maxRecDepth 20000 in
theorem gX4_init_X4_setPlain : GoodIn wsX4_init (wsV RX4 24 RX4 yX4_setPlain wsX4_setPlain) := goodIn_app (goodIn_of _ (by decide +kernel)) ggX4_init_X4_setPlain
set_option maxRecDepth 20000 in
theorem ggX4_setPlain_X4_add : GoodIn wsX4_setPlain wsX4_add := goodIn_r _ [6, 1, 7, 8, 9, 10, 11, 12, 13] (by decide +kernel) (by decide +kernel)
set_option maxRecDepth 20000 in
theorem gX4_setPlain_X4_add : GoodIn wsX4_setPlain (wsV RX4 31 RX4 yX4_add wsX4_add) := goodIn_app (goodIn_of _ (by decide +kernel)) ggX4_setPlain_X4_add
set_option maxRecDepth 20000 in
theorem ggX4_readFrom_X4_readSum : GoodIn wsX4_readFrom wsX4_readSum := goodIn_r _ [6, 7, 8, 9, 5, 10, 11, 12, 13, 14, 15, 16, 17, 18, 19, 20, 21, 22, 23, 24, 25, 26, 27, 28, 29, 30, 31, 32, 1, 33, 34, 35, 36, 37, 38, 39, 40, 41, 42, 43, 44, 2, 3, 4, 45, 46, 47, 48, 49, 50, 51, 52, 53, 54, 55, 56, 57, 58, 59, 60, 61, 62, 63, 64, 65, 66, 67, 68, 69, 70, 71, 72, 73, 74, 75, 76, 77, 78, 79, 80, 81, 82, 83, 84, 85, 86, 87, 88, 89, 90, 91, 92, 93, 94, 95, 96, 97, 98, 99, 100, 101, 102, 103, 104, 105, 106, 107, 108, 109, 110, 111, 112, 113, 114, 115, 116, 117, 118, 119, 120, 121, 122, 123, 124, 125, 126, 127, 128, 129, 130, 131, 132, 133, 134, 135, 136, 137, 138, 139, 140, 141, 142, 143, 144, 145, 146, 147, 161, 162, 163, 164, 165, 166, 167, 156, 157, 158, 159, 160] (by decide +kernel) (by decide +kernel)
set_option maxRecDepth 20000 in
theorem gX4_readFrom_X4_readSum : GoodIn wsX4_readFrom (wsV RX4 35 RX4 yX4_readSum wsX4_readSum) := goodIn_app (goodIn_of _ (by decide +kernel)) ggX4_readFrom_X4_readSum
set_option maxRecDepth 20000 in
theorem ggX4_readFrom_X8_needsEnd : GoodIn wsX4_readFrom wsX8_needsEnd := goodIn_r _ [151, 152, 153, 154, 13, 155, 20, 21, 24, 25, 26, 27, 22, 50, 51, 52, 53, 40, 41, 42, 43, 15, 44, 161, 162, 163, 164, 165, 166, 167] (by decide +kernel) (by decide +kernel)
set_option maxRecDepth 20000 in
theorem gX4_readFrom_X8_needsEnd : GoodIn wsX4_readFrom (wsV RX4 39 RX8 yX8_needsEnd wsX8_needsEnd) := goodIn_app (goodIn_of _ (by decide +kernel)) ggX4_readFrom_X8_needsEnd
set_option maxRecDepth 20000 in
theorem ggX4_readSum_X4_readProduct : GoodIn wsX4_readSum wsX4_readProduct := goodIn_r _ [54, 55, 56, 57, 4, 5, 6, 7, 8, 9, 10, 11, 12, 13, 14, 15, 16, 17, 18, 19, 20, 21, 22, 23, 24, 25, 26, 27, 28, 29, 30, 31, 32, 33, 34, 35, 36, 37, 38, 39, 40, 41, 42, 43, 44, 45, 46, 47, 48, 49, 50, 51, 52, 53, 0, 1, 2, 3, 58, 59, 60, 61, 62, 63, 64, 65, 66, 67, 68, 69, 70, 71, 72, 73, 74, 75, 76, 77, 78, 79, 80, 81, 82, 83, 84, 85, 86, 87, 88, 89, 90, 91, 92, 93, 94, 95, 96, 97, 98, 99, 100, 101, 102, 103, 104, 105, 106, 107, 108, 109, 110, 111, 112, 113, 114, 115, 116, 117, 118, 119, 120, 121, 122, 123, 124, 125, 126, 127, 128, 129, 130, 131, 132, 133, 134, 135, 136, 137, 138, 139, 140, 141, 142, 143, 144, 145, 146, 147, 148, 149, 150, 151, 152, 153, 154, 155, 156, 157, 158] (by decide +kernel) (by decide +kernel)
set_option maxRecDepth 20000 in
theorem gX4_readSum_X4_readProduct : GoodIn wsX4_readSum (wsV RX4 44 RX4 yX4_readProduct wsX4_readProduct) := goodIn_app (goodIn_of _ (by decide +kernel)) ggX4_readSum_X4_readProduct
set_option maxRecDepth 20000 in
theorem ggX4_readSum_X8_isFaulty : GoodIn wsX4_readSum wsX8_isFaulty := goodIn_r _ [9, 10, 147, 148, 149, 150, 151, 152, 153] (by decide +kernel) (by decide +kernel)
set_option maxRecDepth 20000 in
theorem gX4_readSum_X8_isFaulty : GoodIn wsX4_readSum (wsV RX4 47 RX8 yX8_isFaulty wsX8_isFaulty) := goodIn_app (goodIn_of _ (by decide +kernel)) ggX4_readSum_X8_isFaulty
set_option maxRecDepth 20000 in
theorem ggX4_readProduct_X4_readUnit : GoodIn wsX4_readProduct wsX4_readUnit := goodIn_r _ [58, 59, 60, 61, 8, 62, 15, 19, 20, 21, 22, 16, 17, 63, 64, 65, 66, 67, 68, 69, 70, 18, 71, 72, 73, 74, 75, 36, 37, 38, 39, 10, 40, 23, 6, 7, 9, 76, 77, 78, 24, 25, 26, 4, 27, 28, 29, 30, 11, 12, 13, 14, 79, 80, 81, 82, 83, 84, 85, 86, 87, 88, 89, 90, 91, 92, 93, 94, 95, 96, 97, 98, 99, 100, 101, 102, 103, 104, 105, 106, 107, 108, 109, 110, 111, 112, 113, 114, 115, 116, 117, 118, 119, 120, 121, 122, 123, 124, 125, 126, 127, 128, 129, 130, 131, 132, 133, 134, 135, 136, 137, 138, 139, 140, 141, 142, 143, 144, 145, 146, 50, 51, 52, 31, 32, 33, 34, 35, 41, 42, 43, 44, 45, 46, 47, 48, 49, 53, 0, 1, 2, 3, 5, 54, 55, 56, 57, 147, 148, 149, 150, 151, 152, 153, 154, 155, 156, 157, 158] (by decide +kernel) (by decide +kernel)
set_option maxRecDepth 20000 in
theorem gX4_readProduct_X4_readUnit : GoodIn wsX4_readProduct (wsV RX4 55 RX4 yX4_readUnit wsX4_readUnit) := goodIn_app (goodIn_of _ (by decide +kernel)) ggX4_readProduct_X4_readUnit
set_option maxRecDepth 20000 in
theorem ggX4_readProduct_X8_isFaulty : GoodIn wsX4_readProduct wsX8_isFaulty := goodIn_r _ [9, 10, 147, 148, 149, 150, 151, 152, 153] (by decide +kernel) (by decide +kernel)
set_option maxRecDepth 20000 in
theorem gX4_readProduct_X8_isFaulty : GoodIn wsX4_readProduct (wsV RX4 47 RX8 yX8_isFaulty wsX8_isFaulty) := goodIn_app (goodIn_of _ (by decide +kernel)) ggX4_readProduct_X8_isFaulty
set_option maxRecDepth 20000 in
theorem ggX4_readUnit_X8_seesDigit : GoodIn wsX4_readUnit wsX8_seesDigit := goodIn_r _ [5, 6, 7, 8, 9, 4, 10, 11, 12, 13, 14, 15, 16, 147, 148, 149, 150, 151, 152, 153] (by decide +kernel) (by decide +kernel)
set_option maxRecDepth 20000 in
theorem gX4_readUnit_X8_seesDigit : GoodIn wsX4_readUnit (wsV RX4 58 RX8 yX8_seesDigit wsX8_seesDigit) := goodIn_app (goodIn_of _ (by decide +kernel)) ggX4_readUnit_X8_seesDigit
set_option maxRecDepth 20000 in
theorem ggX4_readUnit_X8_takes : GoodIn wsX4_readUnit wsX8_takes := goodIn_r _ [51, 6, 11, 12, 21, 7, 8, 9, 4, 10, 33, 34, 35, 36, 31, 147, 148, 149, 150, 151, 152, 153] (by decide +kernel) (by decide +kernel)
set_option maxRecDepth 20000 in
theorem gX4_readUnit_X8_takes : GoodIn wsX4_readUnit (wsV RX4 51 RX8 yX8_takes wsX8_takes) := goodIn_app (goodIn_of _ (by decide +kernel)) ggX4_readUnit_X8_takes
set_option maxRecDepth 20000 in
theorem ggX4_readUnit_X8_takesWord : GoodIn wsX4_readUnit wsX8_takesWord := goodIn_r _ [58, 6, 11, 12, 21, 7, 8, 9, 4, 10, 59, 60, 61, 62, 63, 64, 65, 66, 67, 68, 69, 70, 33, 34, 35, 36, 31, 71, 72, 73, 74, 75, 76, 77, 78, 79, 80, 81, 82, 83, 84, 85, 86, 87, 88, 89, 90, 91, 92, 93, 94, 95, 96, 97, 98, 99, 100, 101, 102, 103, 104, 105, 106, 107, 108, 109, 110, 111, 147, 148, 149, 150, 151, 152, 153] (by decide +kernel) (by decide +kernel)
set_option maxRecDepth 20000 in
theorem gX4_readUnit_X8_takesWord : GoodIn wsX4_readUnit (wsV RX4 70 RX8 yX8_takesWord wsX8_takesWord) := goodIn_app (goodIn_of _ (by decide +kernel)) ggX4_readUnit_X8_takesWord
set_option maxRecDepth 20000 in
theorem ggX4_readUnit_X4_readFact : GoodIn wsX4_readUnit wsX4_readFact := goodIn_r _ [118, 55, 56, 57, 4, 58, 6, 11, 12, 21, 7, 8, 9, 10, 59, 60, 61, 62, 63, 64, 65, 66, 67, 68, 69, 70, 33, 34, 35, 36, 31, 71, 72, 73, 74, 75, 76, 77, 78, 79, 80, 81, 82, 83, 84, 85, 86, 87, 88, 89, 90, 91, 92, 93, 94, 95, 96, 97, 98, 99, 100, 101, 102, 103, 104, 105, 106, 107, 108, 109, 110, 111, 40, 41, 42, 43, 44, 45, 46, 47, 119, 120, 121, 122, 27, 28, 29, 30, 32, 147, 148, 149, 150, 151, 152, 153, 154, 155, 156, 157, 158] (by decide +kernel) (by decide +kernel)
set_option maxRecDepth 20000 in
theorem gX4_readUnit_X4_readFact : GoodIn wsX4_readUnit (wsV RX4 80 RX4 yX4_readFact wsX4_readFact) := goodIn_app (goodIn_of _ (by decide +kernel)) ggX4_readUnit_X4_readFact
set_option maxRecDepth 20000 in
theorem ggX4_readFact_X8_takesWord : GoodIn wsX4_readFact wsX8_takesWord := goodIn_r _ [5, 6, 7, 8, 9, 10, 11, 12, 4, 13, 14, 15, 16, 17, 18, 19, 20, 21, 22, 23, 24, 25, 26, 27, 28, 29, 30, 31, 32, 33, 34, 35, 36, 37, 38, 39, 40, 41, 42, 43, 44, 45, 46, 47, 48, 49, 50, 51, 52, 53, 54, 55, 56, 57, 58, 59, 60, 61, 62, 63, 64, 65, 66, 67, 68, 69, 70, 71, 89, 90, 91, 92, 93, 94, 95] (by decide +kernel) (by decide +kernel)
set_option maxRecDepth 20000 in
theorem gX4_readFact_X8_takesWord : GoodIn wsX4_readFact (wsV RX4 70 RX8 yX8_takesWord wsX8_takesWord) := goodIn_app (goodIn_of _ (by decide +kernel)) ggX4_readFact_X8_takesWord
set_option maxRecDepth 20000 in
theorem ggX4_readFact_X8_blameSign : GoodIn wsX4_readFact wsX8_blameSign := goodIn_r _ [83, 6, 10, 11, 12, 4, 13, 7, 8, 84, 85, 86, 87, 30, 88, 89, 90, 91, 92, 93, 94, 95] (by decide +kernel) (by decide +kernel)
set_option maxRecDepth 20000 in
theorem gX4_readFact_X8_blameSign : GoodIn wsX4_readFact (wsV RX4 108 RX8 yX8_blameSign wsX8_blameSign) := goodIn_app (goodIn_of _ (by decide +kernel)) ggX4_readFact_X8_blameSign
set_option maxRecDepth 20000 in
theorem ggX4_reach_X4_joined : GoodIn wsX4_reach wsX4_joined := goodIn_r _ [16] (by decide +kernel) (by decide +kernel)
set_option maxRecDepth 20000 in
theorem gX4_reach_X4_joined : GoodIn wsX4_reach (va_wsS RX4 111 yX4_joined wsX4_joined) := goodIn_app (goodIn_of _ (by decide +kernel)) ggX4_reach_X4_joined
set_option maxRecDepth 20000 in
theorem ggX7_settle_X7_give : GoodIn wsX7_settle wsX7_give := goodIn_r _ [132, 133, 134, 135, 136, 10, 137, 5, 4, 126, 127, 128, 122, 123, 124, 125, 154, 155, 156, 157] (by decide +kernel) (by decide +kernel)
set_option maxRecDepth 20000 in
theorem gX7_settle_X7_give : GoodIn wsX7_settle (wsV RX7 47 RX7 yX7_give wsX7_give) := goodIn_app (goodIn_of _ (by decide +kernel)) ggX7_settle_X7_give
set_option maxRecDepth 20000 in
theorem ggX8_blameSign_X8_skipBlanks : GoodIn wsX8_blameSign wsX8_skipBlanks := goodIn_r _ [6, 1, 7, 8, 15, 16, 17, 18, 19, 20, 21] (by decide +kernel) (by decide +kernel)
set_option maxRecDepth 20000 in
theorem gX8_blameSign_X8_skipBlanks : GoodIn wsX8_blameSign (wsV RX8 40 RX8 yX8_skipBlanks wsX8_skipBlanks) := goodIn_app (goodIn_of _ (by decide +kernel)) ggX8_blameSign_X8_skipBlanks
set_option maxRecDepth 20000 in
theorem ggX8_blameSign_X8_blame : GoodIn wsX8_blameSign wsX8_blame := goodIn_r _ [12, 13, 14, 15, 16, 17, 18, 19, 20, 21] (by decide +kernel) (by decide +kernel)
set_option maxRecDepth 20000 in
theorem gX8_blameSign_X8_blame : GoodIn wsX8_blameSign (wsV RX8 43 RX8 yX8_blame wsX8_blame) := goodIn_app (goodIn_of _ (by decide +kernel)) ggX8_blameSign_X8_blame
set_option maxRecDepth 20000 in
theorem ggX8_isEnded_X8_skipBlanks : GoodIn wsX8_isEnded wsX8_skipBlanks := goodIn_r _ [7, 1, 2, 8, 9, 10, 11, 12, 13, 14, 15] (by decide +kernel) (by decide +kernel)
set_option maxRecDepth 20000 in
theorem gX8_isEnded_X8_skipBlanks : GoodIn wsX8_isEnded (wsV RX8 40 RX8 yX8_skipBlanks wsX8_skipBlanks) := goodIn_app (goodIn_of _ (by decide +kernel)) ggX8_isEnded_X8_skipBlanks
set_option maxRecDepth 20000 in
theorem ggX8_seesDigit_X8_skipBlanks : GoodIn wsX8_seesDigit wsX8_skipBlanks := goodIn_r _ [6, 1, 7, 8, 13, 14, 15, 16, 17, 18, 19] (by decide +kernel) (by decide +kernel)
set_option maxRecDepth 20000 in
theorem gX8_seesDigit_X8_skipBlanks : GoodIn wsX8_seesDigit (wsV RX8 40 RX8 yX8_skipBlanks wsX8_skipBlanks) := goodIn_app (goodIn_of _ (by decide +kernel)) ggX8_seesDigit_X8_skipBlanks
set_option maxRecDepth 20000 in
theorem ggX8_seesDigit_X8_digitAt : GoodIn wsX8_seesDigit wsX8_digitAt := goodIn_r _ [12, 7, 8, 13, 14, 15, 16, 17, 18, 19] (by decide +kernel) (by decide +kernel)
set_option maxRecDepth 20000 in
theorem gX8_seesDigit_X8_digitAt : GoodIn wsX8_seesDigit (wsV RX8 47 RX8 yX8_digitAt wsX8_digitAt) := goodIn_app (goodIn_of _ (by decide +kernel)) ggX8_seesDigit_X8_digitAt
set_option maxRecDepth 20000 in
theorem ggX8_takes_X8_skipBlanks : GoodIn wsX8_takes wsX8_skipBlanks := goodIn_r _ [9, 1, 2, 3, 15, 16, 17, 18, 19, 20, 21] (by decide +kernel) (by decide +kernel)
set_option maxRecDepth 20000 in
theorem gX8_takes_X8_skipBlanks : GoodIn wsX8_takes (wsV RX8 40 RX8 yX8_skipBlanks wsX8_skipBlanks) := goodIn_app (goodIn_of _ (by decide +kernel)) ggX8_takes_X8_skipBlanks
set_option maxRecDepth 20000 in
theorem ggX8_takes_X8_isFaulty : GoodIn wsX8_takes wsX8_isFaulty := goodIn_r _ [13, 14, 15, 16, 17, 18, 19, 20, 21] (by decide +kernel) (by decide +kernel)
set_option maxRecDepth 20000 in
theorem gX8_takes_X8_isFaulty : GoodIn wsX8_takes (wsV RX8 51 RX8 yX8_isFaulty wsX8_isFaulty) := goodIn_app (goodIn_of _ (by decide +kernel)) ggX8_takes_X8_isFaulty
set_option maxRecDepth 20000 in
theorem ggX8_needsEnd_X8_isEnded : GoodIn wsX8_needsEnd wsX8_isEnded := goodIn_r _ [5, 6, 7, 8, 9, 10, 4, 11, 12, 23, 24, 25, 26, 27, 28, 29] (by decide +kernel) (by decide +kernel)
set_option maxRecDepth 20000 in
theorem gX8_needsEnd_X8_isEnded : GoodIn wsX8_needsEnd (wsV RX8 62 RX8 yX8_isEnded wsX8_isEnded) := goodIn_app (goodIn_of _ (by decide +kernel)) ggX8_needsEnd_X8_isEnded
set_option maxRecDepth 20000 in
theorem ggX8_takesWord_X8_skipBlanks : GoodIn wsX8_takesWord wsX8_skipBlanks := goodIn_r _ [9, 1, 2, 3, 68, 69, 70, 71, 72, 73, 74] (by decide +kernel) (by decide +kernel)
set_option maxRecDepth 20000 in
theorem gX8_takesWord_X8_skipBlanks : GoodIn wsX8_takesWord (wsV RX8 40 RX8 yX8_skipBlanks wsX8_skipBlanks) := goodIn_app (goodIn_of _ (by decide +kernel)) ggX8_takesWord_X8_skipBlanks
set_option maxRecDepth 20000 in
theorem ggX8_takesWord_J0_length_8abf5 : GoodIn wsX8_takesWord wsJ0_length_8abf5 := goodIn_r _ [14, 15, 16, 17, 18, 13, 19, 20, 21] (by decide +kernel) (by decide +kernel)
set_option maxRecDepth 20000 in
theorem gX8_takesWord_J0_length_8abf5 : GoodIn wsX8_takesWord (wsV RX8 65 RJ0 yJ0_length_8abf5 wsJ0_length_8abf5) := goodIn_app (goodIn_of _ (by decide +kernel)) ggX8_takesWord_J0_length_8abf5
set_option maxRecDepth 20000 in
theorem ggX8_takesWord_X8_isFaulty : GoodIn wsX8_takesWord wsX8_isFaulty := goodIn_r _ [25, 26, 68, 69, 70, 71, 72, 73, 74] (by decide +kernel) (by decide +kernel)
set_option maxRecDepth 20000 in
theorem gX8_takesWord_X8_isFaulty : GoodIn wsX8_takesWord (wsV RX8 51 RX8 yX8_isFaulty wsX8_isFaulty) := goodIn_app (goodIn_of _ (by decide +kernel)) ggX8_takesWord_X8_isFaulty
set_option maxRecDepth 20000 in
theorem ggX9_readFrom_X8_isFaulty : GoodIn wsX9_readFrom wsX8_isFaulty := goodIn_r _ [9, 10, 154, 155, 156, 157, 158, 159, 160] (by decide +kernel) (by decide +kernel)
set_option maxRecDepth 20000 in
theorem gX9_readFrom_X8_isFaulty : GoodIn wsX9_readFrom (wsV RX9 43 RX8 yX8_isFaulty wsX8_isFaulty) := goodIn_app (goodIn_of _ (by decide +kernel)) ggX9_readFrom_X8_isFaulty
set_option maxRecDepth 20000 in
theorem ggX9_readFrom_X8_isEnded : GoodIn wsX9_readFrom wsX8_isEnded := goodIn_r _ [14, 15, 16, 17, 18, 19, 8, 20, 21, 154, 155, 156, 157, 158, 159, 160] (by decide +kernel) (by decide +kernel)
set_option maxRecDepth 20000 in
theorem gX9_readFrom_X8_isEnded : GoodIn wsX9_readFrom (wsV RX9 49 RX8 yX8_isEnded wsX8_isEnded) := goodIn_app (goodIn_of _ (by decide +kernel)) ggX9_readFrom_X8_isEnded
set_option maxRecDepth 20000 in
theorem ggX10_init_X8_init : GoodIn wsX10_init wsX8_init := goodIn_r _ [50, 51, 2, 3, 52, 53, 54, 145, 146, 147, 148, 149, 150, 151] (by decide +kernel) (by decide +kernel)
set_option maxRecDepth 20000 in
theorem gX10_init_X8_init_n9 : GoodIn wsX10_init (wsX8_init) := ggX10_init_X8_init
set_option maxRecDepth 20000 in
theorem ggX10_init_X2_init : GoodIn wsX10_init wsX2_init := goodIn_r _ [56, 57, 2, 3, 58, 59, 60, 61, 62, 63, 64, 65, 66, 171, 172, 173, 174, 175, 176, 177, 178, 179, 180, 181, 182] (by decide +kernel) (by decide +kernel)
set_option maxRecDepth 20000 in
theorem gX10_init_X2_init_n18 : GoodIn wsX10_init (wsX2_init) := ggX10_init_X2_init
set_option maxRecDepth 20000 in
theorem ggX10_init_X4_init : GoodIn wsX10_init wsX4_init := goodIn_r _ [69, 70, 2, 3, 58, 71, 72, 73, 74, 75, 76, 77, 15, 78, 79, 80, 81, 82, 83, 183, 184, 185, 186, 187] (by decide +kernel) (by decide +kernel)
set_option maxRecDepth 20000 in
theorem gX10_init_X4_init : GoodIn wsX10_init (wsX4_init) := ggX10_init_X4_init
set_option maxRecDepth 20000 in
theorem ggX10_init_X0_init : GoodIn wsX10_init wsX0_init := goodIn_r _ [86, 87, 2, 3, 58, 88, 89, 90, 91, 20, 92, 93, 188, 189] (by decide +kernel) (by decide +kernel)
set_option maxRecDepth 20000 in
theorem gX10_init_X0_init : GoodIn wsX10_init (wsX0_init) := ggX10_init_X0_init
set_option maxRecDepth 20000 in
theorem ggX10_init_X9_init : GoodIn wsX10_init wsX9_init := goodIn_r _ [95, 96, 2, 3, 58, 97, 98, 99, 100, 101, 102, 190, 191, 192, 193, 194, 195, 196, 197, 198, 199, 200, 201] (by decide +kernel) (by decide +kernel)
set_option maxRecDepth 20000 in
theorem gX10_init_X9_init_n48 : GoodIn wsX10_init (wsX9_init) := ggX10_init_X9_init
set_option maxRecDepth 20000 in
theorem ggX10_init_X1_init : GoodIn wsX10_init wsX1_init := goodIn_r _ [105, 106, 2, 3, 58, 107, 108, 109, 110, 111, 29, 112, 113, 114, 115, 116, 117, 118, 119, 120, 121, 122, 202, 203, 204, 205, 171, 172, 173, 174, 175, 176, 177, 178, 179, 180, 181, 182] (by decide +kernel) (by decide +kernel)
set_option maxRecDepth 20000 in
theorem gX10_init_X1_init : GoodIn wsX10_init (wsX1_init) := ggX10_init_X1_init
set_option maxRecDepth 20000 in
theorem ggX10_init_X5_init : GoodIn wsX10_init wsX5_init := goodIn_r _ [124, 125, 2, 3, 58, 126, 206, 207] (by decide +kernel) (by decide +kernel)
set_option maxRecDepth 20000 in
theorem gX10_init_X5_init_n67 : GoodIn wsX10_init (wsX5_init) := ggX10_init_X5_init
set_option maxRecDepth 20000 in
theorem ggX10_init_X6_init : GoodIn wsX10_init wsX6_init := goodIn_r _ [128, 129, 2, 3, 58, 130, 131, 208, 209, 210] (by decide +kernel) (by decide +kernel)
set_option maxRecDepth 20000 in
theorem gX10_init_X6_init_n78 : GoodIn wsX10_init (wsX6_init) := ggX10_init_X6_init
set_option maxRecDepth 20000 in
theorem ggX10_init_X7_init : GoodIn wsX10_init wsX7_init := goodIn_r _ [133, 134, 2, 3, 58, 135, 136, 137, 211, 212, 213, 214] (by decide +kernel) (by decide +kernel)
set_option maxRecDepth 20000 in
theorem gX10_init_X7_init_n85 : GoodIn wsX10_init (wsX7_init) := ggX10_init_X7_init
set_option maxRecDepth 20000 in
theorem ggX10_init_X3_init : GoodIn wsX10_init wsX3_init := goodIn_r _ [139, 140, 2, 3, 58, 141, 142, 143, 144, 215, 216, 217, 218, 219, 220, 221, 222, 223, 224, 225] (by decide +kernel) (by decide +kernel)
set_option maxRecDepth 20000 in
theorem gX10_init_X3_init_n92 : GoodIn wsX10_init (wsX3_init) := ggX10_init_X3_init
set_option maxRecDepth 20000 in
theorem ggX10_feed_X8_hasRoom : GoodIn wsX10_feed wsX8_hasRoom := goodIn_r _ [7, 8, 33, 34, 35, 36, 37, 38, 39] (by decide +kernel) (by decide +kernel)
set_option maxRecDepth 20000 in
theorem gX10_feed_X8_hasRoom : GoodIn wsX10_feed (wsV RX10 97 RX8 yX8_hasRoom wsX8_hasRoom) := goodIn_app (goodIn_of _ (by decide +kernel)) ggX10_feed_X8_hasRoom
set_option maxRecDepth 20000 in
theorem ggX10_feed_X8_put : GoodIn wsX10_feed wsX8_put := goodIn_r _ [12, 8, 13, 33, 34, 35, 36, 37, 38, 39] (by decide +kernel) (by decide +kernel)
set_option maxRecDepth 20000 in
theorem gX10_feed_X8_put : GoodIn wsX10_feed (wsV RX10 101 RX8 yX8_put wsX8_put) := goodIn_app (goodIn_of _ (by decide +kernel)) ggX10_feed_X8_put
set_option maxRecDepth 20000 in
theorem ggX10_down_X10_openText : GoodIn wsX10_down wsX10_openText := goodIn_ca (goodIn_r _ [17, 2, 18, 19, 20, 21, 22, 23, 24, 25, 16, 26, 27, 28, 29, 30, 31, 32, 33, 34, 35, 36, 37, 38, 39, 40, 41, 42, 43, 44, 45, 46, 47, 48, 233, 234, 235, 236, 237, 238, 239, 240, 241, 242, 243, 244, 245, 246, 247, 248, 249, 250, 251, 252, 253, 254, 255, 256, 257, 258] (by decide +kernel) (by decide +kernel)) (goodIn_sub (fun _ h => List.mem_cons_of_mem _ (List.mem_append_right _ h)) (by decide +kernel))
set_option maxRecDepth 20000 in
theorem gX10_down_X10_openText : GoodIn wsX10_down (wsV RX10 109 RX10 yX10_openText wsX10_openText) := goodIn_app (goodIn_of _ (by decide +kernel)) ggX10_down_X10_openText
set_option maxRecDepth 20000 in
theorem ggX10_down_X2_readFrom : GoodIn wsX10_down wsX2_readFrom := goodIn_r _ [53, 54, 55, 56, 57, 58, 59, 60, 40, 61, 47, 62, 63, 64, 65, 44, 43, 66, 67, 68, 69, 70, 71, 72, 73, 52, 74, 75, 76, 77, 78, 45, 79, 80, 81, 82, 83, 84, 85, 86, 87, 88, 89, 90, 91, 92, 93, 94, 95, 96, 97, 98, 99, 100, 101, 102, 103, 104, 105, 106, 107, 108, 109, 110, 111, 112, 113, 114, 115, 116, 117, 118, 119, 120, 121, 122, 123, 124, 125, 126, 127, 128, 129, 130, 131, 132, 133, 134, 135, 136, 137, 138, 139, 140, 141, 142, 143, 144, 145, 146, 48, 147, 148, 149, 150, 151, 42, 20, 21, 22, 152, 153, 154, 155, 28, 16, 29, 156, 157, 158, 159, 160, 161, 162, 163, 164, 165, 166, 167, 168, 169, 170, 171, 172, 173, 174, 175, 176, 177, 178, 179, 180, 181, 182, 183, 184, 185, 186, 187, 188, 189, 190, 191, 192, 193, 194, 195, 196, 261, 262, 263, 264, 265, 266, 267, 268, 269, 270, 271, 272, 252, 253, 254, 255, 256, 257, 258] (by decide +kernel) (by decide +kernel)
set_option maxRecDepth 20000 in
theorem gX10_down_X2_readFrom : GoodIn wsX10_down (wsV RX10 113 RX2 yX2_readFrom wsX2_readFrom) := goodIn_app (goodIn_of _ (by decide +kernel)) ggX10_down_X2_readFrom
set_option maxRecDepth 20000 in
theorem ggX10_down_X8_isFaulty : GoodIn wsX10_down wsX8_isFaulty := goodIn_r _ [61, 47, 252, 253, 254, 255, 256, 257, 258] (by decide +kernel) (by decide +kernel)
set_option maxRecDepth 20000 in
theorem gX10_down_X8_isFaulty : GoodIn wsX10_down (wsV RX10 117 RX8 yX8_isFaulty wsX8_isFaulty) := goodIn_app (goodIn_of _ (by decide +kernel)) ggX10_down_X8_isFaulty
set_option maxRecDepth 20000 in
theorem ggX10_down_X4_setPlain : GoodIn wsX10_down wsX4_setPlain := goodIn_r _ [202, 203, 204, 205, 206, 201, 207, 208, 209, 273, 274, 275, 276, 277] (by decide +kernel) (by decide +kernel)
set_option maxRecDepth 20000 in
theorem gX10_down_X4_setPlain : GoodIn wsX10_down (wsV RX10 123 RX4 yX4_setPlain wsX4_setPlain) := goodIn_app (goodIn_of _ (by decide +kernel)) ggX10_down_X4_setPlain
set_option maxRecDepth 20000 in
theorem ggX10_down_X0_clear : GoodIn wsX10_down wsX0_clear := goodIn_r _ [214, 215, 216, 278, 279] (by decide +kernel) (by decide +kernel)
set_option maxRecDepth 20000 in
theorem gX10_down_X0_clear : GoodIn wsX10_down (wsV RX10 126 RX0 yX0_clear wsX0_clear) := goodIn_app (goodIn_of _ (by decide +kernel)) ggX10_down_X0_clear
set_option maxRecDepth 20000 in
theorem ggX10_down_X1_begin : GoodIn wsX10_down wsX1_begin := goodIn_r _ [221, 222, 223, 224, 225, 226, 227, 228, 229, 230, 231, 232, 280, 281, 282, 283, 261, 262, 263, 264, 265, 266, 267, 268, 269, 270, 271, 272] (by decide +kernel) (by decide +kernel)
set_option maxRecDepth 20000 in
theorem gX10_down_X1_begin : GoodIn wsX10_down (wsV RX10 129 RX1 yX1_begin wsX1_begin) := goodIn_app (goodIn_of _ (by decide +kernel)) ggX10_down_X1_begin
set_option maxRecDepth 20000 in
theorem ggX10_law_X10_openText : GoodIn wsX10_law wsX10_openText := goodIn_ca (goodIn_r _ [10, 2, 11, 12, 13, 14, 15, 16, 17, 18, 9, 19, 20, 21, 22, 23, 24, 25, 26, 27, 28, 29, 30, 31, 32, 33, 34, 35, 36, 37, 38, 39, 40, 41, 195, 196, 197, 198, 199, 200, 201, 202, 203, 204, 205, 206, 207, 208, 209, 210, 211, 212, 213, 214, 215, 216, 217, 218, 219, 220] (by decide +kernel) (by decide +kernel)) (goodIn_sub (fun _ h => List.mem_cons_of_mem _ (List.mem_append_right _ h)) (by decide +kernel))
set_option maxRecDepth 20000 in
theorem gX10_law_X10_openText : GoodIn wsX10_law (wsV RX10 109 RX10 yX10_openText wsX10_openText) := goodIn_app (goodIn_of _ (by decide +kernel)) ggX10_law_X10_openText
set_option maxRecDepth 20000 in
theorem ggX10_law_X4_readFrom : GoodIn wsX10_law wsX4_readFrom := goodIn_r _ [46, 47, 48, 49, 50, 45, 51, 52, 53, 54, 55, 56, 57, 33, 58, 40, 59, 60, 61, 62, 37, 36, 63, 38, 64, 65, 66, 67, 68, 69, 70, 71, 72, 73, 74, 75, 76, 77, 78, 79, 80, 81, 82, 83, 41, 84, 85, 86, 87, 88, 89, 90, 91, 92, 93, 94, 95, 96, 97, 98, 99, 100, 101, 102, 103, 104, 105, 106, 107, 108, 109, 110, 111, 35, 13, 14, 15, 21, 9, 22, 112, 113, 114, 115, 116, 117, 118, 119, 120, 121, 122, 123, 124, 125, 126, 127, 128, 129, 130, 131, 132, 133, 134, 135, 136, 137, 138, 139, 140, 141, 142, 143, 144, 145, 146, 147, 148, 149, 150, 151, 152, 153, 154, 155, 156, 157, 158, 159, 160, 161, 162, 163, 164, 165, 166, 167, 168, 169, 170, 171, 172, 173, 174, 175, 176, 177, 178, 179, 180, 181, 182, 183, 184, 185, 186, 187, 221, 222, 223, 224, 225, 214, 215, 216, 217, 218, 219, 220] (by decide +kernel) (by decide +kernel)
set_option maxRecDepth 20000 in
theorem gX10_law_X4_readFrom : GoodIn wsX10_law (wsV RX10 144 RX4 yX4_readFrom wsX4_readFrom) := goodIn_app (goodIn_of _ (by decide +kernel)) ggX10_law_X4_readFrom
set_option maxRecDepth 20000 in
theorem ggX10_law_X8_isFaulty : GoodIn wsX10_law wsX8_isFaulty := goodIn_r _ [58, 40, 214, 215, 216, 217, 218, 219, 220] (by decide +kernel) (by decide +kernel)
set_option maxRecDepth 20000 in
theorem gX10_law_X8_isFaulty : GoodIn wsX10_law (wsV RX10 117 RX8 yX8_isFaulty wsX8_isFaulty) := goodIn_app (goodIn_of _ (by decide +kernel)) ggX10_law_X8_isFaulty
set_option maxRecDepth 20000 in
theorem ggX10_work_X10_openText : GoodIn wsX10_work wsX10_openText := goodIn_ca (goodIn_r _ [17, 4, 18, 19, 20, 21, 22, 23, 24, 25, 16, 26, 27, 28, 29, 30, 31, 32, 33, 34, 35, 36, 37, 38, 39, 40, 41, 42, 43, 44, 45, 46, 47, 48, 365, 366, 367, 368, 369, 370, 371, 372, 373, 374, 375, 376, 377, 378, 379, 380, 381, 382, 383, 398, 399, 400, 401, 402, 403, 404] (by decide +kernel) (by decide +kernel)) (goodIn_sub (fun _ h => List.mem_cons_of_mem _ (List.mem_append_right _ h)) (by decide +kernel))
set_option maxRecDepth 20000 in
theorem gX10_work_X10_openText : GoodIn wsX10_work (wsV RX10 109 RX10 yX10_openText wsX10_openText) := goodIn_app (goodIn_of _ (by decide +kernel)) ggX10_work_X10_openText
set_option maxRecDepth 20000 in
theorem ggX10_work_X9_readFrom : GoodIn wsX10_work wsX9_readFrom := goodIn_r _ [53, 54, 55, 56, 57, 58, 59, 60, 40, 61, 47, 62, 63, 64, 65, 44, 43, 66, 67, 68, 69, 70, 71, 72, 73, 74, 45, 75, 76, 77, 78, 52, 79, 80, 81, 82, 83, 84, 85, 86, 87, 88, 89, 90, 91, 92, 93, 94, 95, 96, 97, 98, 99, 100, 101, 48, 102, 103, 104, 105, 106, 107, 108, 109, 110, 111, 112, 113, 114, 115, 116, 117, 118, 119, 120, 121, 122, 123, 124, 125, 126, 127, 128, 129, 130, 131, 132, 133, 134, 135, 136, 137, 138, 139, 140, 141, 142, 143, 144, 145, 146, 147, 148, 149, 150, 151, 152, 153, 154, 155, 156, 157, 158, 159, 160, 161, 162, 163, 164, 165, 166, 167, 168, 169, 170, 171, 172, 173, 174, 175, 42, 20, 21, 22, 176, 177, 178, 179, 28, 16, 29, 180, 405, 406, 407, 408, 409, 410, 411, 412, 413, 414, 415, 416, 398, 399, 400, 401, 402, 403, 404] (by decide +kernel) (by decide +kernel)
set_option maxRecDepth 20000 in
theorem gX10_work_X9_readFrom : GoodIn wsX10_work (wsV RX10 152 RX9 yX9_readFrom wsX9_readFrom) := goodIn_app (goodIn_of _ (by decide +kernel)) ggX10_work_X9_readFrom
set_option maxRecDepth 20000 in
theorem ggX10_work_X8_isFaulty : GoodIn wsX10_work wsX8_isFaulty := goodIn_r _ [61, 47, 398, 399, 400, 401, 402, 403, 404] (by decide +kernel) (by decide +kernel)
set_option maxRecDepth 20000 in
theorem gX10_work_X8_isFaulty : GoodIn wsX10_work (wsV RX10 117 RX8 yX8_isFaulty wsX8_isFaulty) := goodIn_app (goodIn_of _ (by decide +kernel)) ggX10_work_X8_isFaulty
set_option maxRecDepth 20000 in
theorem ggX10_work_X5_push : GoodIn wsX10_work wsX5_push := goodIn_r _ [186, 187, 188, 189, 190, 191, 192, 193, 384, 385, 417, 418, 419, 420] (by decide +kernel) (by decide +kernel)
set_option maxRecDepth 20000 in
theorem gX10_work_X5_push : GoodIn wsX10_work (wsV RX10 155 RX5 yX5_push wsX5_push) := goodIn_app (goodIn_of _ (by decide +kernel)) ggX10_work_X5_push
set_option maxRecDepth 20000 in
theorem ggX10_work_X9_runOn : GoodIn wsX10_work wsX9_runOn := goodIn_r _ [197, 198, 199, 57, 56, 86, 200, 201, 202, 52, 203, 204, 87, 205, 206, 207, 208, 81, 209, 210, 211, 212, 88, 213, 214, 215, 216, 217, 218, 219, 220, 221, 222, 223, 224, 225, 226, 227, 228, 229, 230, 231, 232, 233, 234, 235, 21, 236, 237, 238, 239, 240, 241, 242, 243, 244, 245, 246, 247, 248, 249, 250, 251, 252, 253, 254, 255, 256, 257, 258, 259, 260, 261, 262, 263, 264, 265, 266, 267, 268, 269, 270, 271, 272, 273, 274, 275, 276, 277, 278, 279, 280, 281, 282, 283, 284, 285, 286, 287, 288, 289, 290, 291, 292, 293, 294, 295, 296, 297, 298, 299, 300, 301, 20, 22, 302, 303, 304, 305, 306, 307, 308, 309, 310, 311, 312, 313, 314, 315, 316, 317, 318, 319, 320, 321, 322, 323, 324, 325, 326, 327, 328, 329, 330, 331, 332, 333, 334, 335, 336, 337, 338, 339, 340, 341, 342, 343, 344, 345, 16, 346, 347, 348, 349, 350, 351, 352, 353, 354, 355, 356, 357, 358, 359, 360, 361, 362, 363, 364, 405, 406, 407, 408, 409, 410, 411, 412, 413, 414, 415, 416, 417, 418, 419, 420, 386, 387, 388, 389, 390, 391, 392, 393, 394, 395, 396, 397, 421, 422, 423, 424, 425] (by decide +kernel) (by decide +kernel)
set_option maxRecDepth 20000 in
theorem gX10_work_X9_runOn : GoodIn wsX10_work (wsV RX10 159 RX9 yX9_runOn wsX9_runOn) := goodIn_app (goodIn_of _ (by decide +kernel)) ggX10_work_X9_runOn
set_option maxRecDepth 20000 in
theorem ggX10_book_X10_openText : GoodIn wsX10_book wsX10_openText := goodIn_ca (goodIn_r _ [12, 2, 13, 14, 15, 16, 17, 18, 19, 20, 11, 21, 22, 23, 24, 25, 26, 27, 28, 29, 30, 31, 32, 33, 34, 35, 36, 37, 38, 39, 40, 41, 42, 43, 107, 108, 109, 110, 111, 112, 113, 114, 115, 116, 117, 118, 119, 120, 121, 122, 123, 124, 125, 138, 139, 140, 141, 142, 143, 144] (by decide +kernel) (by decide +kernel)) (goodIn_sub (fun _ h => List.mem_cons_of_mem _ (List.mem_append_right _ h)) (by decide +kernel))
set_option maxRecDepth 20000 in
theorem gX10_book_X10_openText : GoodIn wsX10_book (wsV RX10 109 RX10 yX10_openText wsX10_openText) := goodIn_app (goodIn_of _ (by decide +kernel)) ggX10_book_X10_openText
set_option maxRecDepth 20000 in
theorem ggX10_book_X0_readFrom : GoodIn wsX10_book wsX0_readFrom := goodIn_r _ [48, 49, 50, 51, 47, 52, 53, 54, 55, 56, 57, 35, 58, 42, 59, 60, 61, 62, 39, 38, 63, 64, 65, 66, 67, 68, 69, 70, 71, 72, 73, 74, 75, 40, 76, 37, 15, 16, 17, 77, 78, 79, 80, 81, 82, 83, 84, 43, 85, 23, 11, 24, 86, 87, 88, 89, 90, 91, 92, 93, 94, 95, 96, 97, 98, 99, 100, 101, 102, 103, 104, 105, 145, 146, 138, 139, 140, 141, 142, 143, 144] (by decide +kernel) (by decide +kernel)
set_option maxRecDepth 20000 in
theorem gX10_book_X0_readFrom : GoodIn wsX10_book (wsV RX10 168 RX0 yX0_readFrom wsX0_readFrom) := goodIn_app (goodIn_of _ (by decide +kernel)) ggX10_book_X0_readFrom
set_option maxRecDepth 20000 in
theorem ggX10_book_X8_isFaulty : GoodIn wsX10_book wsX8_isFaulty := goodIn_r _ [58, 42, 138, 139, 140, 141, 142, 143, 144] (by decide +kernel) (by decide +kernel)
set_option maxRecDepth 20000 in
theorem gX10_book_X8_isFaulty : GoodIn wsX10_book (wsV RX10 117 RX8 yX8_isFaulty wsX8_isFaulty) := goodIn_app (goodIn_of _ (by decide +kernel)) ggX10_book_X8_isFaulty
set_option maxRecDepth 20000 in
theorem ggX10_told_X10_needWithin : GoodIn wsX10_told wsX10_needWithin := goodIn_ca (goodIn_r _ [14, 15, 16, 13, 17, 18, 19, 20, 21, 22, 23, 24, 81, 82, 83, 84, 85, 86, 87, 88, 89, 90, 91, 92, 93, 94, 95, 96, 97, 98, 99] (by decide +kernel) (by decide +kernel)) (goodIn_sub (fun _ h => List.mem_cons_of_mem _ (List.mem_append_right _ h)) (by decide +kernel))
set_option maxRecDepth 20000 in
theorem gX10_told_X10_needWithin : GoodIn wsX10_told (wsV RX10 180 RX10 yX10_needWithin wsX10_needWithin) := goodIn_app (goodIn_of _ (by decide +kernel)) ggX10_told_X10_needWithin
set_option maxRecDepth 20000 in
theorem ggX10_told_X1_day : GoodIn wsX10_told wsX1_day := goodIn_r _ [29, 30, 114, 115, 116, 117] (by decide +kernel) (by decide +kernel)
set_option maxRecDepth 20000 in
theorem gX10_told_X1_day : GoodIn wsX10_told (wsV RX10 187 RX1 yX1_day wsX1_day) := goodIn_app (goodIn_of _ (by decide +kernel)) ggX10_told_X1_day
set_option maxRecDepth 20000 in
theorem ggX10_told_X1_year : GoodIn wsX10_told wsX1_year := goodIn_r _ [34, 30, 114, 115, 116, 117] (by decide +kernel) (by decide +kernel)
set_option maxRecDepth 20000 in
theorem gX10_told_X1_year : GoodIn wsX10_told (wsV RX10 191 RX1 yX1_year wsX1_year) := goodIn_app (goodIn_of _ (by decide +kernel)) ggX10_told_X1_year
set_option maxRecDepth 20000 in
theorem ggX10_told_X1_caughtOnes : GoodIn wsX10_told wsX1_caughtOnes := goodIn_r _ [38, 30, 114, 115, 116, 117] (by decide +kernel) (by decide +kernel)
set_option maxRecDepth 20000 in
theorem gX10_told_X1_caughtOnes : GoodIn wsX10_told (wsV RX10 194 RX1 yX1_caughtOnes wsX1_caughtOnes) := goodIn_app (goodIn_of _ (by decide +kernel)) ggX10_told_X1_caughtOnes
set_option maxRecDepth 20000 in
theorem ggX10_told_X1_leaptOnes : GoodIn wsX10_told wsX1_leaptOnes := goodIn_r _ [42, 30, 114, 115, 116, 117] (by decide +kernel) (by decide +kernel)
set_option maxRecDepth 20000 in
theorem gX10_told_X1_leaptOnes : GoodIn wsX10_told (wsV RX10 197 RX1 yX1_leaptOnes wsX1_leaptOnes) := goodIn_app (goodIn_of _ (by decide +kernel)) ggX10_told_X1_leaptOnes
set_option maxRecDepth 20000 in
theorem ggX10_told_X1_allDebts : GoodIn wsX10_told wsX1_allDebts := goodIn_r _ [46, 47, 48, 49, 50, 51, 28, 52, 53, 54, 55, 56, 30, 114, 115, 116, 117, 100, 101, 102, 103, 104, 105, 106, 107, 108, 109, 110, 111] (by decide +kernel) (by decide +kernel)
set_option maxRecDepth 20000 in
theorem gX10_told_X1_allDebts : GoodIn wsX10_told (wsV RX10 203 RX1 yX1_allDebts wsX1_allDebts) := goodIn_app (goodIn_of _ (by decide +kernel)) ggX10_told_X1_allDebts
set_option maxRecDepth 20000 in
theorem ggX10_told_X1_endangered : GoodIn wsX10_told wsX1_endangered := goodIn_r _ [60, 47, 48, 61, 62, 63, 28, 64, 30, 65, 66, 67, 68, 69, 70, 71, 72, 73, 74, 75, 13, 76, 77, 78, 79, 80, 114, 115, 116, 117, 100, 101, 102, 103, 104, 105, 106, 107, 108, 109, 110, 111] (by decide +kernel) (by decide +kernel)
set_option maxRecDepth 20000 in
theorem gX10_told_X1_endangered : GoodIn wsX10_told (wsV RX10 206 RX1 yX1_endangered wsX1_endangered) := goodIn_app (goodIn_of _ (by decide +kernel)) ggX10_told_X1_endangered
set_option maxRecDepth 20000 in
theorem ggX10_form_X10_needForm : GoodIn wsX10_form wsX10_needForm := goodIn_ca (goodIn_r _ [9, 10, 11, 1, 12, 13, 14, 15, 8, 16, 52, 53, 54, 55, 56, 57, 58, 59, 60, 61, 62, 63, 64, 65, 66, 67, 68, 69, 70, 71, 72, 73, 74, 75, 76, 77, 78, 79, 80, 81, 82] (by decide +kernel) (by decide +kernel)) (goodIn_sub (fun _ h => List.mem_cons_of_mem _ (List.mem_append_left _ (List.mem_append_right _ h))) (by decide +kernel))
set_option maxRecDepth 20000 in
theorem gX10_form_X10_needForm : GoodIn wsX10_form (wsV RX10 209 RX10 yX10_needForm wsX10_needForm) := goodIn_app (goodIn_of _ (by decide +kernel)) ggX10_form_X10_needForm
set_option maxRecDepth 20000 in
theorem ggX10_hare_X10_needHare : GoodIn wsX10_hare wsX10_needHare := goodIn_ca (goodIn_r _ [8, 9, 10, 2, 11, 12, 13, 14, 7, 15, 118, 119, 120, 121, 122, 123, 124, 125, 126, 127, 128, 129, 130, 131, 132, 133, 134, 135, 136, 137, 138, 139, 140, 141, 142, 143, 144, 145, 146, 147, 148] (by decide +kernel) (by decide +kernel)) (goodIn_sub (fun _ h => List.mem_cons_of_mem _ (List.mem_append_left _ (List.mem_append_right _ h))) (by decide +kernel))
set_option maxRecDepth 20000 in
theorem gX10_hare_X10_needHare : GoodIn wsX10_hare (wsV RX10 227 RX10 yX10_needHare wsX10_needHare) := goodIn_app (goodIn_of _ (by decide +kernel)) ggX10_hare_X10_needHare
set_option maxRecDepth 20000 in
theorem ggX10_fox_X10_within : GoodIn wsX10_fox wsX10_within := goodIn_r _ [11] (by decide +kernel) (by decide +kernel)
set_option maxRecDepth 20000 in
theorem gX10_fox_X10_within : GoodIn wsX10_fox (va_wsS RX10 257 yX10_within wsX10_within) := goodIn_app (goodIn_of _ (by decide +kernel)) ggX10_fox_X10_within
set_option maxRecDepth 20000 in
theorem ggX10_debt_X10_needHare : GoodIn wsX10_debt wsX10_needHare := goodIn_ca (goodIn_r _ [6, 7, 8, 9, 10, 11, 12, 13, 5, 14, 21, 22, 23, 24, 25, 26, 27, 28, 29, 30, 31, 32, 33, 34, 35, 36, 37, 38, 39, 40, 41, 42, 43, 44, 45, 46, 47, 48, 49, 50, 51] (by decide +kernel) (by decide +kernel)) (goodIn_sub (fun _ h => List.mem_cons_of_mem _ (List.mem_append_right _ h)) (by decide +kernel))
set_option maxRecDepth 20000 in
theorem gX10_debt_X10_needHare : GoodIn wsX10_debt (wsV RX10 227 RX10 yX10_needHare wsX10_needHare) := goodIn_app (goodIn_of _ (by decide +kernel)) ggX10_debt_X10_needHare
set_option maxRecDepth 20000 in
theorem ggX10_far_X10_needForm : GoodIn wsX10_far wsX10_needForm := goodIn_ca (goodIn_r _ [6, 7, 8, 1, 9, 10, 11, 12, 5, 13, 25, 26, 27, 28, 29, 30, 31, 32, 33, 34, 35, 36, 37, 38, 39, 40, 41, 42, 43, 44, 45, 46, 47, 48, 49, 50, 51, 52, 53, 54, 55] (by decide +kernel) (by decide +kernel)) (goodIn_sub (fun _ h => List.mem_cons_of_mem _ (List.mem_append_right _ h)) (by decide +kernel))
set_option maxRecDepth 20000 in
theorem gX10_far_X10_needForm : GoodIn wsX10_far (wsV RX10 209 RX10 yX10_needForm wsX10_needForm) := goodIn_app (goodIn_of _ (by decide +kernel)) ggX10_far_X10_needForm
set_option maxRecDepth 20000 in
theorem ggX10_would_X10_needWithin : GoodIn wsX10_would wsX10_needWithin := goodIn_ca (goodIn_r _ [6, 7, 8, 5, 9, 10, 11, 12, 13, 14, 15, 16, 45, 46, 47, 48, 49, 50, 51, 52, 53, 54, 55, 56, 57, 58, 59, 60, 61, 62, 63] (by decide +kernel) (by decide +kernel)) (goodIn_sub (fun _ h => List.mem_cons_of_mem _ (List.mem_append_right _ h)) (by decide +kernel))
set_option maxRecDepth 20000 in
theorem gX10_would_X10_needWithin : GoodIn wsX10_would (wsV RX10 180 RX10 yX10_needWithin wsX10_needWithin) := goodIn_app (goodIn_of _ (by decide +kernel)) ggX10_would_X10_needWithin
set_option maxRecDepth 20000 in
theorem ggX10_would_X4_setFacts : GoodIn wsX10_would wsX4_setFacts := goodIn_r _ [21, 22, 64, 65, 66, 67, 68] (by decide +kernel) (by decide +kernel)
set_option maxRecDepth 20000 in
theorem gX10_would_X4_setFacts : GoodIn wsX10_would (wsV RX10 284 RX4 yX4_setFacts wsX4_setFacts) := goodIn_app (goodIn_of _ (by decide +kernel)) ggX10_would_X4_setFacts
set_option maxRecDepth 20000 in
theorem ggX10_would_X4_setTimes : GoodIn wsX10_would wsX4_setTimes := goodIn_r _ [26, 22, 64, 65, 66, 67, 68] (by decide +kernel) (by decide +kernel)
set_option maxRecDepth 20000 in
theorem gX10_would_X4_setTimes : GoodIn wsX10_would (wsV RX10 288 RX4 yX4_setTimes wsX4_setTimes) := goodIn_app (goodIn_of _ (by decide +kernel)) ggX10_would_X4_setTimes
set_option maxRecDepth 20000 in
theorem ggX10_would_X4_reach : GoodIn wsX10_would wsX4_reach := goodIn_r _ [30, 31, 32, 33, 34, 22, 35, 36, 37, 38, 39, 40, 41, 42, 43, 20, 44, 64, 65, 66, 67, 68] (by decide +kernel) (by decide +kernel)
set_option maxRecDepth 20000 in
theorem gX10_would_X4_reach : GoodIn wsX10_would (wsV RX10 291 RX4 yX4_reach wsX4_reach) := goodIn_app (goodIn_of _ (by decide +kernel)) ggX10_would_X4_reach
set_option maxRecDepth 20000 in
theorem ggX10_can_X10_needHare : GoodIn wsX10_can wsX10_needHare := goodIn_ca (goodIn_r _ [6, 7, 8, 9, 10, 11, 12, 13, 5, 14, 118, 119, 120, 121, 122, 123, 124, 125, 126, 127, 128, 129, 130, 131, 132, 133, 134, 135, 136, 137, 138, 139, 140, 141, 142, 143, 144, 145, 146, 147, 148] (by decide +kernel) (by decide +kernel)) (goodIn_sub (fun _ h => List.mem_cons_of_mem _ (List.mem_append_right _ h)) (by decide +kernel))
set_option maxRecDepth 20000 in
theorem gX10_can_X10_needHare : GoodIn wsX10_can (wsV RX10 227 RX10 yX10_needHare wsX10_needHare) := goodIn_app (goodIn_of _ (by decide +kernel)) ggX10_can_X10_needHare
set_option maxRecDepth 20000 in
theorem ggX10_ahead_X10_needWithin : GoodIn wsX10_ahead wsX10_needWithin := goodIn_ca (goodIn_r _ [7, 8, 9, 6, 10, 11, 12, 13, 14, 15, 16, 17, 88, 89, 90, 91, 92, 93, 94, 95, 96, 97, 98, 99, 100, 101, 102, 103, 104, 105, 106] (by decide +kernel) (by decide +kernel)) (goodIn_sub (fun _ h => List.mem_cons_of_mem _ (List.mem_append_right _ h)) (by decide +kernel))
set_option maxRecDepth 20000 in
theorem gX10_ahead_X10_needWithin : GoodIn wsX10_ahead (wsV RX10 180 RX10 yX10_needWithin wsX10_needWithin) := goodIn_app (goodIn_of _ (by decide +kernel)) ggX10_ahead_X10_needWithin
set_option maxRecDepth 20000 in
theorem ggX10_ahead_X1_copyFrom : GoodIn wsX10_ahead wsX1_copyFrom := goodIn_r _ [22, 23, 24, 25, 26, 27, 28, 29, 107, 108, 109, 110] (by decide +kernel) (by decide +kernel)
set_option maxRecDepth 20000 in
theorem gX10_ahead_X1_copyFrom : GoodIn wsX10_ahead (wsV RX10 297 RX1 yX1_copyFrom wsX1_copyFrom) := goodIn_app (goodIn_of _ (by decide +kernel)) ggX10_ahead_X1_copyFrom
set_option maxRecDepth 20000 in
theorem ggX10_ahead_X1_passDay : GoodIn wsX10_ahead wsX1_passDay := goodIn_r _ [33, 23, 34, 25, 35, 6, 36, 37, 38, 39, 21, 40, 41, 42, 43, 44, 45, 46, 47, 48, 49, 50, 51, 52, 53, 54, 55, 56, 57, 58, 59, 60, 61, 62, 63, 64, 65, 66, 67, 107, 108, 109, 110, 111, 112, 113, 114, 115, 116, 117, 118, 119, 120, 121, 122] (by decide +kernel) (by decide +kernel)
set_option maxRecDepth 20000 in
theorem gX10_ahead_X1_passDay : GoodIn wsX10_ahead (wsV RX10 300 RX1 yX1_passDay wsX1_passDay) := goodIn_app (goodIn_of _ (by decide +kernel)) ggX10_ahead_X1_passDay
set_option maxRecDepth 20000 in
theorem ggX10_ahead_X1_day : GoodIn wsX10_ahead wsX1_day := goodIn_r _ [71, 25, 107, 108, 109, 110] (by decide +kernel) (by decide +kernel)
set_option maxRecDepth 20000 in
theorem gX10_ahead_X1_day : GoodIn wsX10_ahead (wsV RX10 187 RX1 yX1_day wsX1_day) := goodIn_app (goodIn_of _ (by decide +kernel)) ggX10_ahead_X1_day
set_option maxRecDepth 20000 in
theorem ggX10_ahead_X1_caughtOnes : GoodIn wsX10_ahead wsX1_caughtOnes := goodIn_r _ [75, 25, 107, 108, 109, 110] (by decide +kernel) (by decide +kernel)
set_option maxRecDepth 20000 in
theorem gX10_ahead_X1_caughtOnes : GoodIn wsX10_ahead (wsV RX10 194 RX1 yX1_caughtOnes wsX1_caughtOnes) := goodIn_app (goodIn_of _ (by decide +kernel)) ggX10_ahead_X1_caughtOnes
set_option maxRecDepth 20000 in
theorem ggX10_ahead_X1_allDebts : GoodIn wsX10_ahead wsX1_allDebts := goodIn_r _ [79, 23, 34, 80, 81, 82, 21, 83, 84, 85, 86, 87, 25, 107, 108, 109, 110, 111, 112, 113, 114, 115, 116, 117, 118, 119, 120, 121, 122] (by decide +kernel) (by decide +kernel)
set_option maxRecDepth 20000 in
theorem gX10_ahead_X1_allDebts : GoodIn wsX10_ahead (wsV RX10 203 RX1 yX1_allDebts wsX1_allDebts) := goodIn_app (goodIn_of _ (by decide +kernel)) ggX10_ahead_X1_allDebts
set_option maxRecDepth 20000 in
theorem ggX10_hops_X10_needHare : GoodIn wsX10_hops wsX10_needHare := goodIn_ca (goodIn_r _ [7, 8, 9, 2, 10, 11, 12, 13, 6, 14, 127, 128, 129, 130, 131, 132, 133, 134, 135, 136, 137, 138, 139, 140, 141, 142, 143, 144, 145, 146, 147, 148, 149, 150, 151, 152, 153, 154, 155, 156, 157] (by decide +kernel) (by decide +kernel)) (goodIn_sub (fun _ h => List.mem_cons_of_mem _ (List.mem_append_right _ h)) (by decide +kernel))
set_option maxRecDepth 20000 in
theorem gX10_hops_X10_needHare : GoodIn wsX10_hops (wsV RX10 227 RX10 yX10_needHare wsX10_needHare) := goodIn_app (goodIn_of _ (by decide +kernel)) ggX10_hops_X10_needHare
set_option maxRecDepth 20000 in
theorem ggX10_seats_X7_settle : GoodIn wsX10_seats wsX7_settle := goodIn_r _ [8, 9, 10, 11, 12, 13, 14, 15, 16, 17, 7, 18, 19, 20, 21, 22, 23, 24, 25, 26, 27, 28, 29, 30, 31, 32, 33, 34, 35, 36, 37, 38, 39, 40, 41, 42, 43, 44, 45, 46, 47, 48, 49, 50, 51, 52, 53, 54, 55, 56, 57, 58, 59, 60, 61, 62, 63, 64, 65, 66, 67, 68, 69, 70, 71, 72, 73, 74, 75, 76, 77, 78, 79, 80, 81, 82, 83, 84, 85, 86, 87, 88, 89, 90, 91, 92, 93, 94, 95, 96, 97, 98, 99, 100, 101, 102, 103, 104, 105, 106, 107, 108, 109, 110, 111, 112, 113, 114, 115, 116, 117, 118, 119, 120, 121, 122, 123, 124, 125, 126, 127, 128, 129, 130, 131, 132, 133, 134, 135, 136, 137, 138, 139, 140, 141, 142, 143, 144, 168, 169, 170, 171, 172, 173, 174, 175, 176, 177, 178, 179, 180, 181, 182, 183, 164, 165, 166, 167, 184, 185, 186, 187, 188] (by decide +kernel) (by decide +kernel)
set_option maxRecDepth 20000 in
theorem gX10_seats_X7_settle : GoodIn wsX10_seats (wsV RX10 307 RX7 yX7_settle wsX7_settle) := goodIn_app (goodIn_of _ (by decide +kernel)) ggX10_seats_X7_settle
set_option maxRecDepth 20000 in
theorem ggX10_seat_X10_needHare : GoodIn wsX10_seat wsX10_needHare := goodIn_ca (goodIn_r _ [8, 9, 10, 11, 12, 13, 14, 15, 7, 16, 157, 158, 159, 160, 161, 162, 163, 164, 165, 166, 167, 168, 169, 170, 171, 172, 173, 174, 175, 180, 181, 182, 183, 184, 185, 186, 187, 188, 189, 190, 191] (by decide +kernel) (by decide +kernel)) (goodIn_sub (fun _ h => List.mem_cons_of_mem _ (List.mem_append_right _ h)) (by decide +kernel))
set_option maxRecDepth 20000 in
theorem gX10_seat_X10_needHare : GoodIn wsX10_seat (wsV RX10 227 RX10 yX10_needHare wsX10_needHare) := goodIn_app (goodIn_of _ (by decide +kernel)) ggX10_seat_X10_needHare
set_option maxRecDepth 20000 in
theorem ggX10_ring_X6_settle : GoodIn wsX10_ring wsX6_settle := goodIn_r _ [8, 9, 10, 11, 12, 13, 14, 7, 15, 16, 17, 18, 19, 20, 21, 22, 23, 24, 25, 26, 27, 28, 29, 30, 31, 32, 33, 34, 35, 36, 37, 38, 39, 40, 41, 42, 43, 44, 45, 46, 47, 48, 49, 50, 70, 71, 72, 73, 74, 75, 76, 77, 78, 79, 80, 81, 82, 83, 84] (by decide +kernel) (by decide +kernel)
set_option maxRecDepth 20000 in
theorem gX10_ring_X6_settle : GoodIn wsX10_ring (wsV RX10 316 RX6 yX6_settle wsX6_settle) := goodIn_app (goodIn_of _ (by decide +kernel)) ggX10_ring_X6_settle
set_option maxRecDepth 20000 in
theorem ggX10_ringed_X10_needLegal : GoodIn wsX10_ringed wsX10_needLegal := goodIn_ca (goodIn_r _ [9, 10, 11, 12, 59, 60, 61, 62, 63, 64, 65, 66, 67, 68, 69, 70, 71, 72, 73, 74, 75, 76, 77] (by decide +kernel) (by decide +kernel)) (goodIn_sub (fun _ h => List.mem_cons_of_mem _ (List.mem_append_right _ h)) (by decide +kernel))
set_option maxRecDepth 20000 in
theorem gX10_ringed_X10_needLegal : GoodIn wsX10_ringed (wsV RX10 322 RX10 yX10_needLegal wsX10_needLegal) := goodIn_app (goodIn_of _ (by decide +kernel)) ggX10_ringed_X10_needLegal
set_option maxRecDepth 20000 in
theorem ggX10_bouts_X10_needHare : GoodIn wsX10_bouts wsX10_needHare := goodIn_ca (goodIn_r _ [8, 9, 10, 2, 3, 11, 12, 13, 7, 14, 41, 42, 43, 44, 45, 46, 47, 48, 49, 50, 51, 52, 53, 54, 55, 56, 57, 58, 59, 60, 61, 62, 63, 64, 65, 66, 67, 68, 69, 70, 71] (by decide +kernel) (by decide +kernel)) (goodIn_sub (fun _ h => List.mem_cons_of_mem _ (List.mem_append_right _ h)) (by decide +kernel))
set_option maxRecDepth 20000 in
theorem gX10_bouts_X10_needHare : GoodIn wsX10_bouts (wsV RX10 227 RX10 yX10_needHare wsX10_needHare) := goodIn_app (goodIn_of _ (by decide +kernel)) ggX10_bouts_X10_needHare
set_option maxRecDepth 20000 in
theorem ggX10_fits_X10_needWithin : GoodIn wsX10_fits wsX10_needWithin := goodIn_ca (goodIn_r _ [10, 11, 12, 9, 13, 14, 15, 16, 17, 18, 19, 20, 80, 81, 82, 83, 84, 85, 86, 87, 88, 89, 90, 91, 92, 93, 94, 95, 96, 97, 98] (by decide +kernel) (by decide +kernel)) (goodIn_sub (fun _ h => List.mem_cons_of_mem _ (List.mem_append_right _ h)) (by decide +kernel))
set_option maxRecDepth 20000 in
theorem gX10_fits_X10_needWithin : GoodIn wsX10_fits (wsV RX10 180 RX10 yX10_needWithin wsX10_needWithin) := goodIn_app (goodIn_of _ (by decide +kernel)) ggX10_fits_X10_needWithin
set_option maxRecDepth 20000 in
theorem ggX10_fits_X3_settle : GoodIn wsX10_fits wsX3_settle := goodIn_r _ [25, 26, 27, 28, 29, 30, 31, 32, 33, 34, 35, 36, 37, 38, 39, 40, 41, 42, 43, 44, 45, 46, 47, 48, 49, 50, 51, 52, 53, 54, 55, 56, 57, 58, 59, 60, 61, 62, 63, 64, 24, 65, 66, 67, 68, 69, 70, 71, 72, 73, 74, 75, 76, 77, 78, 79, 110, 111, 112, 113, 114, 115, 116, 117, 118, 119, 120, 121, 122, 123, 124, 125, 99, 100, 101, 102, 103, 104, 105, 106, 107, 108, 109, 126, 127] (by decide +kernel) (by decide +kernel)
set_option maxRecDepth 20000 in
theorem gX10_fits_X3_settle : GoodIn wsX10_fits (wsV RX10 339 RX3 yX3_settle wsX3_settle) := goodIn_app (goodIn_of _ (by decide +kernel)) ggX10_fits_X3_settle
set_option maxRecDepth 20000 in
theorem ggX10_look_X10_needWithin : GoodIn wsX10_look wsX10_needWithin := goodIn_ca (goodIn_r _ [10, 11, 12, 9, 13, 14, 15, 16, 17, 18, 19, 20, 105, 106, 107, 108, 109, 110, 111, 112, 113, 114, 115, 116, 117, 118, 119, 120, 121, 122, 123] (by decide +kernel) (by decide +kernel)) (goodIn_sub (fun _ h => List.mem_cons_of_mem _ (List.mem_append_right _ h)) (by decide +kernel))
set_option maxRecDepth 20000 in
theorem gX10_look_X10_needWithin : GoodIn wsX10_look (wsV RX10 180 RX10 yX10_needWithin wsX10_needWithin) := goodIn_app (goodIn_of _ (by decide +kernel)) ggX10_look_X10_needWithin
set_option maxRecDepth 20000 in
theorem ggX10_look_X3_settle : GoodIn wsX10_look wsX3_settle := goodIn_r _ [25, 26, 27, 28, 29, 30, 31, 32, 33, 34, 35, 36, 37, 38, 39, 40, 41, 42, 43, 44, 45, 46, 47, 48, 49, 50, 51, 52, 53, 54, 55, 56, 57, 58, 59, 60, 61, 62, 63, 64, 24, 65, 66, 67, 68, 69, 70, 71, 72, 73, 74, 75, 76, 77, 78, 79, 135, 136, 137, 138, 139, 140, 141, 142, 143, 144, 145, 146, 147, 148, 149, 150, 124, 125, 126, 127, 128, 129, 130, 131, 132, 133, 134, 151, 152] (by decide +kernel) (by decide +kernel)
set_option maxRecDepth 20000 in
theorem gX10_look_X3_settle : GoodIn wsX10_look (wsV RX10 339 RX3 yX3_settle wsX3_settle) := goodIn_app (goodIn_of _ (by decide +kernel)) ggX10_look_X3_settle
set_option maxRecDepth 20000 in
theorem ggX10_look_X3_lookAhead : GoodIn wsX10_look wsX3_lookAhead := goodIn_r _ [83, 84, 85, 30, 31, 86, 87, 88, 77, 89, 79, 90, 91, 92, 24, 93, 94, 28, 36, 95, 96, 97, 98, 99, 9, 100, 70, 71, 72, 73, 34, 35, 101, 102, 103, 104, 12, 13, 124, 125, 126, 127, 128, 129, 130, 131, 132, 133, 134, 151, 152] (by decide +kernel) (by decide +kernel)
set_option maxRecDepth 20000 in
theorem gX10_look_X3_lookAhead : GoodIn wsX10_look (wsV RX10 346 RX3 yX3_lookAhead wsX3_lookAhead) := goodIn_app (goodIn_of _ (by decide +kernel)) ggX10_look_X3_lookAhead
set_option maxRecDepth 20000 in
theorem ggX10_watch_X10_needWithin : GoodIn wsX10_watch wsX10_needWithin := goodIn_ca (goodIn_r _ [6, 7, 8, 5, 9, 10, 11, 12, 13, 14, 15, 16, 51, 52, 53, 54, 55, 56, 57, 58, 59, 60, 61, 62, 63, 64, 65, 66, 67, 68, 69] (by decide +kernel) (by decide +kernel)) (goodIn_sub (fun _ h => List.mem_cons_of_mem _ (List.mem_append_right _ h)) (by decide +kernel))
set_option maxRecDepth 20000 in
theorem gX10_watch_X10_needWithin : GoodIn wsX10_watch (wsV RX10 180 RX10 yX10_needWithin wsX10_needWithin) := goodIn_app (goodIn_of _ (by decide +kernel)) ggX10_watch_X10_needWithin
set_option maxRecDepth 20000 in
theorem ggX10_watch_X2_watchers : GoodIn wsX10_watch wsX2_watchers := goodIn_r _ [21, 22, 23, 24, 25, 26, 20, 27, 28, 29, 30, 31, 32, 33, 34, 35, 36, 37, 38, 39, 40, 41, 42, 43, 44, 45, 46, 47, 48, 49, 5, 50, 70, 71, 72, 73, 74, 75, 76, 77, 78, 79, 80, 81] (by decide +kernel) (by decide +kernel)
set_option maxRecDepth 20000 in
theorem gX10_watch_X2_watchers : GoodIn wsX10_watch (wsV RX10 355 RX2 yX2_watchers wsX2_watchers) := goodIn_app (goodIn_of _ (by decide +kernel)) ggX10_watch_X2_watchers
set_option maxRecDepth 20000 in
theorem ggX10_few_X10_needWithin : GoodIn wsX10_few wsX10_needWithin := goodIn_ca (goodIn_r _ [5, 6, 7, 4, 8, 9, 10, 11, 12, 13, 14, 15, 22, 23, 24, 25, 26, 27, 28, 29, 30, 31, 32, 33, 34, 35, 36, 37, 38, 39, 40] (by decide +kernel) (by decide +kernel)) (goodIn_sub (fun _ h => List.mem_cons_of_mem _ (List.mem_append_right _ h)) (by decide +kernel))
set_option maxRecDepth 20000 in
theorem gX10_few_X10_needWithin : GoodIn wsX10_few (wsV RX10 180 RX10 yX10_needWithin wsX10_needWithin) := goodIn_app (goodIn_of _ (by decide +kernel)) ggX10_few_X10_needWithin
set_option maxRecDepth 20000 in
theorem ggX10_few_X10_choices : GoodIn wsX10_few wsX10_choices := goodIn_r _ [18] (by decide +kernel) (by decide +kernel)
set_option maxRecDepth 20000 in
theorem gX10_few_X10_choices : GoodIn wsX10_few (va_wsS RX10 358 yX10_choices wsX10_choices) := goodIn_app (goodIn_of _ (by decide +kernel)) ggX10_few_X10_choices
set_option maxRecDepth 20000 in
theorem ggX10_few_X10_power : GoodIn wsX10_few wsX10_power := goodIn_r _ [21] (by decide +kernel) (by decide +kernel)
set_option maxRecDepth 20000 in
theorem gX10_few_X10_power : GoodIn wsX10_few (va_wsS RX10 362 yX10_power wsX10_power) := goodIn_app (goodIn_of _ (by decide +kernel)) ggX10_few_X10_power
set_option maxRecDepth 20000 in
theorem ggX10_road_X10_needWithin : GoodIn wsX10_road wsX10_needWithin := goodIn_ca (goodIn_r _ [5, 6, 7, 4, 8, 9, 10, 11, 12, 13, 14, 15, 19, 20, 21, 22, 23, 24, 25, 26, 27, 28, 29, 30, 31, 32, 33, 34, 35, 36, 37] (by decide +kernel) (by decide +kernel)) (goodIn_sub (fun _ h => List.mem_cons_of_mem _ (List.mem_append_right _ h)) (by decide +kernel))
set_option maxRecDepth 20000 in
theorem gX10_road_X10_needWithin : GoodIn wsX10_road (wsV RX10 180 RX10 yX10_needWithin wsX10_needWithin) := goodIn_app (goodIn_of _ (by decide +kernel)) ggX10_road_X10_needWithin
set_option maxRecDepth 20000 in
theorem ggX10_road_X10_gain : GoodIn wsX10_road wsX10_gain := goodIn_r _ [18] (by decide +kernel) (by decide +kernel)
set_option maxRecDepth 20000 in
theorem gX10_road_X10_gain : GoodIn wsX10_road (va_wsS RX10 365 yX10_gain wsX10_gain) := goodIn_app (goodIn_of _ (by decide +kernel)) ggX10_road_X10_gain
set_option maxRecDepth 20000 in
theorem ggX10_clover_X10_needHare : GoodIn wsX10_clover wsX10_needHare := goodIn_ca (goodIn_r _ [8, 9, 10, 1, 2, 11, 12, 13, 7, 14, 54, 55, 56, 57, 58, 59, 60, 61, 62, 63, 64, 65, 66, 67, 68, 69, 70, 71, 72, 73, 74, 75, 76, 77, 78, 79, 80, 81, 82, 83, 84] (by decide +kernel) (by decide +kernel)) (goodIn_sub (fun _ h => List.mem_cons_of_mem _ (List.mem_append_left _ (List.mem_append_right _ h))) (by decide +kernel))
set_option maxRecDepth 20000 in
theorem gX10_clover_X10_needHare : GoodIn wsX10_clover (wsV RX10 227 RX10 yX10_needHare wsX10_needHare) := goodIn_app (goodIn_of _ (by decide +kernel)) ggX10_clover_X10_needHare
set_option maxRecDepth 20000 in
theorem ggX10_strongest_X10_needWithin : GoodIn wsX10_strongest wsX10_needWithin := goodIn_ca (goodIn_r _ [8, 9, 10, 7, 11, 12, 13, 14, 15, 16, 17, 18, 29, 30, 31, 32, 33, 34, 35, 36, 37, 38, 39, 40, 41, 42, 43, 44, 45, 46, 47] (by decide +kernel) (by decide +kernel)) (goodIn_sub (fun _ h => List.mem_cons_of_mem _ (List.mem_append_right _ h)) (by decide +kernel))
set_option maxRecDepth 20000 in
theorem gX10_strongest_X10_needWithin : GoodIn wsX10_strongest (wsV RX10 180 RX10 yX10_needWithin wsX10_needWithin) := goodIn_app (goodIn_of _ (by decide +kernel)) ggX10_strongest_X10_needWithin
set_option maxRecDepth 20000 in
theorem ggX10_ties_X10_needHare : GoodIn wsX10_ties wsX10_needHare := goodIn_ca (goodIn_r _ [8, 9, 10, 1, 2, 11, 12, 13, 7, 14, 32, 33, 34, 35, 36, 37, 38, 39, 40, 41, 42, 43, 44, 45, 46, 47, 48, 49, 50, 51, 52, 53, 54, 55, 56, 57, 58, 59, 60, 61, 62] (by decide +kernel) (by decide +kernel)) (goodIn_sub (fun _ h => List.mem_cons_of_mem _ (List.mem_append_left _ (List.mem_append_right _ h))) (by decide +kernel))
set_option maxRecDepth 20000 in
theorem gX10_ties_X10_needHare : GoodIn wsX10_ties (wsV RX10 227 RX10 yX10_needHare wsX10_needHare) := goodIn_app (goodIn_of _ (by decide +kernel)) ggX10_ties_X10_needHare
set_option maxRecDepth 20000 in
theorem ggX10_refuge_X10_needForm : GoodIn wsX10_refuge wsX10_needForm := goodIn_ca (goodIn_r _ [7, 8, 9, 1, 2, 10, 11, 12, 6, 13, 43, 44, 45, 46, 47, 48, 49, 50, 51, 52, 53, 54, 55, 56, 57, 58, 59, 60, 61, 62, 63, 64, 65, 66, 67, 68, 69, 70, 71, 72, 73] (by decide +kernel) (by decide +kernel)) (goodIn_sub (fun _ h => List.mem_cons_of_mem _ (List.mem_append_left _ (List.mem_append_right _ h))) (by decide +kernel))
set_option maxRecDepth 20000 in
theorem gX10_refuge_X10_needForm : GoodIn wsX10_refuge (wsV RX10 209 RX10 yX10_needForm wsX10_needForm) := goodIn_app (goodIn_of _ (by decide +kernel)) ggX10_refuge_X10_needForm
set_option maxRecDepth 20000 in
theorem ggX10_range_X10_needHare : GoodIn wsX10_range wsX10_needHare := goodIn_ca (goodIn_r _ [6, 7, 8, 9, 10, 11, 12, 13, 5, 14, 117, 118, 119, 120, 121, 122, 123, 124, 125, 126, 127, 128, 129, 130, 131, 132, 133, 134, 135, 136, 137, 138, 139, 140, 141, 142, 143, 144, 145, 146, 147] (by decide +kernel) (by decide +kernel)) (goodIn_sub (fun _ h => List.mem_cons_of_mem _ (List.mem_append_right _ h)) (by decide +kernel))
set_option maxRecDepth 20000 in
theorem gX10_range_X10_needHare : GoodIn wsX10_range (wsV RX10 227 RX10 yX10_needHare wsX10_needHare) := goodIn_app (goodIn_of _ (by decide +kernel)) ggX10_range_X10_needHare
set_option maxRecDepth 20000 in
theorem ggX10_march_X10_needWithin : GoodIn wsX10_march wsX10_needWithin := goodIn_ca (goodIn_r _ [7, 8, 9, 6, 10, 11, 12, 13, 14, 15, 16, 17, 194, 195, 196, 197, 198, 199, 200, 201, 202, 203, 204, 205, 206, 207, 208, 209, 210, 211, 212] (by decide +kernel) (by decide +kernel)) (goodIn_sub (fun _ h => List.mem_cons_of_mem _ (List.mem_append_right _ h)) (by decide +kernel))
set_option maxRecDepth 20000 in
theorem gX10_march_X10_needWithin : GoodIn wsX10_march (wsV RX10 180 RX10 yX10_needWithin wsX10_needWithin) := goodIn_app (goodIn_of _ (by decide +kernel)) ggX10_march_X10_needWithin
set_option maxRecDepth 20000 in
theorem ggX10_march_X1_copyFrom : GoodIn wsX10_march wsX1_copyFrom := goodIn_r _ [22, 23, 24, 25, 26, 27, 28, 29, 213, 214, 215, 216] (by decide +kernel) (by decide +kernel)
set_option maxRecDepth 20000 in
theorem gX10_march_X1_copyFrom : GoodIn wsX10_march (wsV RX10 297 RX1 yX1_copyFrom wsX1_copyFrom) := goodIn_app (goodIn_of _ (by decide +kernel)) ggX10_march_X1_copyFrom
set_option maxRecDepth 20000 in
theorem ggX10_march_X1_drawDays : GoodIn wsX10_march wsX1_drawDays := goodIn_r _ [33, 23, 34, 35, 36, 37, 21, 38, 39, 40, 41, 42, 43, 44, 45, 46, 47, 48, 49, 50, 51, 52, 53, 54, 25, 55, 56, 57, 58, 59, 60, 61, 62, 63, 64, 65, 66, 67, 68, 69, 70, 71, 72, 73, 24, 74, 75, 76, 77, 78, 79, 80, 81, 82, 83, 84, 85, 86, 87, 88, 89, 90, 91, 92, 93, 94, 95, 96, 97, 98, 99, 100, 101, 102, 103, 104, 105, 106, 107, 108, 109, 110, 111, 112, 113, 114, 115, 116, 117, 118, 119, 120, 121, 122, 123, 124, 125, 126, 127, 128, 129, 130, 131, 132, 133, 134, 135, 136, 137, 138, 139, 140, 141, 142, 143, 144, 145, 146, 147, 148, 149, 150, 151, 152, 153, 154, 155, 156, 157, 158, 159, 160, 161, 162, 163, 164, 165, 6, 166, 167, 168, 169, 170, 171, 172, 173, 174, 175, 176, 177, 178, 179, 180, 181, 182, 183, 184, 213, 214, 215, 216, 217, 218, 219, 220, 221, 222, 223, 224, 225, 226, 227, 228, 229, 230, 231, 232, 233] (by decide +kernel) (by decide +kernel)
set_option maxRecDepth 20000 in
theorem gX10_march_X1_drawDays : GoodIn wsX10_march (wsV RX10 375 RX1 yX1_drawDays wsX1_drawDays) := goodIn_app (goodIn_of _ (by decide +kernel)) ggX10_march_X1_drawDays
set_option maxRecDepth 20000 in
theorem ggX10_march_X1_caughtOnes : GoodIn wsX10_march wsX1_caughtOnes := goodIn_r _ [188, 25, 213, 214, 215, 216] (by decide +kernel) (by decide +kernel)
set_option maxRecDepth 20000 in
theorem gX10_march_X1_caughtOnes : GoodIn wsX10_march (wsV RX10 194 RX1 yX1_caughtOnes wsX1_caughtOnes) := goodIn_app (goodIn_of _ (by decide +kernel)) ggX10_march_X1_caughtOnes
set_option maxRecDepth 20000 in
theorem ggX10_march_X1_strongTogether : GoodIn wsX10_march wsX1_strongTogether := goodIn_r _ [192, 23, 34, 51, 52, 53, 21, 54, 25, 85, 86, 87, 88, 213, 214, 215, 216, 217, 218, 219, 220, 221, 222, 223, 224, 225, 226, 227, 228] (by decide +kernel) (by decide +kernel)
set_option maxRecDepth 20000 in
theorem gX10_march_X1_strongTogether : GoodIn wsX10_march (wsV RX10 378 RX1 yX1_strongTogether wsX1_strongTogether) := goodIn_app (goodIn_of _ (by decide +kernel)) ggX10_march_X1_strongTogether
set_option maxRecDepth 20000 in
theorem ggX10_march_X1_day : GoodIn wsX10_march wsX1_day := goodIn_r _ [114, 25, 213, 214, 215, 216] (by decide +kernel) (by decide +kernel)
set_option maxRecDepth 20000 in
theorem gX10_march_X1_day : GoodIn wsX10_march (wsV RX10 187 RX1 yX1_day wsX1_day) := goodIn_app (goodIn_of _ (by decide +kernel)) ggX10_march_X1_day
set_option maxRecDepth 20000 in
theorem ggX10_span_X10_needWithin : GoodIn wsX10_span wsX10_needWithin := goodIn_ca (goodIn_r _ [17, 18, 19, 16, 20, 21, 22, 23, 24, 25, 26, 27, 191, 192, 193, 194, 195, 196, 197, 198, 199, 200, 201, 202, 203, 204, 205, 206, 207, 208, 209] (by decide +kernel) (by decide +kernel)) (goodIn_sub (fun _ h => List.mem_cons_of_mem _ (List.mem_append_right _ h)) (by decide +kernel))
set_option maxRecDepth 20000 in
theorem gX10_span_X10_needWithin : GoodIn wsX10_span (wsV RX10 180 RX10 yX10_needWithin wsX10_needWithin) := goodIn_app (goodIn_of _ (by decide +kernel)) ggX10_span_X10_needWithin
set_option maxRecDepth 20000 in
theorem ggX10_image_X5_copyFrom : GoodIn wsX10_image wsX5_copyFrom := goodIn_r _ [9, 10, 11, 12, 13, 14, 15, 40, 41] (by decide +kernel) (by decide +kernel)
set_option maxRecDepth 20000 in
theorem gX10_image_X5_copyFrom : GoodIn wsX10_image (wsV RX10 392 RX5 yX5_copyFrom wsX5_copyFrom) := goodIn_app (goodIn_of _ (by decide +kernel)) ggX10_image_X5_copyFrom
set_option maxRecDepth 20000 in
theorem ggX10_image_X5_push : GoodIn wsX10_image wsX5_push := goodIn_r _ [19, 11, 20, 10, 12, 13, 14, 15, 40, 41, 42, 43, 44, 45] (by decide +kernel) (by decide +kernel)
set_option maxRecDepth 20000 in
theorem gX10_image_X5_push : GoodIn wsX10_image (wsV RX10 155 RX5 yX5_push wsX5_push) := goodIn_app (goodIn_of _ (by decide +kernel)) ggX10_image_X5_push
set_option maxRecDepth 20000 in
theorem ggX10_openText_X10_needWithin : GoodIn wsX10_openText wsX10_needWithin := goodIn_ca (goodIn_r _ [11, 12, 13, 10, 14, 15, 16, 17, 18, 19, 20, 21, 34, 35, 36, 37, 38, 39, 40, 41, 42, 43, 44, 45, 46, 47, 48, 49, 50, 51, 52] (by decide +kernel) (by decide +kernel)) (goodIn_sub (fun _ h => List.mem_cons_of_mem _ (List.mem_append_right _ h)) (by decide +kernel))
set_option maxRecDepth 20000 in
theorem gX10_openText_X10_needWithin : GoodIn wsX10_openText (wsV RX10 180 RX10 yX10_needWithin wsX10_needWithin) := goodIn_app (goodIn_of _ (by decide +kernel)) ggX10_openText_X10_needWithin
set_option maxRecDepth 20000 in
theorem ggX10_openText_X8_open : GoodIn wsX10_openText wsX8_open := goodIn_r _ [26, 27, 4, 5, 6, 28, 29, 30, 31, 32, 33, 53, 54, 55, 56, 57, 58, 59] (by decide +kernel) (by decide +kernel)
set_option maxRecDepth 20000 in
theorem gX10_openText_X8_open : GoodIn wsX10_openText (wsV RX10 398 RX8 yX8_open wsX8_open) := goodIn_app (goodIn_of _ (by decide +kernel)) ggX10_openText_X8_open
set_option maxRecDepth 20000 in
theorem ggX10_needForm_X10_within : GoodIn wsX10_needForm wsX10_within := goodIn_r _ [9] (by decide +kernel) (by decide +kernel)
set_option maxRecDepth 20000 in
theorem gX10_needForm_X10_within : GoodIn wsX10_needForm (va_wsS RX10 257 yX10_within wsX10_within) := goodIn_app (goodIn_of _ (by decide +kernel)) ggX10_needForm_X10_within
set_option maxRecDepth 20000 in
theorem ggX10_needHare_X10_within : GoodIn wsX10_needHare wsX10_within := goodIn_r _ [9] (by decide +kernel) (by decide +kernel)
set_option maxRecDepth 20000 in
theorem gX10_needHare_X10_within : GoodIn wsX10_needHare (va_wsS RX10 257 yX10_within wsX10_within) := goodIn_app (goodIn_of _ (by decide +kernel)) ggX10_needHare_X10_within
set_option maxRecDepth 20000 in
theorem ggX10_needWithin_X10_within : GoodIn wsX10_needWithin wsX10_within := goodIn_r _ [4] (by decide +kernel) (by decide +kernel)
set_option maxRecDepth 20000 in
theorem gX10_needWithin_X10_within : GoodIn wsX10_needWithin (va_wsS RX10 257 yX10_within wsX10_within) := goodIn_app (goodIn_of _ (by decide +kernel)) ggX10_needWithin_X10_within
set_option maxRecDepth 20000 in
theorem ggX10_needWithin_X10_needLegal : GoodIn wsX10_needWithin wsX10_needLegal := goodIn_ca (goodIn_r _ [8, 9, 10, 11, 12, 13, 14, 15, 16, 17, 18, 19, 20, 21, 22, 23, 24, 25, 26, 27, 28, 29, 30] (by decide +kernel) (by decide +kernel)) (goodIn_sub (fun _ h => List.mem_cons_of_mem _ (List.mem_append_right _ h)) (by decide +kernel))
set_option maxRecDepth 20000 in
theorem gX10_needWithin_X10_needLegal : GoodIn wsX10_needWithin (wsV RX10 322 RX10 yX10_needLegal wsX10_needLegal) := goodIn_app (goodIn_of _ (by decide +kernel)) ggX10_needWithin_X10_needLegal
set_option maxRecDepth 20000 in
theorem ggX11_init_X11_clears : GoodIn wsX11_init wsX11_clears := goodIn_r _ [40, 41, 42, 43, 11, 60, 61, 62, 63, 64, 65, 66, 67, 68, 69, 70, 71, 72, 73, 74, 75, 76, 77, 78, 79, 80, 81, 82, 83, 84, 85, 86, 87, 88, 89, 90, 91, 92, 93, 94, 95, 96, 97, 98, 99, 100, 101, 102, 103, 104, 105, 106, 107, 108, 109, 110, 111, 112, 113, 114] (by decide +kernel) (by decide +kernel)
set_option maxRecDepth 20000 in
theorem gX11_init_X11_clears : GoodIn wsX11_init (wsV RX11 105 RX11 yX11_clears wsX11_clears) := goodIn_app (goodIn_of _ (by decide +kernel)) ggX11_init_X11_clears
set_option maxRecDepth 20000 in
theorem ggX11_init_X11_sets : GoodIn wsX11_init wsX11_sets := goodIn_r _ [47, 41, 48, 42, 49, 43, 50, 8, 12, 9, 13, 10, 14, 51, 52, 53, 54, 55, 27, 23, 11, 56, 57, 58, 39, 59, 60, 61, 62, 63, 64, 65, 66, 67, 68, 69, 70, 71, 72, 73, 74, 75, 76, 77, 78, 79, 80, 81, 82, 83, 84, 85, 86, 87, 88, 89, 90, 91, 92, 93, 94, 95, 96, 97, 98, 99, 100, 101, 102, 103, 104, 105, 106, 107, 108, 109, 110, 111, 112, 113, 114] (by decide +kernel) (by decide +kernel)
set_option maxRecDepth 20000 in
theorem gX11_init_X11_sets : GoodIn wsX11_init (wsV RX11 108 RX11 yX11_sets wsX11_sets) := goodIn_app (goodIn_of _ (by decide +kernel)) ggX11_init_X11_sets
set_option maxRecDepth 20000 in
theorem ggX11_word_X11_here : GoodIn wsX11_word wsX11_here := goodIn_r _ [8, 1, 2, 3, 12, 13, 14, 15, 16, 17, 18, 19, 20, 21, 22, 23, 24, 25, 26, 27, 28, 29, 30, 31, 32, 33, 34, 35, 36, 37, 38, 39, 40, 41, 42, 43, 44, 45, 46, 47, 48, 49, 50, 51, 52, 53, 54, 55, 56, 57, 58, 59, 60, 61, 62, 63, 64, 65, 66] (by decide +kernel) (by decide +kernel)
set_option maxRecDepth 20000 in
theorem gX11_word_X11_here : GoodIn wsX11_word (wsV RX11 126 RX11 yX11_here wsX11_here) := goodIn_app (goodIn_of _ (by decide +kernel)) ggX11_word_X11_here
set_option maxRecDepth 20000 in
theorem ggX11_of_J0_length_8abf5 : GoodIn wsX11_of wsJ0_length_8abf5 := goodIn_r _ [5, 6, 7, 8, 9, 4, 10, 11, 12] (by decide +kernel) (by decide +kernel)
set_option maxRecDepth 20000 in
theorem gX11_of_J0_length_8abf5 : GoodIn wsX11_of (wsV RX11 134 RJ0 yJ0_length_8abf5 wsJ0_length_8abf5) := goodIn_app (goodIn_of _ (by decide +kernel)) ggX11_of_J0_length_8abf5
set_option maxRecDepth 20000 in
theorem ggX11_of_J0_charAt_5068e : GoodIn wsX11_of wsJ0_charAt_5068e := goodIn_r _ [16, 6, 17, 18, 19, 4, 20, 11, 12, 21, 22, 23, 24, 25, 26, 27, 28, 29, 30, 31, 32, 33, 34, 35, 36, 37, 38, 39, 40, 41, 42, 43, 44, 45, 46, 47, 48, 49] (by decide +kernel) (by decide +kernel)
set_option maxRecDepth 20000 in
theorem gX11_of_J0_charAt_5068e : GoodIn wsX11_of (wsV RX11 139 RJ0 yJ0_charAt_5068e wsJ0_charAt_5068e) := goodIn_app (goodIn_of _ (by decide +kernel)) ggX11_of_J0_charAt_5068e
set_option maxRecDepth 20000 in
theorem ggX11_isMore_X11_here : GoodIn wsX11_isMore wsX11_here := goodIn_r _ [7, 1, 2, 8, 9, 10, 11, 12, 13, 14, 15, 16, 17, 18, 19, 20, 21, 22, 23, 24, 25, 26, 27, 28, 29, 30, 31, 32, 33, 34, 35, 36, 37, 38, 39, 40, 41, 42, 43, 44, 45, 46, 47, 48, 49, 50, 51, 52, 53, 54, 55, 56, 57, 58, 59, 60, 61, 62, 63] (by decide +kernel) (by decide +kernel)
set_option maxRecDepth 20000 in
theorem gX11_isMore_X11_here : GoodIn wsX11_isMore (wsV RX11 126 RX11 yX11_here wsX11_here) := goodIn_app (goodIn_of _ (by decide +kernel)) ggX11_isMore_X11_here
set_option maxRecDepth 20000 in
theorem ggX11_result_X11_fine : GoodIn wsX11_result wsX11_fine := goodIn_r _ [8, 1, 9, 10, 11, 12, 13, 14, 15, 16, 17, 18, 19, 20, 21, 22, 23, 24, 25, 26, 27, 28, 29, 30, 31, 32, 33, 34, 35, 36, 37, 38, 39, 40, 41, 42, 43, 44, 45, 46, 47, 48, 49, 50, 51, 52, 53, 54, 55, 56, 57, 58, 59, 60, 61, 62, 63] (by decide +kernel) (by decide +kernel)
set_option maxRecDepth 20000 in
theorem gX11_result_X11_fine : GoodIn wsX11_result (wsV RX11 143 RX11 yX11_fine wsX11_fine) := goodIn_app (goodIn_of _ (by decide +kernel)) ggX11_result_X11_fine
set_option maxRecDepth 20000 in
theorem ggX11_sets_X11_copies : GoodIn wsX11_sets wsX11_copies := goodIn_r _ [25] (by decide +kernel) (by decide +kernel)
set_option maxRecDepth 20000 in
theorem gX11_sets_X11_copies : GoodIn wsX11_sets (wsV RX11 175 RX11 yX11_copies wsX11_copies) := goodIn_app (goodIn_of _ (by decide +kernel)) ggX11_sets_X11_copies
set_option maxRecDepth 20000 in
theorem ggX11_down_X11_may : GoodIn wsX11_down wsX11_may := goodIn_r _ [10, 1, 11, 165, 166, 167, 168, 169, 170, 171, 172, 173, 174, 175, 176, 177, 178, 179, 180, 181, 182, 183, 184, 185, 186, 187, 188, 189, 190, 191, 192, 193, 194, 195, 196, 197, 198, 199, 200, 201, 202, 203, 204, 205, 206, 207, 208, 209, 210, 211, 212, 213, 214, 215, 216, 217, 218, 219] (by decide +kernel) (by decide +kernel)
set_option maxRecDepth 20000 in
theorem gX11_down_X11_may : GoodIn wsX11_down (wsV RX11 213 RX11 yX11_may wsX11_may) := goodIn_app (goodIn_of _ (by decide +kernel)) ggX11_down_X11_may
set_option maxRecDepth 20000 in
theorem ggX11_down_X11_begins : GoodIn wsX11_down wsX11_begins := goodIn_r _ [15, 2, 16, 17, 3, 5, 18, 165, 166, 167, 168, 169, 170, 171, 172, 173, 174, 175, 176, 177, 178, 179, 180, 181, 182, 183, 184, 185, 186, 187, 188, 189, 190, 191, 192, 193, 194, 195, 196, 197, 198, 199, 200, 201, 202, 203, 204, 205, 206, 207, 208, 209, 210, 211, 212, 213, 214, 215, 216, 217, 218, 219] (by decide +kernel) (by decide +kernel)
set_option maxRecDepth 20000 in
theorem gX11_down_X11_begins : GoodIn wsX11_down (wsV RX11 217 RX11 yX11_begins wsX11_begins) := goodIn_app (goodIn_of _ (by decide +kernel)) ggX11_down_X11_begins
set_option maxRecDepth 20000 in
theorem ggX11_down_X11_clears : GoodIn wsX11_down wsX11_clears := goodIn_r _ [22, 23, 4, 24, 25, 165, 166, 167, 168, 169, 170, 171, 172, 173, 174, 175, 176, 177, 178, 179, 180, 181, 182, 183, 184, 185, 186, 187, 188, 189, 190, 191, 192, 193, 194, 195, 196, 197, 198, 199, 200, 201, 202, 203, 204, 205, 206, 207, 208, 209, 210, 211, 212, 213, 214, 215, 216, 217, 218, 219] (by decide +kernel) (by decide +kernel)
set_option maxRecDepth 20000 in
theorem gX11_down_X11_clears : GoodIn wsX11_down (wsV RX11 105 RX11 yX11_clears wsX11_clears) := goodIn_app (goodIn_of _ (by decide +kernel)) ggX11_down_X11_clears
set_option maxRecDepth 20000 in
theorem ggX11_down_X11_fine : GoodIn wsX11_down wsX11_fine := goodIn_r _ [29, 5, 165, 166, 167, 168, 169, 170, 171, 172, 173, 174, 175, 176, 177, 178, 179, 180, 181, 182, 183, 184, 185, 186, 187, 188, 189, 190, 191, 192, 193, 194, 195, 196, 197, 198, 199, 200, 201, 202, 203, 204, 205, 206, 207, 208, 209, 210, 211, 212, 213, 214, 215, 216, 217, 218, 219] (by decide +kernel) (by decide +kernel)
set_option maxRecDepth 20000 in
theorem gX11_down_X11_fine : GoodIn wsX11_down (wsV RX11 143 RX11 yX11_fine wsX11_fine) := goodIn_app (goodIn_of _ (by decide +kernel)) ggX11_down_X11_fine
set_option maxRecDepth 20000 in
theorem ggX11_down_X11_isMore : GoodIn wsX11_down wsX11_isMore := goodIn_r _ [33, 3, 17, 34, 35, 36, 9, 37, 38, 165, 166, 167, 168, 169, 170, 171, 172, 173, 174, 175, 176, 177, 178, 179, 180, 181, 182, 183, 184, 185, 186, 187, 188, 189, 190, 191, 192, 193, 194, 195, 196, 197, 198, 199, 200, 201, 202, 203, 204, 205, 206, 207, 208, 209, 210, 211, 212, 213, 214, 215, 216, 217, 218, 219] (by decide +kernel) (by decide +kernel)
set_option maxRecDepth 20000 in
theorem gX11_down_X11_isMore : GoodIn wsX11_down (wsV RX11 221 RX11 yX11_isMore wsX11_isMore) := goodIn_app (goodIn_of _ (by decide +kernel)) ggX11_down_X11_isMore
set_option maxRecDepth 20000 in
theorem ggX11_down_X11_result : GoodIn wsX11_down wsX11_result := goodIn_r _ [143, 5, 16, 105, 26, 27, 28, 9, 29, 165, 166, 167, 168, 169, 170, 171, 172, 173, 174, 175, 176, 177, 178, 179, 180, 181, 182, 183, 184, 185, 186, 187, 188, 189, 190, 191, 192, 193, 194, 195, 196, 197, 198, 199, 200, 201, 202, 203, 204, 205, 206, 207, 208, 209, 210, 211, 212, 213, 214, 215, 216, 217, 218, 219] (by decide +kernel) (by decide +kernel)
set_option maxRecDepth 20000 in
theorem gX11_down_X11_result : GoodIn wsX11_down (wsV RX11 242 RX11 yX11_result wsX11_result) := goodIn_app (goodIn_of _ (by decide +kernel)) ggX11_down_X11_result
set_option maxRecDepth 20000 in
theorem ggX11_down_X11_sets : GoodIn wsX11_down wsX11_sets := goodIn_r _ [147, 23, 148, 4, 149, 24, 150, 118, 151, 119, 152, 120, 153, 154, 155, 156, 157, 158, 159, 160, 25, 161, 162, 163, 9, 164, 165, 166, 167, 168, 169, 170, 171, 172, 173, 174, 175, 176, 177, 178, 179, 180, 181, 182, 183, 184, 185, 186, 187, 188, 189, 190, 191, 192, 193, 194, 195, 196, 197, 198, 199, 200, 201, 202, 203, 204, 205, 206, 207, 208, 209, 210, 211, 212, 213, 214, 215, 216, 217, 218, 219] (by decide +kernel) (by decide +kernel)
set_option maxRecDepth 20000 in
theorem gX11_down_X11_sets : GoodIn wsX11_down (wsV RX11 108 RX11 yX11_sets wsX11_sets) := goodIn_app (goodIn_of _ (by decide +kernel)) ggX11_down_X11_sets
set_option maxRecDepth 20000 in
theorem ggX11_readSum_X11_readProduct : GoodIn wsX11_readSum wsX11_readProduct := goodIn_r _ [24, 1, 25, 26, 27, 5, 6, 7, 8, 9, 10, 11, 12, 13, 14, 15, 16, 17, 18, 19, 20, 21, 22, 23, 0, 2, 3, 4, 28, 29, 30, 31, 32, 33, 34, 35, 36, 37, 38, 39, 40, 41, 42, 43, 44, 45, 46, 47, 48, 49, 50, 51, 52, 53, 54, 55, 56, 57, 58, 59, 60, 61, 62, 63, 64, 65, 66, 67, 68, 69, 70, 71, 72, 73, 74, 75, 76, 77, 78, 79, 80, 81, 82, 83, 84, 85, 86, 87, 88, 89, 90, 91, 92, 93, 94, 95, 96, 97, 98, 99, 100, 101, 102, 103, 104, 105, 106, 107, 108, 109, 110, 111, 112, 113, 114, 115, 116, 117, 118, 119, 120, 121, 122, 123, 124, 125, 126, 127, 128, 129, 130, 131, 132, 133, 134, 135, 136, 137, 138, 139, 140, 141, 142, 143, 144, 145, 146, 147, 148, 149, 150, 151, 152, 153, 154, 155, 156, 157, 158, 159, 160, 161, 162, 163, 164, 165, 166, 167, 168, 169, 170, 171, 172, 173, 174, 175, 176, 177, 178] (by decide +kernel) (by decide +kernel)
set_option maxRecDepth 20000 in
theorem gX11_readSum_X11_readProduct : GoodIn wsX11_readSum (wsV RX11 249 RX11 yX11_readProduct wsX11_readProduct) := goodIn_app (goodIn_of _ (by decide +kernel)) ggX11_readSum_X11_readProduct
set_option maxRecDepth 20000 in
theorem ggX11_readSum_X11_fine : GoodIn wsX11_readSum wsX11_fine := goodIn_r _ [9, 10, 124, 125, 126, 127, 128, 129, 130, 131, 132, 133, 134, 135, 136, 137, 138, 139, 140, 141, 142, 143, 144, 145, 146, 147, 148, 149, 150, 151, 152, 153, 154, 155, 156, 157, 158, 159, 160, 161, 162, 163, 164, 165, 166, 167, 168, 169, 170, 171, 172, 173, 174, 175, 176, 177, 178] (by decide +kernel) (by decide +kernel)
set_option maxRecDepth 20000 in
theorem gX11_readSum_X11_fine : GoodIn wsX11_readSum (wsV RX11 143 RX11 yX11_fine wsX11_fine) := goodIn_app (goodIn_of _ (by decide +kernel)) ggX11_readSum_X11_fine
set_option maxRecDepth 20000 in
theorem ggX11_readProduct_X11_readUnit : GoodIn wsX11_readProduct wsX11_readUnit := goodIn_r _ [46, 29, 1, 6, 7, 8, 5, 9, 10, 11, 12, 13, 14, 15, 16, 30, 31, 32, 33, 34, 35, 36, 37, 38, 43, 44, 45, 39, 40, 41, 42, 47, 48, 49, 50, 51, 52, 53, 17, 18, 19, 20, 21, 22, 23, 54, 55, 56, 57, 58, 59, 60, 61, 62, 63, 64, 65, 66, 67, 68, 69, 70, 71, 72, 73, 74, 75, 76, 77, 78, 79, 80, 81, 82, 83, 84, 85, 86, 87, 88, 89, 90, 91, 92, 93, 94, 95, 96, 97, 98, 99, 100, 101, 102, 103, 104, 105, 106, 107, 108, 109, 110, 111, 112, 113, 114, 115, 116, 117, 118, 119, 120, 121, 122, 123, 0, 2, 3, 4, 24, 25, 26, 27, 28, 124, 125, 126, 127, 128, 129, 130, 131, 132, 133, 134, 135, 136, 137, 138, 139, 140, 141, 142, 143, 144, 145, 146, 147, 148, 149, 150, 151, 152, 153, 154, 155, 156, 157, 158, 159, 160, 161, 162, 163, 164, 165, 166, 167, 168, 169, 170, 171, 172, 173, 174, 175, 176, 177, 178] (by decide +kernel) (by decide +kernel)
set_option maxRecDepth 20000 in
theorem gX11_readProduct_X11_readUnit : GoodIn wsX11_readProduct (wsV RX11 255 RX11 yX11_readUnit wsX11_readUnit) := goodIn_app (goodIn_of _ (by decide +kernel)) ggX11_readProduct_X11_readUnit
set_option maxRecDepth 20000 in
theorem ggX11_readProduct_X11_fine : GoodIn wsX11_readProduct wsX11_fine := goodIn_r _ [9, 10, 124, 125, 126, 127, 128, 129, 130, 131, 132, 133, 134, 135, 136, 137, 138, 139, 140, 141, 142, 143, 144, 145, 146, 147, 148, 149, 150, 151, 152, 153, 154, 155, 156, 157, 158, 159, 160, 161, 162, 163, 164, 165, 166, 167, 168, 169, 170, 171, 172, 173, 174, 175, 176, 177, 178] (by decide +kernel) (by decide +kernel)
set_option maxRecDepth 20000 in
theorem gX11_readProduct_X11_fine : GoodIn wsX11_readProduct (wsV RX11 143 RX11 yX11_fine wsX11_fine) := goodIn_app (goodIn_of _ (by decide +kernel)) ggX11_readProduct_X11_fine
set_option maxRecDepth 20000 in
theorem ggX11_factHere_X11_word : GoodIn wsX11_factHere wsX11_word := goodIn_r _ [5, 6, 7, 8, 9, 10, 11, 4, 12, 13, 14, 15, 68, 69, 70, 71, 72, 73, 74, 75, 76, 77, 78, 79, 80, 81, 82, 83, 84, 85, 86, 87, 88, 89, 90, 91, 92, 93, 94, 95, 96, 97, 98, 99, 100, 101, 102, 103, 104, 105, 106, 107, 108, 109, 110, 111, 112, 113, 114, 115, 116, 117, 118, 119, 120, 121, 122] (by decide +kernel) (by decide +kernel)
set_option maxRecDepth 20000 in
theorem gX11_factHere_X11_word : GoodIn wsX11_factHere (wsV RX11 224 RX11 yX11_word wsX11_word) := goodIn_app (goodIn_of _ (by decide +kernel)) ggX11_factHere_X11_word
set_option maxRecDepth 20000 in
theorem ggX11_factHere_X11_of : GoodIn wsX11_factHere wsX11_of := goodIn_r _ [18, 19, 20, 21, 22, 23, 24, 25, 26, 27, 28, 29, 30, 31, 32, 33, 34, 35, 36, 37, 38, 39, 40, 41, 42, 43, 44, 45, 46, 47, 48, 49, 50, 51, 52, 53, 54, 55, 56, 57, 58, 59, 60, 61, 62, 63, 64, 65, 66, 67] (by decide +kernel) (by decide +kernel)
set_option maxRecDepth 20000 in
theorem gX11_factHere_X11_of : GoodIn wsX11_factHere (va_wsS RX11 202 yX11_of wsX11_of) := goodIn_app (goodIn_of _ (by decide +kernel)) ggX11_factHere_X11_of
set_option maxRecDepth 20000 in
theorem ggX11_readUnit_X11_fine : GoodIn wsX11_readUnit wsX11_fine := goodIn_r _ [7, 8, 124, 125, 126, 127, 128, 129, 130, 131, 132, 133, 134, 135, 136, 137, 138, 139, 140, 141, 142, 143, 144, 145, 146, 147, 148, 149, 150, 151, 152, 153, 154, 155, 156, 157, 158, 159, 160, 161, 162, 163, 164, 165, 166, 167, 168, 169, 170, 171, 172, 173, 174, 175, 176, 177, 178] (by decide +kernel) (by decide +kernel)
set_option maxRecDepth 20000 in
theorem gX11_readUnit_X11_fine : GoodIn wsX11_readUnit (wsV RX11 143 RX11 yX11_fine wsX11_fine) := goodIn_app (goodIn_of _ (by decide +kernel)) ggX11_readUnit_X11_fine
set_option maxRecDepth 20000 in
theorem ggX11_readUnit_X11_here : GoodIn wsX11_readUnit wsX11_here := goodIn_r _ [12, 2, 13, 14, 124, 125, 126, 127, 128, 129, 130, 131, 132, 133, 134, 135, 136, 137, 138, 139, 140, 141, 142, 143, 144, 145, 146, 147, 148, 149, 150, 151, 152, 153, 154, 155, 156, 157, 158, 159, 160, 161, 162, 163, 164, 165, 166, 167, 168, 169, 170, 171, 172, 173, 174, 175, 176, 177, 178] (by decide +kernel) (by decide +kernel)
set_option maxRecDepth 20000 in
theorem gX11_readUnit_X11_here : GoodIn wsX11_readUnit (wsV RX11 126 RX11 yX11_here wsX11_here) := goodIn_app (goodIn_of _ (by decide +kernel)) ggX11_readUnit_X11_here
set_option maxRecDepth 20000 in
theorem ggX11_readUnit_X11_isDigit : GoodIn wsX11_readUnit wsX11_isDigit := goodIn_r _ [33] (by decide +kernel) (by decide +kernel)
set_option maxRecDepth 20000 in
theorem gX11_readUnit_X11_isDigit : GoodIn wsX11_readUnit (va_wsS RX11 147 yX11_isDigit wsX11_isDigit) := goodIn_app (goodIn_of _ (by decide +kernel)) ggX11_readUnit_X11_isDigit
set_option maxRecDepth 20000 in
theorem ggX11_readUnit_X11_word : GoodIn wsX11_readUnit wsX11_word := goodIn_r _ [48, 2, 13, 14, 9, 10, 11, 6, 12, 49, 50, 51, 124, 125, 126, 127, 128, 129, 130, 131, 132, 133, 134, 135, 136, 137, 138, 139, 140, 141, 142, 143, 144, 145, 146, 147, 148, 149, 150, 151, 152, 153, 154, 155, 156, 157, 158, 159, 160, 161, 162, 163, 164, 165, 166, 167, 168, 169, 170, 171, 172, 173, 174, 175, 176, 177, 178] (by decide +kernel) (by decide +kernel)
set_option maxRecDepth 20000 in
theorem gX11_readUnit_X11_word : GoodIn wsX11_readUnit (wsV RX11 224 RX11 yX11_word wsX11_word) := goodIn_app (goodIn_of _ (by decide +kernel)) ggX11_readUnit_X11_word
set_option maxRecDepth 20000 in
theorem ggX11_readUnit_X11_of : GoodIn wsX11_readUnit wsX11_of := goodIn_r _ [54, 55, 56, 57, 58, 59, 60, 61, 62, 63, 64, 65, 66, 67, 68, 69, 70, 71, 72, 73, 74, 75, 76, 77, 78, 79, 80, 81, 82, 83, 84, 85, 86, 87, 88, 89, 90, 91, 92, 93, 94, 95, 96, 97, 98, 99, 100, 101, 102, 103] (by decide +kernel) (by decide +kernel)
set_option maxRecDepth 20000 in
theorem gX11_readUnit_X11_of : GoodIn wsX11_readUnit (va_wsS RX11 202 yX11_of wsX11_of) := goodIn_app (goodIn_of _ (by decide +kernel)) ggX11_readUnit_X11_of
set_option maxRecDepth 20000 in
theorem ggX11_readUnit_X11_factHere : GoodIn wsX11_readUnit wsX11_factHere := goodIn_r _ [110, 45, 46, 47, 6, 48, 2, 13, 14, 9, 10, 11, 12, 49, 50, 51, 52, 53, 54, 55, 56, 57, 58, 59, 60, 61, 62, 63, 64, 65, 66, 67, 68, 69, 70, 71, 72, 73, 74, 75, 76, 77, 78, 79, 80, 81, 82, 83, 84, 85, 86, 87, 88, 89, 90, 91, 92, 93, 94, 95, 96, 97, 98, 99, 100, 101, 102, 103, 124, 125, 126, 127, 128, 129, 130, 131, 132, 133, 134, 135, 136, 137, 138, 139, 140, 141, 142, 143, 144, 145, 146, 147, 148, 149, 150, 151, 152, 153, 154, 155, 156, 157, 158, 159, 160, 161, 162, 163, 164, 165, 166, 167, 168, 169, 170, 171, 172, 173, 174, 175, 176, 177, 178] (by decide +kernel) (by decide +kernel)
set_option maxRecDepth 20000 in
theorem gX11_readUnit_X11_factHere : GoodIn wsX11_readUnit (wsV RX11 285 RX11 yX11_factHere wsX11_factHere) := goodIn_app (goodIn_of _ (by decide +kernel)) ggX11_readUnit_X11_factHere
set_option maxRecDepth 20000 in
theorem ggX11_readUnit_X11_wrong : GoodIn wsX11_readUnit wsX11_wrong := goodIn_r _ [22, 8, 23, 124, 125, 126, 127, 128, 129, 130, 131, 132, 133, 134, 135, 136, 137, 138, 139, 140, 141, 142, 143, 144, 145, 146, 147, 148, 149, 150, 151, 152, 153, 154, 155, 156, 157, 158, 159, 160, 161, 162, 163, 164, 165, 166, 167, 168, 169, 170, 171, 172, 173, 174, 175, 176, 177, 178] (by decide +kernel) (by decide +kernel)
set_option maxRecDepth 20000 in
theorem gX11_readUnit_X11_wrong : GoodIn wsX11_readUnit (wsV RX11 150 RX11 yX11_wrong wsX11_wrong) := goodIn_app (goodIn_of _ (by decide +kernel)) ggX11_readUnit_X11_wrong
set_option maxRecDepth 20000 in
theorem ggX11_law_X11_may : GoodIn wsX11_law wsX11_may := goodIn_r _ [15, 1, 16, 152, 153, 154, 155, 156, 157, 158, 159, 160, 161, 162, 163, 164, 165, 166, 167, 168, 169, 170, 171, 172, 173, 174, 175, 176, 177, 178, 179, 180, 181, 182, 183, 184, 185, 186, 187, 188, 189, 190, 191, 192, 193, 194, 195, 196, 197, 198, 199, 200, 201, 202, 203, 204, 205, 206] (by decide +kernel) (by decide +kernel)
set_option maxRecDepth 20000 in
theorem gX11_law_X11_may : GoodIn wsX11_law (wsV RX11 213 RX11 yX11_may wsX11_may) := goodIn_app (goodIn_of _ (by decide +kernel)) ggX11_law_X11_may
set_option maxRecDepth 20000 in
theorem ggX11_law_X11_begins : GoodIn wsX11_law wsX11_begins := goodIn_r _ [20, 2, 21, 22, 4, 5, 23, 152, 153, 154, 155, 156, 157, 158, 159, 160, 161, 162, 163, 164, 165, 166, 167, 168, 169, 170, 171, 172, 173, 174, 175, 176, 177, 178, 179, 180, 181, 182, 183, 184, 185, 186, 187, 188, 189, 190, 191, 192, 193, 194, 195, 196, 197, 198, 199, 200, 201, 202, 203, 204, 205, 206] (by decide +kernel) (by decide +kernel)
set_option maxRecDepth 20000 in
theorem gX11_law_X11_begins : GoodIn wsX11_law (wsV RX11 217 RX11 yX11_begins wsX11_begins) := goodIn_app (goodIn_of _ (by decide +kernel)) ggX11_law_X11_begins
set_option maxRecDepth 20000 in
theorem ggX11_law_X11_readSum : GoodIn wsX11_law wsX11_readSum := goodIn_r _ [27, 4, 28, 29, 30, 14, 31, 32, 33, 34, 5, 35, 36, 37, 38, 22, 39, 40, 41, 42, 43, 7, 3, 9, 44, 45, 46, 47, 48, 23, 49, 50, 51, 52, 53, 54, 55, 56, 57, 58, 59, 60, 61, 24, 25, 26, 62, 63, 64, 65, 66, 67, 68, 69, 70, 71, 72, 73, 74, 75, 76, 77, 78, 79, 80, 81, 82, 83, 84, 85, 86, 87, 88, 89, 90, 91, 92, 93, 94, 95, 96, 97, 98, 99, 100, 101, 102, 103, 104, 105, 106, 107, 108, 109, 110, 111, 112, 113, 114, 115, 116, 117, 118, 119, 120, 121, 122, 123, 124, 125, 126, 127, 128, 129, 130, 131, 132, 133, 134, 135, 136, 137, 138, 139, 152, 153, 154, 155, 156, 157, 158, 159, 160, 161, 162, 163, 164, 165, 166, 167, 168, 169, 170, 171, 172, 173, 174, 175, 176, 177, 178, 179, 180, 181, 182, 183, 184, 185, 186, 187, 188, 189, 190, 191, 192, 193, 194, 195, 196, 197, 198, 199, 200, 201, 202, 203, 204, 205, 206] (by decide +kernel) (by decide +kernel)
set_option maxRecDepth 20000 in
theorem gX11_law_X11_readSum : GoodIn wsX11_law (wsV RX11 261 RX11 yX11_readSum wsX11_readSum) := goodIn_app (goodIn_of _ (by decide +kernel)) ggX11_law_X11_readSum
set_option maxRecDepth 20000 in
theorem ggX11_law_X11_fine : GoodIn wsX11_law wsX11_fine := goodIn_r _ [34, 5, 152, 153, 154, 155, 156, 157, 158, 159, 160, 161, 162, 163, 164, 165, 166, 167, 168, 169, 170, 171, 172, 173, 174, 175, 176, 177, 178, 179, 180, 181, 182, 183, 184, 185, 186, 187, 188, 189, 190, 191, 192, 193, 194, 195, 196, 197, 198, 199, 200, 201, 202, 203, 204, 205, 206] (by decide +kernel) (by decide +kernel)
set_option maxRecDepth 20000 in
theorem gX11_law_X11_fine : GoodIn wsX11_law (wsV RX11 143 RX11 yX11_fine wsX11_fine) := goodIn_app (goodIn_of _ (by decide +kernel)) ggX11_law_X11_fine
set_option maxRecDepth 20000 in
theorem ggX11_law_X11_result : GoodIn wsX11_law wsX11_result := goodIn_r _ [147, 5, 21, 57, 31, 32, 33, 14, 34, 152, 153, 154, 155, 156, 157, 158, 159, 160, 161, 162, 163, 164, 165, 166, 167, 168, 169, 170, 171, 172, 173, 174, 175, 176, 177, 178, 179, 180, 181, 182, 183, 184, 185, 186, 187, 188, 189, 190, 191, 192, 193, 194, 195, 196, 197, 198, 199, 200, 201, 202, 203, 204, 205, 206] (by decide +kernel) (by decide +kernel)
set_option maxRecDepth 20000 in
theorem gX11_law_X11_result : GoodIn wsX11_law (wsV RX11 242 RX11 yX11_result wsX11_result) := goodIn_app (goodIn_of _ (by decide +kernel)) ggX11_law_X11_result
set_option maxRecDepth 20000 in
theorem ggX11_work_X11_may : GoodIn wsX11_work wsX11_may := goodIn_r _ [19, 1, 20, 245, 246, 247, 248, 249, 250, 251, 252, 253, 254, 255, 256, 257, 258, 259, 260, 261, 262, 263, 264, 265, 266, 267, 268, 269, 270, 271, 272, 273, 274, 275, 276, 277, 278, 279, 280, 281, 282, 283, 284, 285, 286, 287, 288, 289, 290, 291, 292, 293, 294, 295, 296, 297, 298, 299] (by decide +kernel) (by decide +kernel)
set_option maxRecDepth 20000 in
theorem gX11_work_X11_may : GoodIn wsX11_work (wsV RX11 213 RX11 yX11_may wsX11_may) := goodIn_app (goodIn_of _ (by decide +kernel)) ggX11_work_X11_may
set_option maxRecDepth 20000 in
theorem ggX11_work_X11_begins : GoodIn wsX11_work wsX11_begins := goodIn_r _ [24, 2, 25, 26, 27, 5, 28, 245, 246, 247, 248, 249, 250, 251, 252, 253, 254, 255, 256, 257, 258, 259, 260, 261, 262, 263, 264, 265, 266, 267, 268, 269, 270, 271, 272, 273, 274, 275, 276, 277, 278, 279, 280, 281, 282, 283, 284, 285, 286, 287, 288, 289, 290, 291, 292, 293, 294, 295, 296, 297, 298, 299] (by decide +kernel) (by decide +kernel)
set_option maxRecDepth 20000 in
theorem gX11_work_X11_begins : GoodIn wsX11_work (wsV RX11 217 RX11 yX11_begins wsX11_begins) := goodIn_app (goodIn_of _ (by decide +kernel)) ggX11_work_X11_begins
set_option maxRecDepth 20000 in
theorem ggX11_work_X11_result : GoodIn wsX11_work wsX11_result := goodIn_r _ [32, 5, 25, 33, 34, 35, 36, 18, 37, 245, 246, 247, 248, 249, 250, 251, 252, 253, 254, 255, 256, 257, 258, 259, 260, 261, 262, 263, 264, 265, 266, 267, 268, 269, 270, 271, 272, 273, 274, 275, 276, 277, 278, 279, 280, 281, 282, 283, 284, 285, 286, 287, 288, 289, 290, 291, 292, 293, 294, 295, 296, 297, 298, 299] (by decide +kernel) (by decide +kernel)
set_option maxRecDepth 20000 in
theorem gX11_work_X11_result : GoodIn wsX11_work (wsV RX11 242 RX11 yX11_result wsX11_result) := goodIn_app (goodIn_of _ (by decide +kernel)) ggX11_work_X11_result
set_option maxRecDepth 20000 in
theorem ggX11_work_X11_fine : GoodIn wsX11_work wsX11_fine := goodIn_r _ [37, 5, 245, 246, 247, 248, 249, 250, 251, 252, 253, 254, 255, 256, 257, 258, 259, 260, 261, 262, 263, 264, 265, 266, 267, 268, 269, 270, 271, 272, 273, 274, 275, 276, 277, 278, 279, 280, 281, 282, 283, 284, 285, 286, 287, 288, 289, 290, 291, 292, 293, 294, 295, 296, 297, 298, 299] (by decide +kernel) (by decide +kernel)
set_option maxRecDepth 20000 in
theorem gX11_work_X11_fine : GoodIn wsX11_work (wsV RX11 143 RX11 yX11_fine wsX11_fine) := goodIn_app (goodIn_of _ (by decide +kernel)) ggX11_work_X11_fine
set_option maxRecDepth 20000 in
theorem ggX11_work_X11_isMore : GoodIn wsX11_work wsX11_isMore := goodIn_r _ [41, 27, 26, 42, 43, 44, 18, 45, 46, 245, 246, 247, 248, 249, 250, 251, 252, 253, 254, 255, 256, 257, 258, 259, 260, 261, 262, 263, 264, 265, 266, 267, 268, 269, 270, 271, 272, 273, 274, 275, 276, 277, 278, 279, 280, 281, 282, 283, 284, 285, 286, 287, 288, 289, 290, 291, 292, 293, 294, 295, 296, 297, 298, 299] (by decide +kernel) (by decide +kernel)
set_option maxRecDepth 20000 in
theorem gX11_work_X11_isMore : GoodIn wsX11_work (wsV RX11 221 RX11 yX11_isMore wsX11_isMore) := goodIn_app (goodIn_of _ (by decide +kernel)) ggX11_work_X11_isMore
set_option maxRecDepth 20000 in
theorem ggX11_work_X11_copies : GoodIn wsX11_work wsX11_copies := goodIn_r _ [146] (by decide +kernel) (by decide +kernel)
set_option maxRecDepth 20000 in
theorem gX11_work_X11_copies : GoodIn wsX11_work (wsV RX11 175 RX11 yX11_copies wsX11_copies) := goodIn_app (goodIn_of _ (by decide +kernel)) ggX11_work_X11_copies
set_option maxRecDepth 20000 in
theorem ggX11_work_X11_take : GoodIn wsX11_work wsX11_take := goodIn_r _ [150, 9, 13, 143, 144, 145, 18, 146, 245, 246, 247, 248, 249, 250, 251, 252, 253, 254, 255, 256, 257, 258, 259, 260, 261, 262, 263, 264, 265, 266, 267, 268, 269, 270, 271, 272, 273, 274, 275, 276, 277, 278, 279, 280, 281, 282, 283, 284, 285, 286, 287, 288, 289, 290, 291, 292, 293, 294, 295, 296, 297, 298, 299] (by decide +kernel) (by decide +kernel)
set_option maxRecDepth 20000 in
theorem gX11_work_X11_take : GoodIn wsX11_work (wsV RX11 316 RX11 yX11_take wsX11_take) := goodIn_app (goodIn_of _ (by decide +kernel)) ggX11_work_X11_take
set_option maxRecDepth 20000 in
theorem ggX11_work_X11_goesSteps : GoodIn wsX11_work wsX11_goesSteps := goodIn_r _ [154, 10, 7, 11, 12, 151, 152, 153, 18, 155, 156, 157, 158, 13, 159, 160, 161, 162, 163, 164, 165, 166, 167, 168, 169, 170, 171, 172, 173, 174, 175, 176, 177, 178, 179, 180, 181, 182, 183, 184, 185, 186, 123, 187, 188, 189, 190, 191, 192, 193, 194, 195, 196, 197, 198, 199, 200, 201, 202, 203, 204, 205, 206, 207, 208, 209, 210, 211, 212, 213, 214, 215, 216, 217, 218, 219, 220, 221, 222, 223, 224, 225, 226, 227, 228, 229, 230, 231, 232, 233, 234, 235, 236, 237, 238, 239, 240, 241, 242, 243, 244, 245, 246, 247, 248, 249, 250, 251, 252, 253, 254, 255, 256, 257, 258, 259, 260, 261, 262, 263, 264, 265, 266, 267, 268, 269, 270, 271, 272, 273, 274, 275, 276, 277, 278, 279, 280, 281, 282, 283, 284, 285, 286, 287, 288, 289, 290, 291, 292, 293, 294, 295, 296, 297, 298, 299] (by decide +kernel) (by decide +kernel)
set_option maxRecDepth 20000 in
theorem gX11_work_X11_goesSteps : GoodIn wsX11_work (wsV RX11 328 RX11 yX11_goesSteps wsX11_goesSteps) := goodIn_app (goodIn_of _ (by decide +kernel)) ggX11_work_X11_goesSteps
set_option maxRecDepth 20000 in
theorem ggX11_take_X11_copies : GoodIn wsX11_take wsX11_copies := goodIn_r _ [7] (by decide +kernel) (by decide +kernel)
set_option maxRecDepth 20000 in
theorem gX11_take_X11_copies : GoodIn wsX11_take (wsV RX11 175 RX11 yX11_copies wsX11_copies) := goodIn_app (goodIn_of _ (by decide +kernel)) ggX11_take_X11_copies
set_option maxRecDepth 20000 in
theorem ggX11_leapOf_X11_leapNow : GoodIn wsX11_leapOf wsX11_leapNow := goodIn_r _ [6, 7, 1, 8, 9, 10, 5, 11, 12, 13, 14, 15, 16, 17, 18, 19, 20, 21, 22, 23, 24, 25, 26, 27, 28, 29, 30, 31, 32, 33, 34, 35, 36, 37, 38, 39, 40, 41, 42, 43, 44, 45, 46, 47, 48, 49, 50, 51, 52, 53, 54, 55, 56, 57, 58, 59, 60, 61, 62, 63, 64, 65, 66, 67, 68, 69, 70, 71, 72] (by decide +kernel) (by decide +kernel)
set_option maxRecDepth 20000 in
theorem gX11_leapOf_X11_leapNow : GoodIn wsX11_leapOf (wsV RX11 337 RX11 yX11_leapNow wsX11_leapNow) := goodIn_app (goodIn_of _ (by decide +kernel)) ggX11_leapOf_X11_leapNow
set_option maxRecDepth 20000 in
theorem ggX11_passes_X11_strokes : GoodIn wsX11_passes wsX11_strokes := goodIn_r _ [11, 1, 2, 12, 13, 14, 15, 6, 16, 3, 4, 5, 7, 17, 18, 19, 20, 21, 22, 23, 24, 25, 26, 27, 28, 29, 30, 31, 32, 33, 34, 35, 36, 37, 38, 39, 40, 41, 42, 43, 44, 45, 46, 47, 48, 49, 50, 51, 52, 53, 54, 55, 56, 57, 58, 59, 60, 61, 62, 63, 64, 65, 66, 67, 68, 69, 70, 71, 72, 73, 74, 75, 76, 77, 78, 79, 80, 81] (by decide +kernel) (by decide +kernel)
set_option maxRecDepth 20000 in
theorem gX11_passes_X11_strokes : GoodIn wsX11_passes (wsV RX11 374 RX11 yX11_strokes wsX11_strokes) := goodIn_app (goodIn_of _ (by decide +kernel)) ggX11_passes_X11_strokes
set_option maxRecDepth 20000 in
theorem ggX11_book_X11_may : GoodIn wsX11_book wsX11_may := goodIn_r _ [13, 1, 14, 59, 60, 61, 62, 63, 64, 65, 66, 67, 68, 69, 70, 71, 72, 73, 74, 75, 76, 77, 78, 79, 80, 81, 82, 83, 84, 85, 86, 87, 88, 89, 90, 91, 92, 93, 94, 95, 96, 97, 98, 99, 100, 101, 102, 103, 104, 105, 106, 107, 108, 109, 110, 111, 112, 113] (by decide +kernel) (by decide +kernel)
set_option maxRecDepth 20000 in
theorem gX11_book_X11_may : GoodIn wsX11_book (wsV RX11 213 RX11 yX11_may wsX11_may) := goodIn_app (goodIn_of _ (by decide +kernel)) ggX11_book_X11_may
set_option maxRecDepth 20000 in
theorem ggX11_book_X11_begins : GoodIn wsX11_book wsX11_begins := goodIn_r _ [18, 2, 19, 20, 4, 6, 21, 59, 60, 61, 62, 63, 64, 65, 66, 67, 68, 69, 70, 71, 72, 73, 74, 75, 76, 77, 78, 79, 80, 81, 82, 83, 84, 85, 86, 87, 88, 89, 90, 91, 92, 93, 94, 95, 96, 97, 98, 99, 100, 101, 102, 103, 104, 105, 106, 107, 108, 109, 110, 111, 112, 113] (by decide +kernel) (by decide +kernel)
set_option maxRecDepth 20000 in
theorem gX11_book_X11_begins : GoodIn wsX11_book (wsV RX11 217 RX11 yX11_begins wsX11_begins) := goodIn_app (goodIn_of _ (by decide +kernel)) ggX11_book_X11_begins
set_option maxRecDepth 20000 in
theorem ggX11_book_X11_fine : GoodIn wsX11_book wsX11_fine := goodIn_r _ [25, 6, 59, 60, 61, 62, 63, 64, 65, 66, 67, 68, 69, 70, 71, 72, 73, 74, 75, 76, 77, 78, 79, 80, 81, 82, 83, 84, 85, 86, 87, 88, 89, 90, 91, 92, 93, 94, 95, 96, 97, 98, 99, 100, 101, 102, 103, 104, 105, 106, 107, 108, 109, 110, 111, 112, 113] (by decide +kernel) (by decide +kernel)
set_option maxRecDepth 20000 in
theorem gX11_book_X11_fine : GoodIn wsX11_book (wsV RX11 143 RX11 yX11_fine wsX11_fine) := goodIn_app (goodIn_of _ (by decide +kernel)) ggX11_book_X11_fine
set_option maxRecDepth 20000 in
theorem ggX11_book_X11_isMore : GoodIn wsX11_book wsX11_isMore := goodIn_r _ [29, 4, 20, 30, 31, 32, 12, 33, 34, 59, 60, 61, 62, 63, 64, 65, 66, 67, 68, 69, 70, 71, 72, 73, 74, 75, 76, 77, 78, 79, 80, 81, 82, 83, 84, 85, 86, 87, 88, 89, 90, 91, 92, 93, 94, 95, 96, 97, 98, 99, 100, 101, 102, 103, 104, 105, 106, 107, 108, 109, 110, 111, 112, 113] (by decide +kernel) (by decide +kernel)
set_option maxRecDepth 20000 in
theorem gX11_book_X11_isMore : GoodIn wsX11_book (wsV RX11 221 RX11 yX11_isMore wsX11_isMore) := goodIn_app (goodIn_of _ (by decide +kernel)) ggX11_book_X11_isMore
set_option maxRecDepth 20000 in
theorem ggX11_book_X11_result : GoodIn wsX11_book wsX11_result := goodIn_r _ [54, 6, 19, 46, 22, 23, 24, 12, 25, 59, 60, 61, 62, 63, 64, 65, 66, 67, 68, 69, 70, 71, 72, 73, 74, 75, 76, 77, 78, 79, 80, 81, 82, 83, 84, 85, 86, 87, 88, 89, 90, 91, 92, 93, 94, 95, 96, 97, 98, 99, 100, 101, 102, 103, 104, 105, 106, 107, 108, 109, 110, 111, 112, 113] (by decide +kernel) (by decide +kernel)
set_option maxRecDepth 20000 in
theorem gX11_book_X11_result : GoodIn wsX11_book (wsV RX11 242 RX11 yX11_result wsX11_result) := goodIn_app (goodIn_of _ (by decide +kernel)) ggX11_book_X11_result
set_option maxRecDepth 20000 in
theorem ggX11_book_X11_copies : GoodIn wsX11_book wsX11_copies := goodIn_r _ [58] (by decide +kernel) (by decide +kernel)
set_option maxRecDepth 20000 in
theorem gX11_book_X11_copies : GoodIn wsX11_book (wsV RX11 175 RX11 yX11_copies wsX11_copies) := goodIn_app (goodIn_of _ (by decide +kernel)) ggX11_book_X11_copies
set_option maxRecDepth 20000 in
theorem ggX11_told_X11_within : GoodIn wsX11_told wsX11_within := goodIn_r _ [11] (by decide +kernel) (by decide +kernel)
set_option maxRecDepth 20000 in
theorem gX11_told_X11_within : GoodIn wsX11_told (va_wsS RX11 390 yX11_within wsX11_within) := goodIn_app (goodIn_of _ (by decide +kernel)) ggX11_told_X11_within
set_option maxRecDepth 20000 in
theorem ggX11_told_X11_may : GoodIn wsX11_told wsX11_may := goodIn_r _ [15, 1, 16, 59, 60, 61, 62, 63, 64, 65, 66, 67, 68, 69, 70, 71, 72, 73, 74, 75, 76, 77, 78, 79, 80, 81, 82, 83, 84, 85, 86, 87, 88, 89, 90, 91, 92, 93, 94, 95, 96, 97, 98, 99, 100, 101, 102, 103, 104, 105, 106, 107, 108, 109, 110, 111, 112, 113] (by decide +kernel) (by decide +kernel)
set_option maxRecDepth 20000 in
theorem gX11_told_X11_may : GoodIn wsX11_told (wsV RX11 213 RX11 yX11_may wsX11_may) := goodIn_app (goodIn_of _ (by decide +kernel)) ggX11_told_X11_may
set_option maxRecDepth 20000 in
theorem ggX11_told_X11_take : GoodIn wsX11_told wsX11_take := goodIn_r _ [20, 21, 5, 22, 23, 24, 10, 25, 59, 60, 61, 62, 63, 64, 65, 66, 67, 68, 69, 70, 71, 72, 73, 74, 75, 76, 77, 78, 79, 80, 81, 82, 83, 84, 85, 86, 87, 88, 89, 90, 91, 92, 93, 94, 95, 96, 97, 98, 99, 100, 101, 102, 103, 104, 105, 106, 107, 108, 109, 110, 111, 112, 113] (by decide +kernel) (by decide +kernel)
set_option maxRecDepth 20000 in
theorem gX11_told_X11_take : GoodIn wsX11_told (wsV RX11 316 RX11 yX11_take wsX11_take) := goodIn_app (goodIn_of _ (by decide +kernel)) ggX11_told_X11_take
set_option maxRecDepth 20000 in
theorem ggX11_told_X11_bitsTold : GoodIn wsX11_told wsX11_bitsTold := goodIn_r _ [29, 3, 5, 30, 31, 32, 10, 33, 34, 35, 36, 37, 38, 39, 40, 41, 4, 42, 43, 44, 45, 46, 59, 60, 61, 62, 63, 64, 65, 66, 67, 68, 69, 70, 71, 72, 73, 74, 75, 76, 77, 78, 79, 80, 81, 82, 83, 84, 85, 86, 87, 88, 89, 90, 91, 92, 93, 94, 95, 96, 97, 98, 99, 100, 101, 102, 103, 104, 105, 106, 107, 108, 109, 110, 111, 112, 113] (by decide +kernel) (by decide +kernel)
set_option maxRecDepth 20000 in
theorem gX11_told_X11_bitsTold : GoodIn wsX11_told (wsV RX11 393 RX11 yX11_bitsTold wsX11_bitsTold) := goodIn_app (goodIn_of _ (by decide +kernel)) ggX11_told_X11_bitsTold
set_option maxRecDepth 20000 in
theorem ggX11_told_X11_caughtNow : GoodIn wsX11_told wsX11_caughtNow := goodIn_r _ [50, 3, 34, 35, 36, 10, 37, 5, 59, 60, 61, 62, 63, 64, 65, 66, 67, 68, 69, 70, 71, 72, 73, 74, 75, 76, 77, 78, 79, 80, 81, 82, 83, 84, 85, 86, 87, 88, 89, 90, 91, 92, 93, 94, 95, 96, 97, 98, 99, 100, 101, 102, 103, 104, 105, 106, 107, 108, 109, 110, 111, 112, 113] (by decide +kernel) (by decide +kernel)
set_option maxRecDepth 20000 in
theorem gX11_told_X11_caughtNow : GoodIn wsX11_told (wsV RX11 396 RX11 yX11_caughtNow wsX11_caughtNow) := goodIn_app (goodIn_of _ (by decide +kernel)) ggX11_told_X11_caughtNow
set_option maxRecDepth 20000 in
theorem ggX11_told_X11_safeForms : GoodIn wsX11_told wsX11_safeForms := goodIn_r _ [54, 2, 38, 39, 40, 10, 41, 4, 42, 43, 44, 45, 46, 59, 60, 61, 62, 63, 64, 65, 66, 67, 68, 69, 70, 71, 72, 73, 74, 75, 76, 77, 78, 79, 80, 81, 82, 83, 84, 85, 86, 87, 88, 89, 90, 91, 92, 93, 94, 95, 96, 97, 98, 99, 100, 101, 102, 103, 104, 105, 106, 107, 108, 109, 110, 111, 112, 113] (by decide +kernel) (by decide +kernel)
set_option maxRecDepth 20000 in
theorem gX11_told_X11_safeForms : GoodIn wsX11_told (wsV RX11 399 RX11 yX11_safeForms wsX11_safeForms) := goodIn_app (goodIn_of _ (by decide +kernel)) ggX11_told_X11_safeForms
set_option maxRecDepth 20000 in
theorem ggX11_told_X11_debtsNow : GoodIn wsX11_told wsX11_debtsNow := goodIn_r _ [58, 5, 59, 60, 61, 62, 63, 64, 65, 66, 67, 68, 69, 70, 71, 72, 73, 74, 75, 76, 77, 78, 79, 80, 81, 82, 83, 84, 85, 86, 87, 88, 89, 90, 91, 92, 93, 94, 95, 96, 97, 98, 99, 100, 101, 102, 103, 104, 105, 106, 107, 108, 109, 110, 111, 112, 113] (by decide +kernel) (by decide +kernel)
set_option maxRecDepth 20000 in
theorem gX11_told_X11_debtsNow : GoodIn wsX11_told (wsV RX11 402 RX11 yX11_debtsNow wsX11_debtsNow) := goodIn_app (goodIn_of _ (by decide +kernel)) ggX11_told_X11_debtsNow
set_option maxRecDepth 20000 in
theorem ggX11_isForm_X11_within : GoodIn wsX11_isForm wsX11_within := goodIn_r _ [5] (by decide +kernel) (by decide +kernel)
set_option maxRecDepth 20000 in
theorem gX11_isForm_X11_within : GoodIn wsX11_isForm (va_wsS RX11 390 yX11_within wsX11_within) := goodIn_app (goodIn_of _ (by decide +kernel)) ggX11_isForm_X11_within
set_option maxRecDepth 20000 in
theorem ggX11_isForm_X11_may : GoodIn wsX11_isForm wsX11_may := goodIn_r _ [9, 10, 11, 12, 13, 14, 15, 16, 17, 18, 19, 20, 21, 22, 23, 24, 25, 26, 27, 28, 29, 30, 31, 32, 33, 34, 35, 36, 37, 38, 39, 40, 41, 42, 43, 44, 45, 46, 47, 48, 49, 50, 51, 52, 53, 54, 55, 56, 57, 58, 59, 60, 61, 62, 63, 64, 65, 66] (by decide +kernel) (by decide +kernel)
set_option maxRecDepth 20000 in
theorem gX11_isForm_X11_may : GoodIn wsX11_isForm (wsV RX11 213 RX11 yX11_may wsX11_may) := goodIn_app (goodIn_of _ (by decide +kernel)) ggX11_isForm_X11_may
set_option maxRecDepth 20000 in
theorem ggX11_isHare_X11_within : GoodIn wsX11_isHare wsX11_within := goodIn_r _ [5] (by decide +kernel) (by decide +kernel)
set_option maxRecDepth 20000 in
theorem gX11_isHare_X11_within : GoodIn wsX11_isHare (va_wsS RX11 390 yX11_within wsX11_within) := goodIn_app (goodIn_of _ (by decide +kernel)) ggX11_isHare_X11_within
set_option maxRecDepth 20000 in
theorem ggX11_isHare_X11_may : GoodIn wsX11_isHare wsX11_may := goodIn_r _ [9, 10, 11, 12, 13, 14, 15, 16, 17, 18, 19, 20, 21, 22, 23, 24, 25, 26, 27, 28, 29, 30, 31, 32, 33, 34, 35, 36, 37, 38, 39, 40, 41, 42, 43, 44, 45, 46, 47, 48, 49, 50, 51, 52, 53, 54, 55, 56, 57, 58, 59, 60, 61, 62, 63, 64, 65, 66] (by decide +kernel) (by decide +kernel)
set_option maxRecDepth 20000 in
theorem gX11_isHare_X11_may : GoodIn wsX11_isHare (wsV RX11 213 RX11 yX11_may wsX11_may) := goodIn_app (goodIn_of _ (by decide +kernel)) ggX11_isHare_X11_may
set_option maxRecDepth 20000 in
theorem ggX11_form_X11_isForm : GoodIn wsX11_form wsX11_isForm := goodIn_r _ [7, 8, 9, 10, 6, 11, 12, 13, 14, 15, 1, 16, 41, 42, 43, 44, 45, 46, 47, 48, 49, 50, 51, 52, 53, 54, 55, 56, 57, 58, 59, 60, 61, 62, 63, 64, 65, 66, 67, 68, 69, 70, 71, 72, 73, 74, 75, 76, 77, 78, 79, 80, 81, 82, 83, 84, 85, 86, 87, 88, 89, 90, 91, 92, 93, 94, 95] (by decide +kernel) (by decide +kernel)
set_option maxRecDepth 20000 in
theorem gX11_form_X11_isForm : GoodIn wsX11_form (wsV RX11 405 RX11 yX11_isForm wsX11_isForm) := goodIn_app (goodIn_of _ (by decide +kernel)) ggX11_form_X11_isForm
set_option maxRecDepth 20000 in
theorem ggX11_hare_X11_isHare : GoodIn wsX11_hare wsX11_isHare := goodIn_r _ [8, 9, 10, 11, 7, 12, 13, 14, 15, 16, 1, 17, 70, 71, 72, 73, 74, 75, 76, 77, 78, 79, 80, 81, 82, 83, 84, 85, 86, 87, 88, 89, 90, 91, 92, 93, 94, 95, 96, 97, 98, 99, 100, 101, 102, 103, 104, 105, 106, 107, 108, 109, 110, 111, 112, 113, 114, 115, 116, 117, 118, 119, 120, 121, 122, 123, 124] (by decide +kernel) (by decide +kernel)
set_option maxRecDepth 20000 in
theorem gX11_hare_X11_isHare : GoodIn wsX11_hare (wsV RX11 408 RX11 yX11_isHare wsX11_isHare) := goodIn_app (goodIn_of _ (by decide +kernel)) ggX11_hare_X11_isHare
set_option maxRecDepth 20000 in
theorem ggX11_fox_X11_within : GoodIn wsX11_fox wsX11_within := goodIn_r _ [7] (by decide +kernel) (by decide +kernel)
set_option maxRecDepth 20000 in
theorem gX11_fox_X11_within : GoodIn wsX11_fox (va_wsS RX11 390 yX11_within wsX11_within) := goodIn_app (goodIn_of _ (by decide +kernel)) ggX11_fox_X11_within
set_option maxRecDepth 20000 in
theorem ggX11_fox_X11_may : GoodIn wsX11_fox wsX11_may := goodIn_r _ [11, 1, 12, 13, 14, 15, 16, 17, 18, 19, 20, 21, 22, 23, 24, 25, 26, 27, 28, 29, 30, 31, 32, 33, 34, 35, 36, 37, 38, 39, 40, 41, 42, 43, 44, 45, 46, 47, 48, 49, 50, 51, 52, 53, 54, 55, 56, 57, 58, 59, 60, 61, 62, 63, 64, 65, 66, 67] (by decide +kernel) (by decide +kernel)
set_option maxRecDepth 20000 in
theorem gX11_fox_X11_may : GoodIn wsX11_fox (wsV RX11 213 RX11 yX11_may wsX11_may) := goodIn_app (goodIn_of _ (by decide +kernel)) ggX11_fox_X11_may
set_option maxRecDepth 20000 in
theorem ggX11_debt_X11_isHare : GoodIn wsX11_debt wsX11_isHare := goodIn_r _ [7, 8, 9, 10, 6, 11, 12, 13, 14, 15, 1, 16, 17, 18, 19, 20, 21, 22, 23, 24, 25, 26, 27, 28, 29, 30, 31, 32, 33, 34, 35, 36, 37, 38, 39, 40, 41, 42, 43, 44, 45, 46, 47, 48, 49, 50, 51, 52, 53, 54, 55, 56, 57, 58, 59, 60, 61, 62, 63, 64, 65, 66, 67, 68, 69, 70, 71] (by decide +kernel) (by decide +kernel)
set_option maxRecDepth 20000 in
theorem gX11_debt_X11_isHare : GoodIn wsX11_debt (wsV RX11 408 RX11 yX11_isHare wsX11_isHare) := goodIn_app (goodIn_of _ (by decide +kernel)) ggX11_debt_X11_isHare
set_option maxRecDepth 20000 in
theorem ggX11_far_X11_isForm : GoodIn wsX11_far wsX11_isForm := goodIn_r _ [6, 7, 8, 9, 5, 10, 11, 12, 13, 14, 1, 15, 24, 25, 26, 27, 28, 29, 30, 31, 32, 33, 34, 35, 36, 37, 38, 39, 40, 41, 42, 43, 44, 45, 46, 47, 48, 49, 50, 51, 52, 53, 54, 55, 56, 57, 58, 59, 60, 61, 62, 63, 64, 65, 66, 67, 68, 69, 70, 71, 72, 73, 74, 75, 76, 77, 78] (by decide +kernel) (by decide +kernel)
set_option maxRecDepth 20000 in
theorem gX11_far_X11_isForm : GoodIn wsX11_far (wsV RX11 405 RX11 yX11_isForm wsX11_isForm) := goodIn_app (goodIn_of _ (by decide +kernel)) ggX11_far_X11_isForm
set_option maxRecDepth 20000 in
theorem ggX11_would_X11_within : GoodIn wsX11_would wsX11_within := goodIn_r _ [5] (by decide +kernel) (by decide +kernel)
set_option maxRecDepth 20000 in
theorem gX11_would_X11_within : GoodIn wsX11_would (va_wsS RX11 390 yX11_within wsX11_within) := goodIn_app (goodIn_of _ (by decide +kernel)) ggX11_would_X11_within
set_option maxRecDepth 20000 in
theorem ggX11_would_X11_may : GoodIn wsX11_would wsX11_may := goodIn_r _ [9, 1, 10, 31, 32, 33, 34, 35, 36, 37, 38, 39, 40, 41, 42, 43, 44, 45, 46, 47, 48, 49, 50, 51, 52, 53, 54, 55, 56, 57, 58, 59, 60, 61, 62, 63, 64, 65, 66, 67, 68, 69, 70, 71, 72, 73, 74, 75, 76, 77, 78, 79, 80, 81, 82, 83, 84, 85] (by decide +kernel) (by decide +kernel)
set_option maxRecDepth 20000 in
theorem gX11_would_X11_may : GoodIn wsX11_would (wsV RX11 213 RX11 yX11_may wsX11_may) := goodIn_app (goodIn_of _ (by decide +kernel)) ggX11_would_X11_may
set_option maxRecDepth 20000 in
theorem ggX11_would_X11_leapOf : GoodIn wsX11_would wsX11_leapOf := goodIn_r _ [14, 15, 16, 17, 18, 4, 19, 20, 21, 22, 23, 24, 25, 26, 27, 28, 29, 30, 31, 32, 33, 34, 35, 36, 37, 38, 39, 40, 41, 42, 43, 44, 45, 46, 47, 48, 49, 50, 51, 52, 53, 54, 55, 56, 57, 58, 59, 60, 61, 62, 63, 64, 65, 66, 67, 68, 69, 70, 71, 72, 73, 74, 75, 76, 77, 78, 79, 80, 81, 82, 83, 84, 85] (by decide +kernel) (by decide +kernel)
set_option maxRecDepth 20000 in
theorem gX11_would_X11_leapOf : GoodIn wsX11_would (wsV RX11 354 RX11 yX11_leapOf wsX11_leapOf) := goodIn_app (goodIn_of _ (by decide +kernel)) ggX11_would_X11_leapOf
set_option maxRecDepth 20000 in
theorem ggX11_can_X11_isHare : GoodIn wsX11_can wsX11_isHare := goodIn_r _ [6, 7, 8, 9, 5, 10, 11, 12, 13, 14, 1, 15, 86, 87, 88, 89, 90, 91, 92, 93, 94, 95, 96, 97, 98, 99, 100, 101, 102, 103, 104, 105, 106, 107, 108, 109, 110, 111, 112, 113, 114, 115, 116, 117, 118, 119, 120, 121, 122, 123, 124, 125, 126, 127, 128, 129, 130, 131, 132, 133, 134, 135, 136, 137, 138, 139, 140] (by decide +kernel) (by decide +kernel)
set_option maxRecDepth 20000 in
theorem gX11_can_X11_isHare : GoodIn wsX11_can (wsV RX11 408 RX11 yX11_isHare wsX11_isHare) := goodIn_app (goodIn_of _ (by decide +kernel)) ggX11_can_X11_isHare
set_option maxRecDepth 20000 in
theorem ggX11_range_X11_isHare : GoodIn wsX11_range wsX11_isHare := goodIn_r _ [6, 7, 8, 9, 5, 10, 11, 12, 13, 14, 1, 15, 86, 87, 88, 89, 90, 91, 92, 93, 94, 95, 96, 97, 98, 99, 100, 101, 102, 103, 104, 105, 106, 107, 108, 109, 110, 111, 112, 113, 114, 115, 116, 117, 118, 119, 120, 121, 122, 123, 124, 125, 126, 127, 128, 129, 130, 131, 132, 133, 134, 135, 136, 137, 138, 139, 140] (by decide +kernel) (by decide +kernel)
set_option maxRecDepth 20000 in
theorem gX11_range_X11_isHare : GoodIn wsX11_range (wsV RX11 408 RX11 yX11_isHare wsX11_isHare) := goodIn_app (goodIn_of _ (by decide +kernel)) ggX11_range_X11_isHare
set_option maxRecDepth 20000 in
theorem ggX11_ahead_X11_within : GoodIn wsX11_ahead wsX11_within := goodIn_r _ [6] (by decide +kernel) (by decide +kernel)
set_option maxRecDepth 20000 in
theorem gX11_ahead_X11_within : GoodIn wsX11_ahead (va_wsS RX11 390 yX11_within wsX11_within) := goodIn_app (goodIn_of _ (by decide +kernel)) ggX11_ahead_X11_within
set_option maxRecDepth 20000 in
theorem ggX11_ahead_X11_may : GoodIn wsX11_ahead wsX11_may := goodIn_r _ [10, 1, 11, 57, 58, 59, 60, 61, 62, 63, 64, 65, 66, 67, 68, 69, 70, 71, 72, 73, 74, 75, 76, 77, 78, 79, 80, 81, 82, 83, 84, 85, 86, 87, 88, 89, 90, 91, 92, 93, 94, 95, 96, 97, 98, 99, 100, 101, 102, 103, 104, 105, 106, 107, 108, 109, 110, 111] (by decide +kernel) (by decide +kernel)
set_option maxRecDepth 20000 in
theorem gX11_ahead_X11_may : GoodIn wsX11_ahead (wsV RX11 213 RX11 yX11_may wsX11_may) := goodIn_app (goodIn_of _ (by decide +kernel)) ggX11_ahead_X11_may
set_option maxRecDepth 20000 in
theorem ggX11_ahead_X11_take : GoodIn wsX11_ahead wsX11_take := goodIn_r _ [15, 16, 2, 17, 18, 19, 5, 20, 57, 58, 59, 60, 61, 62, 63, 64, 65, 66, 67, 68, 69, 70, 71, 72, 73, 74, 75, 76, 77, 78, 79, 80, 81, 82, 83, 84, 85, 86, 87, 88, 89, 90, 91, 92, 93, 94, 95, 96, 97, 98, 99, 100, 101, 102, 103, 104, 105, 106, 107, 108, 109, 110, 111] (by decide +kernel) (by decide +kernel)
set_option maxRecDepth 20000 in
theorem gX11_ahead_X11_take : GoodIn wsX11_ahead (wsV RX11 316 RX11 yX11_take wsX11_take) := goodIn_app (goodIn_of _ (by decide +kernel)) ggX11_ahead_X11_take
set_option maxRecDepth 20000 in
theorem ggX11_ahead_X11_passes : GoodIn wsX11_ahead wsX11_passes := goodIn_r _ [24, 25, 2, 26, 27, 28, 5, 29, 30, 31, 32, 33, 34, 35, 36, 37, 38, 39, 40, 41, 42, 43, 44, 45, 46, 47, 48, 57, 58, 59, 60, 61, 62, 63, 64, 65, 66, 67, 68, 69, 70, 71, 72, 73, 74, 75, 76, 77, 78, 79, 80, 81, 82, 83, 84, 85, 86, 87, 88, 89, 90, 91, 92, 93, 94, 95, 96, 97, 98, 99, 100, 101, 102, 103, 104, 105, 106, 107, 108, 109, 110, 111] (by decide +kernel) (by decide +kernel)
set_option maxRecDepth 20000 in
theorem gX11_ahead_X11_passes : GoodIn wsX11_ahead (wsV RX11 387 RX11 yX11_passes wsX11_passes) := goodIn_app (goodIn_of _ (by decide +kernel)) ggX11_ahead_X11_passes
set_option maxRecDepth 20000 in
theorem ggX11_ahead_X11_caughtNow : GoodIn wsX11_ahead wsX11_caughtNow := goodIn_r _ [52, 25, 26, 27, 28, 5, 29, 2, 57, 58, 59, 60, 61, 62, 63, 64, 65, 66, 67, 68, 69, 70, 71, 72, 73, 74, 75, 76, 77, 78, 79, 80, 81, 82, 83, 84, 85, 86, 87, 88, 89, 90, 91, 92, 93, 94, 95, 96, 97, 98, 99, 100, 101, 102, 103, 104, 105, 106, 107, 108, 109, 110, 111] (by decide +kernel) (by decide +kernel)
set_option maxRecDepth 20000 in
theorem gX11_ahead_X11_caughtNow : GoodIn wsX11_ahead (wsV RX11 396 RX11 yX11_caughtNow wsX11_caughtNow) := goodIn_app (goodIn_of _ (by decide +kernel)) ggX11_ahead_X11_caughtNow
set_option maxRecDepth 20000 in
theorem ggX11_ahead_X11_debtsNow : GoodIn wsX11_ahead wsX11_debtsNow := goodIn_r _ [56, 2, 57, 58, 59, 60, 61, 62, 63, 64, 65, 66, 67, 68, 69, 70, 71, 72, 73, 74, 75, 76, 77, 78, 79, 80, 81, 82, 83, 84, 85, 86, 87, 88, 89, 90, 91, 92, 93, 94, 95, 96, 97, 98, 99, 100, 101, 102, 103, 104, 105, 106, 107, 108, 109, 110, 111] (by decide +kernel) (by decide +kernel)
set_option maxRecDepth 20000 in
theorem gX11_ahead_X11_debtsNow : GoodIn wsX11_ahead (wsV RX11 402 RX11 yX11_debtsNow wsX11_debtsNow) := goodIn_app (goodIn_of _ (by decide +kernel)) ggX11_ahead_X11_debtsNow
set_option maxRecDepth 20000 in
theorem ggX11_hops_X11_isHare : GoodIn wsX11_hops wsX11_isHare := goodIn_r _ [8, 9, 10, 11, 7, 12, 13, 14, 15, 16, 1, 17, 82, 83, 84, 85, 86, 87, 88, 89, 90, 91, 92, 93, 94, 95, 96, 97, 98, 99, 100, 101, 102, 103, 104, 105, 106, 107, 108, 109, 110, 111, 112, 113, 114, 115, 116, 117, 118, 119, 120, 121, 122, 123, 124, 125, 126, 127, 128, 129, 130, 131, 132, 133, 134, 135, 136] (by decide +kernel) (by decide +kernel)
set_option maxRecDepth 20000 in
theorem gX11_hops_X11_isHare : GoodIn wsX11_hops (wsV RX11 408 RX11 yX11_isHare wsX11_isHare) := goodIn_app (goodIn_of _ (by decide +kernel)) ggX11_hops_X11_isHare
set_option maxRecDepth 20000 in
theorem ggX11_findSeats_X11_take : GoodIn wsX11_findSeats wsX11_take := goodIn_r _ [11, 12, 3, 13, 14, 15, 10, 16, 86, 87, 88, 89, 90, 91, 92, 93, 94, 95, 96, 97, 98, 99, 100, 101, 102, 103, 104, 105, 106, 107, 108, 109, 110, 111, 112, 113, 114, 115, 116, 117, 118, 119, 120, 121, 122, 123, 124, 125, 126, 127, 128, 129, 130, 131, 132, 133, 134, 135, 136, 137, 138, 139, 140] (by decide +kernel) (by decide +kernel)
set_option maxRecDepth 20000 in
theorem gX11_findSeats_X11_take : GoodIn wsX11_findSeats (wsV RX11 316 RX11 yX11_take wsX11_take) := goodIn_app (goodIn_of _ (by decide +kernel)) ggX11_findSeats_X11_take
set_option maxRecDepth 20000 in
theorem ggX11_seats_X11_findSeats : GoodIn wsX11_seats wsX11_findSeats := goodIn_r _ [7, 8, 9, 10, 11, 2, 12, 13, 14, 15, 6, 16, 17, 18, 19, 20, 21, 22, 23, 24, 25, 26, 27, 28, 29, 30, 31, 32, 33, 34, 35, 36, 37, 38, 39, 40, 41, 42, 43, 44, 45, 46, 47, 48, 49, 50, 51, 52, 53, 54, 55, 56, 57, 58, 59, 60, 61, 62, 63, 64, 65, 66, 67, 68, 69, 70, 71, 72, 73, 74, 75, 76, 77, 78, 79, 80, 81, 82, 83, 84, 85, 86, 87, 88, 89, 90, 91, 92, 93, 94, 95, 96, 97, 98, 99, 100, 101, 102, 103, 104, 105, 106, 107, 108, 109, 110, 111, 112, 113, 114, 115, 116, 117, 118, 119, 120, 121, 122, 123, 124, 125, 126, 127, 128, 129, 130, 131, 132, 133, 134, 135, 136, 137, 138, 139, 140, 141, 142, 143, 144, 145] (by decide +kernel) (by decide +kernel)
set_option maxRecDepth 20000 in
theorem gX11_seats_X11_findSeats : GoodIn wsX11_seats (wsV RX11 414 RX11 yX11_findSeats wsX11_findSeats) := goodIn_app (goodIn_of _ (by decide +kernel)) ggX11_seats_X11_findSeats
set_option maxRecDepth 20000 in
theorem ggX11_seat_X11_isHare : GoodIn wsX11_seat wsX11_isHare := goodIn_r _ [7, 8, 9, 10, 6, 11, 12, 13, 14, 15, 1, 16, 103, 104, 105, 106, 107, 108, 109, 110, 111, 112, 113, 114, 115, 116, 117, 118, 119, 120, 121, 122, 123, 124, 125, 126, 127, 128, 129, 130, 131, 132, 133, 134, 135, 136, 137, 138, 139, 140, 141, 142, 143, 144, 145, 146, 147, 148, 149, 150, 151, 152, 153, 154, 155, 156, 157] (by decide +kernel) (by decide +kernel)
set_option maxRecDepth 20000 in
theorem gX11_seat_X11_isHare : GoodIn wsX11_seat (wsV RX11 408 RX11 yX11_isHare wsX11_isHare) := goodIn_app (goodIn_of _ (by decide +kernel)) ggX11_seat_X11_isHare
set_option maxRecDepth 20000 in
theorem ggX11_ringed_X11_may : GoodIn wsX11_ringed wsX11_may := goodIn_r _ [8, 1, 9, 22, 23, 24, 25, 26, 27, 28, 29, 30, 31, 32, 33, 34, 35, 36, 37, 38, 39, 40, 41, 42, 43, 44, 45, 46, 47, 48, 49, 50, 51, 52, 53, 54, 55, 56, 57, 58, 59, 60, 61, 62, 63, 64, 65, 66, 67, 68, 69, 70, 71, 72, 73, 74, 75, 76] (by decide +kernel) (by decide +kernel)
set_option maxRecDepth 20000 in
theorem gX11_ringed_X11_may : GoodIn wsX11_ringed (wsV RX11 213 RX11 yX11_may wsX11_may) := goodIn_app (goodIn_of _ (by decide +kernel)) ggX11_ringed_X11_may
set_option maxRecDepth 20000 in
theorem ggX11_bouts_X11_isHare : GoodIn wsX11_bouts wsX11_isHare := goodIn_r _ [8, 2, 9, 10, 7, 11, 12, 13, 14, 15, 1, 16, 38, 39, 40, 41, 42, 43, 44, 45, 46, 47, 48, 49, 50, 51, 52, 53, 54, 55, 56, 57, 58, 59, 60, 61, 62, 63, 64, 65, 66, 67, 68, 69, 70, 71, 72, 73, 74, 75, 76, 77, 78, 79, 80, 81, 82, 83, 84, 85, 86, 87, 88, 89, 90, 91, 92] (by decide +kernel) (by decide +kernel)
set_option maxRecDepth 20000 in
theorem gX11_bouts_X11_isHare : GoodIn wsX11_bouts (wsV RX11 408 RX11 yX11_isHare wsX11_isHare) := goodIn_app (goodIn_of _ (by decide +kernel)) ggX11_bouts_X11_isHare
set_option maxRecDepth 20000 in
theorem ggX11_fits_X11_within : GoodIn wsX11_fits wsX11_within := goodIn_r _ [7] (by decide +kernel) (by decide +kernel)
set_option maxRecDepth 20000 in
theorem gX11_fits_X11_within : GoodIn wsX11_fits (va_wsS RX11 390 yX11_within wsX11_within) := goodIn_app (goodIn_of _ (by decide +kernel)) ggX11_fits_X11_within
set_option maxRecDepth 20000 in
theorem ggX11_fits_X11_may : GoodIn wsX11_fits wsX11_may := goodIn_r _ [11, 1, 12, 43, 44, 45, 46, 47, 48, 49, 50, 51, 52, 53, 54, 55, 56, 57, 58, 59, 60, 61, 62, 63, 64, 65, 66, 67, 68, 69, 70, 71, 72, 73, 74, 75, 76, 77, 78, 79, 80, 81, 82, 83, 84, 85, 86, 87, 88, 89, 90, 91, 92, 93, 94, 95, 96, 97] (by decide +kernel) (by decide +kernel)
set_option maxRecDepth 20000 in
theorem gX11_fits_X11_may : GoodIn wsX11_fits (wsV RX11 213 RX11 yX11_may wsX11_may) := goodIn_app (goodIn_of _ (by decide +kernel)) ggX11_fits_X11_may
set_option maxRecDepth 20000 in
theorem ggX11_fits_X11_take : GoodIn wsX11_fits wsX11_take := goodIn_r _ [16, 17, 18, 19, 20, 21, 6, 22, 43, 44, 45, 46, 47, 48, 49, 50, 51, 52, 53, 54, 55, 56, 57, 58, 59, 60, 61, 62, 63, 64, 65, 66, 67, 68, 69, 70, 71, 72, 73, 74, 75, 76, 77, 78, 79, 80, 81, 82, 83, 84, 85, 86, 87, 88, 89, 90, 91, 92, 93, 94, 95, 96, 97] (by decide +kernel) (by decide +kernel)
set_option maxRecDepth 20000 in
theorem gX11_fits_X11_take : GoodIn wsX11_fits (wsV RX11 316 RX11 yX11_take wsX11_take) := goodIn_app (goodIn_of _ (by decide +kernel)) ggX11_fits_X11_take
set_option maxRecDepth 20000 in
theorem ggX11_look_X11_within : GoodIn wsX11_look wsX11_within := goodIn_r _ [7] (by decide +kernel) (by decide +kernel)
set_option maxRecDepth 20000 in
theorem gX11_look_X11_within : GoodIn wsX11_look (va_wsS RX11 390 yX11_within wsX11_within) := goodIn_app (goodIn_of _ (by decide +kernel)) ggX11_look_X11_within
set_option maxRecDepth 20000 in
theorem ggX11_look_X11_may : GoodIn wsX11_look wsX11_may := goodIn_r _ [11, 1, 12, 48, 49, 50, 51, 52, 53, 54, 55, 56, 57, 58, 59, 60, 61, 62, 63, 64, 65, 66, 67, 68, 69, 70, 71, 72, 73, 74, 75, 76, 77, 78, 79, 80, 81, 82, 83, 84, 85, 86, 87, 88, 89, 90, 91, 92, 93, 94, 95, 96, 97, 98, 99, 100, 101, 102] (by decide +kernel) (by decide +kernel)
set_option maxRecDepth 20000 in
theorem gX11_look_X11_may : GoodIn wsX11_look (wsV RX11 213 RX11 yX11_may wsX11_may) := goodIn_app (goodIn_of _ (by decide +kernel)) ggX11_look_X11_may
set_option maxRecDepth 20000 in
theorem ggX11_look_X11_take : GoodIn wsX11_look wsX11_take := goodIn_r _ [16, 17, 18, 19, 20, 21, 6, 22, 48, 49, 50, 51, 52, 53, 54, 55, 56, 57, 58, 59, 60, 61, 62, 63, 64, 65, 66, 67, 68, 69, 70, 71, 72, 73, 74, 75, 76, 77, 78, 79, 80, 81, 82, 83, 84, 85, 86, 87, 88, 89, 90, 91, 92, 93, 94, 95, 96, 97, 98, 99, 100, 101, 102] (by decide +kernel) (by decide +kernel)
set_option maxRecDepth 20000 in
theorem gX11_look_X11_take : GoodIn wsX11_look (wsV RX11 316 RX11 yX11_take wsX11_take) := goodIn_app (goodIn_of _ (by decide +kernel)) ggX11_look_X11_take
set_option maxRecDepth 20000 in
theorem ggX11_watch_X11_within : GoodIn wsX11_watch wsX11_within := goodIn_r _ [6] (by decide +kernel) (by decide +kernel)
set_option maxRecDepth 20000 in
theorem gX11_watch_X11_within : GoodIn wsX11_watch (va_wsS RX11 390 yX11_within wsX11_within) := goodIn_app (goodIn_of _ (by decide +kernel)) ggX11_watch_X11_within
set_option maxRecDepth 20000 in
theorem ggX11_watch_X11_may : GoodIn wsX11_watch wsX11_may := goodIn_r _ [10, 1, 11, 23, 24, 25, 26, 27, 28, 29, 30, 31, 32, 33, 34, 35, 36, 37, 38, 39, 40, 41, 42, 43, 44, 45, 46, 47, 48, 49, 50, 51, 52, 53, 54, 55, 56, 57, 58, 59, 60, 61, 62, 63, 64, 65, 66, 67, 68, 69, 70, 71, 72, 73, 74, 75, 76, 77] (by decide +kernel) (by decide +kernel)
set_option maxRecDepth 20000 in
theorem gX11_watch_X11_may : GoodIn wsX11_watch (wsV RX11 213 RX11 yX11_may wsX11_may) := goodIn_app (goodIn_of _ (by decide +kernel)) ggX11_watch_X11_may
set_option maxRecDepth 20000 in
theorem ggX11_few_X11_within : GoodIn wsX11_few wsX11_within := goodIn_r _ [7] (by decide +kernel) (by decide +kernel)
set_option maxRecDepth 20000 in
theorem gX11_few_X11_within : GoodIn wsX11_few (va_wsS RX11 390 yX11_within wsX11_within) := goodIn_app (goodIn_of _ (by decide +kernel)) ggX11_few_X11_within
set_option maxRecDepth 20000 in
theorem ggX11_few_X11_may : GoodIn wsX11_few wsX11_may := goodIn_r _ [11, 1, 12, 16, 17, 18, 19, 20, 21, 22, 23, 24, 25, 26, 27, 28, 29, 30, 31, 32, 33, 34, 35, 36, 37, 38, 39, 40, 41, 42, 43, 44, 45, 46, 47, 48, 49, 50, 51, 52, 53, 54, 55, 56, 57, 58, 59, 60, 61, 62, 63, 64, 65, 66, 67, 68, 69, 70] (by decide +kernel) (by decide +kernel)
set_option maxRecDepth 20000 in
theorem gX11_few_X11_may : GoodIn wsX11_few (wsV RX11 213 RX11 yX11_may wsX11_may) := goodIn_app (goodIn_of _ (by decide +kernel)) ggX11_few_X11_may
set_option maxRecDepth 20000 in
theorem ggX11_few_X11_least : GoodIn wsX11_few wsX11_least := goodIn_r _ [15] (by decide +kernel) (by decide +kernel)
set_option maxRecDepth 20000 in
theorem gX11_few_X11_least : GoodIn wsX11_few (va_wsS RX11 435 yX11_least wsX11_least) := goodIn_app (goodIn_of _ (by decide +kernel)) ggX11_few_X11_least
set_option maxRecDepth 20000 in
theorem ggX11_road_X11_within : GoodIn wsX11_road wsX11_within := goodIn_r _ [5] (by decide +kernel) (by decide +kernel)
set_option maxRecDepth 20000 in
theorem gX11_road_X11_within : GoodIn wsX11_road (va_wsS RX11 390 yX11_within wsX11_within) := goodIn_app (goodIn_of _ (by decide +kernel)) ggX11_road_X11_within
set_option maxRecDepth 20000 in
theorem ggX11_road_X11_may : GoodIn wsX11_road wsX11_may := goodIn_r _ [9, 1, 10, 14, 15, 16, 17, 18, 19, 20, 21, 22, 23, 24, 25, 26, 27, 28, 29, 30, 31, 32, 33, 34, 35, 36, 37, 38, 39, 40, 41, 42, 43, 44, 45, 46, 47, 48, 49, 50, 51, 52, 53, 54, 55, 56, 57, 58, 59, 60, 61, 62, 63, 64, 65, 66, 67, 68] (by decide +kernel) (by decide +kernel)
set_option maxRecDepth 20000 in
theorem gX11_road_X11_may : GoodIn wsX11_road (wsV RX11 213 RX11 yX11_may wsX11_may) := goodIn_app (goodIn_of _ (by decide +kernel)) ggX11_road_X11_may
set_option maxRecDepth 20000 in
theorem ggX11_road_X11_hasBy : GoodIn wsX11_road wsX11_hasBy := goodIn_r _ [13] (by decide +kernel) (by decide +kernel)
set_option maxRecDepth 20000 in
theorem gX11_road_X11_hasBy : GoodIn wsX11_road (va_wsS RX11 438 yX11_hasBy wsX11_hasBy) := goodIn_app (goodIn_of _ (by decide +kernel)) ggX11_road_X11_hasBy
set_option maxRecDepth 20000 in
theorem ggX11_clover_X11_isHare : GoodIn wsX11_clover wsX11_isHare := goodIn_r _ [7, 2, 8, 9, 6, 10, 11, 12, 13, 14, 1, 15, 34, 35, 36, 37, 38, 39, 40, 41, 42, 43, 44, 45, 46, 47, 48, 49, 50, 51, 52, 53, 54, 55, 56, 57, 58, 59, 60, 61, 62, 63, 64, 65, 66, 67, 68, 69, 70, 71, 72, 73, 74, 75, 76, 77, 78, 79, 80, 81, 82, 83, 84, 85, 86, 87, 88] (by decide +kernel) (by decide +kernel)
set_option maxRecDepth 20000 in
theorem gX11_clover_X11_isHare : GoodIn wsX11_clover (wsV RX11 408 RX11 yX11_isHare wsX11_isHare) := goodIn_app (goodIn_of _ (by decide +kernel)) ggX11_clover_X11_isHare
set_option maxRecDepth 20000 in
theorem ggX11_strongest_X11_within : GoodIn wsX11_strongest wsX11_within := goodIn_r _ [7] (by decide +kernel) (by decide +kernel)
set_option maxRecDepth 20000 in
theorem gX11_strongest_X11_within : GoodIn wsX11_strongest (va_wsS RX11 390 yX11_within wsX11_within) := goodIn_app (goodIn_of _ (by decide +kernel)) ggX11_strongest_X11_within
set_option maxRecDepth 20000 in
theorem ggX11_strongest_X11_may : GoodIn wsX11_strongest wsX11_may := goodIn_r _ [11, 1, 12, 26, 27, 28, 29, 30, 31, 32, 33, 34, 35, 36, 37, 38, 39, 40, 41, 42, 43, 44, 45, 46, 47, 48, 49, 50, 51, 52, 53, 54, 55, 56, 57, 58, 59, 60, 61, 62, 63, 64, 65, 66, 67, 68, 69, 70, 71, 72, 73, 74, 75, 76, 77, 78, 79, 80] (by decide +kernel) (by decide +kernel)
set_option maxRecDepth 20000 in
theorem gX11_strongest_X11_may : GoodIn wsX11_strongest (wsV RX11 213 RX11 yX11_may wsX11_may) := goodIn_app (goodIn_of _ (by decide +kernel)) ggX11_strongest_X11_may
set_option maxRecDepth 20000 in
theorem ggX11_strongest_X11_take : GoodIn wsX11_strongest wsX11_take := goodIn_r _ [16, 17, 3, 18, 19, 20, 6, 21, 26, 27, 28, 29, 30, 31, 32, 33, 34, 35, 36, 37, 38, 39, 40, 41, 42, 43, 44, 45, 46, 47, 48, 49, 50, 51, 52, 53, 54, 55, 56, 57, 58, 59, 60, 61, 62, 63, 64, 65, 66, 67, 68, 69, 70, 71, 72, 73, 74, 75, 76, 77, 78, 79, 80] (by decide +kernel) (by decide +kernel)
set_option maxRecDepth 20000 in
theorem gX11_strongest_X11_take : GoodIn wsX11_strongest (wsV RX11 316 RX11 yX11_take wsX11_take) := goodIn_app (goodIn_of _ (by decide +kernel)) ggX11_strongest_X11_take
set_option maxRecDepth 20000 in
theorem ggX11_ties_X11_isHare : GoodIn wsX11_ties wsX11_isHare := goodIn_r _ [8, 2, 9, 10, 7, 11, 12, 13, 14, 15, 1, 16, 17, 18, 19, 20, 21, 22, 23, 24, 25, 26, 27, 28, 29, 30, 31, 32, 33, 34, 35, 36, 37, 38, 39, 40, 41, 42, 43, 44, 45, 46, 47, 48, 49, 50, 51, 52, 53, 54, 55, 56, 57, 58, 59, 60, 61, 62, 63, 64, 65, 66, 67, 68, 69, 70, 71] (by decide +kernel) (by decide +kernel)
set_option maxRecDepth 20000 in
theorem gX11_ties_X11_isHare : GoodIn wsX11_ties (wsV RX11 408 RX11 yX11_isHare wsX11_isHare) := goodIn_app (goodIn_of _ (by decide +kernel)) ggX11_ties_X11_isHare
set_option maxRecDepth 20000 in
theorem ggX11_refuge_X11_isForm : GoodIn wsX11_refuge wsX11_isForm := goodIn_r _ [7, 2, 8, 9, 6, 10, 11, 12, 13, 14, 1, 15, 30, 31, 32, 33, 34, 35, 36, 37, 38, 39, 40, 41, 42, 43, 44, 45, 46, 47, 48, 49, 50, 51, 52, 53, 54, 55, 56, 57, 58, 59, 60, 61, 62, 63, 64, 65, 66, 67, 68, 69, 70, 71, 72, 73, 74, 75, 76, 77, 78, 79, 80, 81, 82, 83, 84] (by decide +kernel) (by decide +kernel)
set_option maxRecDepth 20000 in
theorem gX11_refuge_X11_isForm : GoodIn wsX11_refuge (wsV RX11 405 RX11 yX11_isForm wsX11_isForm) := goodIn_app (goodIn_of _ (by decide +kernel)) ggX11_refuge_X11_isForm
set_option maxRecDepth 20000 in
theorem ggX11_marchGoes_X11_take : GoodIn wsX11_marchGoes wsX11_take := goodIn_r _ [9, 10, 11, 12, 13, 14, 8, 15, 103, 104, 105, 106, 107, 108, 109, 110, 111, 112, 113, 114, 115, 116, 117, 118, 119, 120, 121, 122, 123, 124, 125, 126, 127, 128, 129, 130, 131, 132, 133, 134, 135, 136, 137, 138, 139, 140, 141, 142, 143, 144, 145, 146, 147, 148, 149, 150, 151, 152, 153, 154, 155, 156, 157] (by decide +kernel) (by decide +kernel)
set_option maxRecDepth 20000 in
theorem gX11_marchGoes_X11_take : GoodIn wsX11_marchGoes (wsV RX11 316 RX11 yX11_take wsX11_take) := goodIn_app (goodIn_of _ (by decide +kernel)) ggX11_marchGoes_X11_take
set_option maxRecDepth 20000 in
theorem ggX11_marchGoes_X11_passes : GoodIn wsX11_marchGoes wsX11_passes := goodIn_r _ [87, 3, 11, 29, 30, 31, 8, 32, 88, 89, 90, 91, 92, 93, 94, 95, 96, 97, 98, 99, 100, 101, 37, 102, 38, 39, 40, 103, 104, 105, 106, 107, 108, 109, 110, 111, 112, 113, 114, 115, 116, 117, 118, 119, 120, 121, 122, 123, 124, 125, 126, 127, 128, 129, 130, 131, 132, 133, 134, 135, 136, 137, 138, 139, 140, 141, 142, 143, 144, 145, 146, 147, 148, 149, 150, 151, 152, 153, 154, 155, 156, 157] (by decide +kernel) (by decide +kernel)
set_option maxRecDepth 20000 in
theorem gX11_marchGoes_X11_passes : GoodIn wsX11_marchGoes (wsV RX11 387 RX11 yX11_passes wsX11_passes) := goodIn_app (goodIn_of _ (by decide +kernel)) ggX11_marchGoes_X11_passes
set_option maxRecDepth 20000 in
theorem ggX11_march_X11_within : GoodIn wsX11_march wsX11_within := goodIn_r _ [7] (by decide +kernel) (by decide +kernel)
set_option maxRecDepth 20000 in
theorem gX11_march_X11_within : GoodIn wsX11_march (va_wsS RX11 390 yX11_within wsX11_within) := goodIn_app (goodIn_of _ (by decide +kernel)) ggX11_march_X11_within
set_option maxRecDepth 20000 in
theorem ggX11_march_X11_may : GoodIn wsX11_march wsX11_may := goodIn_r _ [11, 1, 12, 124, 125, 126, 127, 128, 129, 130, 131, 132, 133, 134, 135, 136, 137, 138, 139, 140, 141, 142, 143, 144, 145, 146, 147, 148, 149, 150, 151, 152, 153, 154, 155, 156, 157, 158, 159, 160, 161, 162, 163, 164, 165, 166, 167, 168, 169, 170, 171, 172, 173, 174, 175, 176, 177, 178] (by decide +kernel) (by decide +kernel)
set_option maxRecDepth 20000 in
theorem gX11_march_X11_may : GoodIn wsX11_march (wsV RX11 213 RX11 yX11_may wsX11_may) := goodIn_app (goodIn_of _ (by decide +kernel)) ggX11_march_X11_may
set_option maxRecDepth 20000 in
theorem ggX11_march_X11_marchGoes : GoodIn wsX11_march wsX11_marchGoes := goodIn_r _ [16, 17, 2, 18, 19, 20, 21, 22, 6, 23, 24, 3, 25, 26, 27, 28, 29, 30, 31, 32, 33, 34, 35, 36, 37, 38, 39, 40, 41, 42, 43, 44, 45, 46, 47, 48, 49, 50, 51, 52, 53, 54, 55, 56, 57, 58, 59, 60, 61, 62, 63, 64, 65, 66, 67, 68, 69, 70, 71, 72, 73, 74, 75, 76, 77, 78, 79, 80, 81, 82, 83, 84, 85, 86, 87, 88, 89, 90, 91, 92, 93, 94, 95, 96, 97, 98, 99, 100, 101, 102, 103, 104, 105, 106, 107, 108, 109, 110, 111, 112, 113, 114, 115, 124, 125, 126, 127, 128, 129, 130, 131, 132, 133, 134, 135, 136, 137, 138, 139, 140, 141, 142, 143, 144, 145, 146, 147, 148, 149, 150, 151, 152, 153, 154, 155, 156, 157, 158, 159, 160, 161, 162, 163, 164, 165, 166, 167, 168, 169, 170, 171, 172, 173, 174, 175, 176, 177, 178] (by decide +kernel) (by decide +kernel)
set_option maxRecDepth 20000 in
theorem gX11_march_X11_marchGoes : GoodIn wsX11_march (wsV RX11 454 RX11 yX11_marchGoes wsX11_marchGoes) := goodIn_app (goodIn_of _ (by decide +kernel)) ggX11_march_X11_marchGoes
set_option maxRecDepth 20000 in
theorem ggX11_march_X11_caughtNow : GoodIn wsX11_march wsX11_caughtNow := goodIn_r _ [119, 18, 42, 43, 44, 6, 45, 3, 124, 125, 126, 127, 128, 129, 130, 131, 132, 133, 134, 135, 136, 137, 138, 139, 140, 141, 142, 143, 144, 145, 146, 147, 148, 149, 150, 151, 152, 153, 154, 155, 156, 157, 158, 159, 160, 161, 162, 163, 164, 165, 166, 167, 168, 169, 170, 171, 172, 173, 174, 175, 176, 177, 178] (by decide +kernel) (by decide +kernel)
set_option maxRecDepth 20000 in
theorem gX11_march_X11_caughtNow : GoodIn wsX11_march (wsV RX11 396 RX11 yX11_caughtNow wsX11_caughtNow) := goodIn_app (goodIn_of _ (by decide +kernel)) ggX11_march_X11_caughtNow
set_option maxRecDepth 20000 in
theorem ggX11_march_X11_strengthNow : GoodIn wsX11_march wsX11_strengthNow := goodIn_r _ [123, 18, 3, 42, 43, 44, 6, 45, 124, 125, 126, 127, 128, 129, 130, 131, 132, 133, 134, 135, 136, 137, 138, 139, 140, 141, 142, 143, 144, 145, 146, 147, 148, 149, 150, 151, 152, 153, 154, 155, 156, 157, 158, 159, 160, 161, 162, 163, 164, 165, 166, 167, 168, 169, 170, 171, 172, 173, 174, 175, 176, 177, 178] (by decide +kernel) (by decide +kernel)
set_option maxRecDepth 20000 in
theorem gX11_march_X11_strengthNow : GoodIn wsX11_march (wsV RX11 457 RX11 yX11_strengthNow wsX11_strengthNow) := goodIn_app (goodIn_of _ (by decide +kernel)) ggX11_march_X11_strengthNow
set_option maxRecDepth 20000 in
theorem ggX11_span_X11_within : GoodIn wsX11_span wsX11_within := goodIn_r _ [7] (by decide +kernel) (by decide +kernel)
set_option maxRecDepth 20000 in
theorem gX11_span_X11_within : GoodIn wsX11_span (va_wsS RX11 390 yX11_within wsX11_within) := goodIn_app (goodIn_of _ (by decide +kernel)) ggX11_span_X11_within
set_option maxRecDepth 20000 in
theorem ggX11_span_X11_may : GoodIn wsX11_span wsX11_may := goodIn_r _ [11, 1, 12, 116, 117, 118, 119, 120, 121, 122, 123, 124, 125, 126, 127, 128, 129, 130, 131, 132, 133, 134, 135, 136, 137, 138, 139, 140, 141, 142, 143, 144, 145, 146, 147, 148, 149, 150, 151, 152, 153, 154, 155, 156, 157, 158, 159, 160, 161, 162, 163, 164, 165, 166, 167, 168, 169, 170] (by decide +kernel) (by decide +kernel)
set_option maxRecDepth 20000 in
theorem gX11_span_X11_may : GoodIn wsX11_span (wsV RX11 213 RX11 yX11_may wsX11_may) := goodIn_app (goodIn_of _ (by decide +kernel)) ggX11_span_X11_may
set_option maxRecDepth 20000 in
theorem ggX11_keepsAll_X11_keepsRow : GoodIn wsX11_keepsAll wsX11_keepsRow := goodIn_r _ [9, 3, 10, 11, 12, 13, 14, 15, 16, 17, 18, 19, 20, 21, 22, 23, 24, 25, 26, 27, 28, 29, 30, 31, 32, 33, 34, 35, 36, 37, 38, 39, 40, 41, 42, 43, 44, 45, 46, 47, 48, 49, 50, 51, 52, 53, 54, 55, 56, 57, 58, 59, 60, 61, 62, 63, 64] (by decide +kernel) (by decide +kernel)
set_option maxRecDepth 20000 in
theorem gX11_keepsAll_X11_keepsRow : GoodIn wsX11_keepsAll (wsV RX11 460 RX11 yX11_keepsRow wsX11_keepsRow) := goodIn_app (goodIn_of _ (by decide +kernel)) ggX11_keepsAll_X11_keepsRow
set_option maxRecDepth 20000 in
theorem ggX11_image_X11_keepsAll : GoodIn wsX11_image wsX11_keepsAll := goodIn_r _ [7, 8, 9, 10, 11, 12, 13, 14, 6, 15, 16, 17, 18, 19, 20, 21, 22, 23, 24, 25, 26, 27, 28, 29, 30, 31, 32, 33, 34, 35, 36, 37, 38, 39, 40, 41, 42, 43, 44, 45, 46, 47, 48, 49, 50, 51, 52, 53, 54, 55, 56, 57, 58, 59, 60, 61, 62, 63, 64, 65, 66, 67, 68, 69, 70] (by decide +kernel) (by decide +kernel)
set_option maxRecDepth 20000 in
theorem gX11_image_X11_keepsAll : GoodIn wsX11_image (wsV RX11 464 RX11 yX11_keepsAll wsX11_keepsAll) := goodIn_app (goodIn_of _ (by decide +kernel)) ggX11_image_X11_keepsAll
set_option maxRecDepth 20000 in
theorem ggX11_status_X11_within : GoodIn wsX11_status wsX11_within := goodIn_r _ [6] (by decide +kernel) (by decide +kernel)
set_option maxRecDepth 20000 in
theorem gX11_status_X11_within : GoodIn wsX11_status (va_wsS RX11 390 yX11_within wsX11_within) := goodIn_app (goodIn_of _ (by decide +kernel)) ggX11_status_X11_within
set_option maxRecDepth 20000 in
theorem ggJ0_length_8abf5_J0_coder_7d493 : GoodIn wsJ0_length_8abf5 wsJ0_coder_7d493 := goodIn_r _ [6, 7, 8] (by decide +kernel) (by decide +kernel)
set_option maxRecDepth 20000 in
theorem gJ0_length_8abf5_J0_coder_7d493 : GoodIn wsJ0_length_8abf5 (wsV RJ0 335 RJ0 yJ0_coder_7d493 wsJ0_coder_7d493) := goodIn_app (goodIn_of _ (by decide +kernel)) ggJ0_length_8abf5_J0_coder_7d493
set_option maxRecDepth 20000 in
theorem ggJ0_charAt_5068e_J0_isLatin1_aae02 : GoodIn wsJ0_charAt_5068e wsJ0_isLatin1_aae02 := goodIn_r _ [6, 7, 8] (by decide +kernel) (by decide +kernel)
set_option maxRecDepth 20000 in
theorem gJ0_charAt_5068e_J0_isLatin1_aae02 : GoodIn wsJ0_charAt_5068e (wsV RJ0 492 RJ0 yJ0_isLatin1_aae02 wsJ0_isLatin1_aae02) := goodIn_app (goodIn_of _ (by decide +kernel)) ggJ0_charAt_5068e_J0_isLatin1_aae02
set_option maxRecDepth 20000 in
theorem ggJ0_charAt_5068e_J1_charAt_3b067 : GoodIn wsJ0_charAt_5068e wsJ1_charAt_3b067 := goodIn_r _ [12, 13, 14, 5, 15, 16, 17, 18, 19, 20] (by decide +kernel) (by decide +kernel)
set_option maxRecDepth 20000 in
theorem gJ0_charAt_5068e_J1_charAt_3b067 : GoodIn wsJ0_charAt_5068e (va_wsS RJ0 495 yJ1_charAt_3b067 wsJ1_charAt_3b067) := goodIn_app (goodIn_of _ (by decide +kernel)) ggJ0_charAt_5068e_J1_charAt_3b067
set_option maxRecDepth 20000 in
theorem ggJ0_checkIndex_df160_J3_checkIndex_8e157 : GoodIn wsJ0_checkIndex_df160 wsJ3_checkIndex_8e157 := goodIn_r _ [5] (by decide +kernel) (by decide +kernel)
set_option maxRecDepth 20000 in
theorem gJ0_checkIndex_df160_J3_checkIndex_8e157 : GoodIn wsJ0_checkIndex_df160 (va_wsS RJ0 1059 yJ3_checkIndex_8e157 wsJ3_checkIndex_8e157) := goodIn_app (goodIn_of _ (by decide +kernel)) ggJ0_checkIndex_df160_J3_checkIndex_8e157
set_option maxRecDepth 20000 in
theorem ggJ1_charAt_3b067_J0_checkIndex_df160 : GoodIn wsJ1_charAt_3b067 wsJ0_checkIndex_df160 := goodIn_r _ [4, 5, 6, 7, 8, 9] (by decide +kernel) (by decide +kernel)
set_option maxRecDepth 20000 in
theorem gJ1_charAt_3b067_J0_checkIndex_df160 : GoodIn wsJ1_charAt_3b067 (va_wsS RJ1 9 yJ0_checkIndex_df160 wsJ0_checkIndex_df160) := goodIn_app (goodIn_of _ (by decide +kernel)) ggJ1_charAt_3b067_J0_checkIndex_df160
set_option maxRecDepth 20000 in
theorem ggL_down_X10_down : GoodIn wsL_down wsX10_down := goodIn_ca (goodIn_r _ [6, 7, 8, 9, 10, 11, 12, 13, 14, 15, 16, 17, 18, 19, 20, 21, 5, 22, 23, 24, 25, 26, 27, 28, 29, 30, 31, 32, 33, 34, 35, 36, 37, 38, 39, 40, 41, 42, 43, 44, 45, 46, 47, 48, 49, 50, 51, 52, 53, 54, 55, 56, 57, 58, 59, 60, 61, 62, 63, 64, 65, 66, 67, 68, 69, 70, 71, 72, 73, 74, 75, 76, 77, 78, 79, 80, 81, 82, 83, 84, 85, 86, 87, 88, 89, 90, 91, 92, 93, 94, 95, 96, 97, 98, 99, 100, 101, 102, 103, 104, 105, 106, 107, 108, 109, 110, 111, 112, 113, 114, 115, 116, 117, 118, 119, 120, 121, 122, 123, 124, 125, 126, 127, 128, 129, 130, 131, 132, 133, 134, 135, 136, 137, 138, 139, 140, 141, 142, 143, 144, 145, 146, 147, 148, 149, 150, 151, 152, 153, 154, 155, 156, 157, 158, 159, 160, 161, 162, 163, 164, 165, 166, 167, 168, 169, 170, 171, 172, 173, 174, 175, 176, 177, 178, 179, 180, 181, 182, 183, 184, 185, 186, 187, 188, 189, 190, 191, 192, 193, 194, 195, 196, 197, 198, 199, 200, 201, 202, 203, 204, 205, 206, 207, 208, 209, 210, 211, 212, 213, 214, 215, 216, 217, 218, 219, 220, 221, 222, 223, 224, 225, 226, 227, 228, 229, 230, 231, 232, 233, 234, 235, 236, 237, 238, 239, 240, 241, 242, 243, 244, 245, 246, 247, 248, 249, 250, 251, 252, 253, 254, 255, 256, 257, 258, 259, 260, 261, 262, 263, 264, 265, 266, 267, 268, 269, 270, 271, 272, 273, 274, 275, 276, 277, 278, 279, 280, 281, 282, 283, 284, 285, 286, 287, 288] (by decide +kernel) (by decide +kernel)) (goodIn_sub (fun _ h => List.mem_cons_of_mem _ (List.mem_append_right _ h)) (by decide +kernel))
set_option maxRecDepth 20000 in
theorem gL_down_X10_down : GoodIn wsL_down (wsV RL 7 RX10 yX10_down wsX10_down) := goodIn_app (goodIn_of _ (by decide +kernel)) ggL_down_X10_down
set_option maxRecDepth 20000 in
theorem ggL_law_X10_law : GoodIn wsL_law wsX10_law := goodIn_ca (goodIn_r _ [6, 7, 8, 9, 10, 11, 12, 13, 14, 5, 15, 16, 17, 18, 19, 20, 21, 22, 23, 24, 25, 26, 27, 28, 29, 30, 31, 32, 33, 34, 35, 36, 37, 38, 39, 40, 41, 42, 43, 44, 45, 46, 47, 48, 49, 50, 51, 52, 53, 54, 55, 56, 57, 58, 59, 60, 61, 62, 63, 64, 65, 66, 67, 68, 69, 70, 71, 72, 73, 74, 75, 76, 77, 78, 79, 80, 81, 82, 83, 84, 85, 86, 87, 88, 89, 90, 91, 92, 93, 94, 95, 96, 97, 98, 99, 100, 101, 102, 103, 104, 105, 106, 107, 108, 109, 110, 111, 112, 113, 114, 115, 116, 117, 118, 119, 120, 121, 122, 123, 124, 125, 126, 127, 128, 129, 130, 131, 132, 133, 134, 135, 136, 137, 138, 139, 140, 141, 142, 143, 144, 145, 146, 147, 148, 149, 150, 151, 152, 153, 154, 155, 156, 157, 158, 159, 160, 161, 162, 163, 164, 165, 166, 167, 168, 169, 170, 171, 172, 173, 174, 175, 176, 177, 178, 179, 180, 181, 182, 183, 184, 185, 186, 187, 188, 189, 190, 191, 192, 193, 194, 195, 196, 197, 198, 199, 200, 201, 202, 203, 204, 205, 206, 207, 208, 209, 210, 211, 212, 213, 214, 215, 216, 217, 218, 219, 220, 221, 222, 223, 224, 225, 226, 227, 228, 229, 230, 231, 232, 233, 234] (by decide +kernel) (by decide +kernel)) (goodIn_sub (fun _ h => List.mem_cons_of_mem _ (List.mem_append_right _ h)) (by decide +kernel))
set_option maxRecDepth 20000 in
theorem gL_law_X10_law : GoodIn wsL_law (wsV RL 15 RX10 yX10_law wsX10_law) := goodIn_app (goodIn_of _ (by decide +kernel)) ggL_law_X10_law
set_option maxRecDepth 20000 in
theorem ggL_work_X10_work : GoodIn wsL_work wsX10_work := goodIn_ca (goodIn_r _ [6, 7, 8, 9, 10, 11, 12, 13, 14, 15, 16, 17, 18, 19, 20, 21, 5, 22, 23, 24, 25, 26, 27, 28, 29, 30, 31, 32, 33, 34, 35, 36, 37, 38, 39, 40, 41, 42, 43, 44, 45, 46, 47, 48, 49, 50, 51, 52, 53, 54, 55, 56, 57, 58, 59, 60, 61, 62, 63, 64, 65, 66, 67, 68, 69, 70, 71, 72, 73, 74, 75, 76, 77, 78, 79, 80, 81, 82, 83, 84, 85, 86, 87, 88, 89, 90, 91, 92, 93, 94, 95, 96, 97, 98, 99, 100, 101, 102, 103, 104, 105, 106, 107, 108, 109, 110, 111, 112, 113, 114, 115, 116, 117, 118, 119, 120, 121, 122, 123, 124, 125, 126, 127, 128, 129, 130, 131, 132, 133, 134, 135, 136, 137, 138, 139, 140, 141, 142, 143, 144, 145, 146, 147, 148, 149, 150, 151, 152, 153, 154, 155, 156, 157, 158, 159, 160, 161, 162, 163, 164, 165, 166, 167, 168, 169, 170, 171, 172, 173, 174, 175, 176, 177, 178, 179, 180, 181, 182, 183, 184, 185, 186, 187, 188, 189, 190, 191, 192, 193, 194, 195, 196, 197, 198, 199, 200, 201, 202, 203, 204, 205, 206, 207, 208, 209, 210, 211, 212, 213, 214, 215, 216, 217, 218, 219, 220, 221, 222, 223, 224, 225, 226, 227, 228, 229, 230, 231, 232, 233, 234, 235, 236, 237, 238, 239, 240, 241, 242, 243, 244, 245, 246, 247, 248, 249, 250, 251, 252, 253, 254, 255, 256, 257, 258, 259, 260, 261, 262, 263, 264, 265, 266, 267, 268, 269, 270, 271, 272, 273, 274, 275, 276, 277, 278, 279, 280, 281, 282, 283, 284, 285, 286, 287, 288, 289, 290, 291, 292, 293, 294, 295, 296, 297, 298, 299, 300, 301, 302, 303, 304, 305, 306, 307, 308, 309, 310, 311, 312, 313, 314, 315, 316, 317, 318, 319, 320, 321, 322, 323, 324, 325, 326, 327, 328, 329, 330, 331, 332, 333, 334, 335, 336, 337, 338, 339, 340, 341, 342, 343, 344, 345, 346, 347, 348, 349, 350, 351, 352, 353, 354, 355, 356, 357, 358, 359, 360, 361, 362, 363, 364, 365, 366, 367, 368, 369, 370, 371, 372, 373, 374, 375, 376, 377, 378, 379, 380, 381, 382, 383, 384, 385, 386, 387, 388, 389, 390, 391, 392, 393, 394, 395, 396, 397, 398, 399, 400, 401, 402, 403, 404, 405, 406, 407, 408, 409, 410, 411, 412, 413, 414, 415, 416, 417, 418, 419, 420, 421, 422, 423, 424, 425, 426, 427, 428, 429, 430] (by decide +kernel) (by decide +kernel)) (goodIn_sub (fun _ h => List.mem_cons_of_mem _ (List.mem_append_right _ h)) (by decide +kernel))
set_option maxRecDepth 20000 in
theorem gL_work_X10_work : GoodIn wsL_work (wsV RL 18 RX10 yX10_work wsX10_work) := goodIn_app (goodIn_of _ (by decide +kernel)) ggL_work_X10_work
set_option maxRecDepth 20000 in
theorem ggL_book_X10_book : GoodIn wsL_book wsX10_book := goodIn_ca (goodIn_r _ [6, 7, 8, 9, 10, 11, 12, 13, 14, 15, 16, 5, 17, 18, 19, 20, 21, 22, 23, 24, 25, 26, 27, 28, 29, 30, 31, 32, 33, 34, 35, 36, 37, 38, 39, 40, 41, 42, 43, 44, 45, 46, 47, 48, 49, 50, 51, 52, 53, 54, 55, 56, 57, 58, 59, 60, 61, 62, 63, 64, 65, 66, 67, 68, 69, 70, 71, 72, 73, 74, 75, 76, 77, 78, 79, 80, 81, 82, 83, 84, 85, 86, 87, 88, 89, 90, 91, 92, 93, 94, 95, 96, 97, 98, 99, 100, 101, 102, 103, 104, 105, 106, 107, 108, 109, 110, 111, 112, 113, 114, 115, 116, 117, 118, 119, 120, 121, 122, 123, 124, 125, 126, 127, 128, 129, 130, 131, 132, 133, 134, 135, 136, 137, 138, 139, 140, 141, 142, 143, 144, 145, 146, 147, 148, 149, 150, 151] (by decide +kernel) (by decide +kernel)) (goodIn_sub (fun _ h => List.mem_cons_of_mem _ (List.mem_append_right _ h)) (by decide +kernel))
set_option maxRecDepth 20000 in
theorem gL_book_X10_book : GoodIn wsL_book (wsV RL 21 RX10 yX10_book wsX10_book) := goodIn_app (goodIn_of _ (by decide +kernel)) ggL_book_X10_book
set_option maxRecDepth 20000 in
theorem ggL_told_X10_told : GoodIn wsL_told wsX10_told := goodIn_ca (goodIn_r _ [6, 7, 8, 9, 10, 11, 12, 13, 14, 15, 16, 17, 18, 5, 19, 20, 21, 22, 23, 24, 25, 26, 27, 28, 29, 30, 31, 32, 33, 34, 35, 36, 37, 38, 39, 40, 41, 42, 43, 44, 45, 46, 47, 48, 49, 50, 51, 52, 53, 54, 55, 56, 57, 58, 59, 60, 61, 62, 63, 64, 65, 66, 67, 68, 69, 70, 71, 72, 73, 74, 75, 76, 77, 78, 79, 80, 81, 82, 83, 84, 85, 86, 87, 88, 89, 90, 91, 92, 93, 94, 95, 96, 97, 98, 99, 100, 101, 102, 103, 104, 105, 106, 107, 108, 109, 110, 111, 112, 113, 114, 115, 116, 117, 118, 119, 120, 121, 122] (by decide +kernel) (by decide +kernel)) (goodIn_sub (fun _ h => List.mem_cons_of_mem _ (List.mem_append_right _ h)) (by decide +kernel))
set_option maxRecDepth 20000 in
theorem gL_told_X10_told : GoodIn wsL_told (wsV RL 24 RX10 yX10_told wsX10_told) := goodIn_app (goodIn_of _ (by decide +kernel)) ggL_told_X10_told
set_option maxRecDepth 20000 in
theorem ggL_form_X10_form : GoodIn wsL_form wsX10_form := goodIn_ca (goodIn_ca (goodIn_r _ [7, 8, 9, 10, 11, 12, 13, 14, 6, 15, 16, 17, 18, 19, 20, 21, 22, 23, 24, 25, 26, 27, 28, 29, 30, 31, 32, 33, 34, 35, 36, 37, 38, 39, 40, 41, 42, 43, 44, 45, 46, 47, 48, 49, 50, 51, 52, 53, 54, 55, 56, 57, 58, 59, 60, 61, 62, 63, 64, 65, 66, 67, 68, 69, 70, 71, 72, 73, 74, 75, 76, 77, 78, 79, 80, 81, 82, 83, 84, 85, 86, 87, 88, 89, 90, 91, 92] (by decide +kernel) (by decide +kernel)) (goodIn_sub (fun _ h => List.mem_cons_of_mem _ (List.mem_append_left _ (List.mem_append_right _ h))) (by decide +kernel))) (goodIn_sub (fun _ h => List.mem_cons_of_mem _ (List.mem_append_right _ h)) (by decide +kernel))
set_option maxRecDepth 20000 in
theorem gL_form_X10_form : GoodIn wsL_form (wsV RL 27 RX10 yX10_form wsX10_form) := goodIn_app (goodIn_of _ (by decide +kernel)) ggL_form_X10_form
set_option maxRecDepth 20000 in
theorem ggL_hare_X10_hare : GoodIn wsL_hare wsX10_hare := goodIn_ca (goodIn_ca (goodIn_r _ [7, 8, 9, 10, 11, 12, 13, 6, 14, 15, 16, 17, 18, 19, 20, 21, 22, 23, 24, 25, 26, 27, 28, 29, 30, 31, 32, 33, 34, 35, 36, 37, 38, 39, 40, 41, 42, 43, 44, 45, 46, 47, 48, 49, 50, 51, 52, 53, 54, 55, 56, 57, 58, 59, 60, 61, 62, 63, 64, 65, 66, 67, 68, 69, 70, 71, 72, 73, 74, 75, 76, 77, 78, 79, 80, 81, 82, 83, 84, 85, 86, 87, 88, 89, 90, 91, 92, 93, 94, 95, 96, 97, 98, 99, 100, 101, 102, 103, 104, 105, 106, 107, 108, 109, 110, 111, 112, 113, 114, 115, 116, 117, 118, 119, 120, 121, 122, 123, 124, 125, 126, 127, 128, 129, 130, 131, 132, 133, 134, 135, 136, 137, 138, 139, 140, 141, 142, 143, 144, 145, 146, 147, 148, 149, 150, 151, 152, 153, 154, 155, 156, 157, 158, 159, 160, 161, 162, 163] (by decide +kernel) (by decide +kernel)) (goodIn_sub (fun _ h => List.mem_cons_of_mem _ (List.mem_append_left _ (List.mem_append_right _ h))) (by decide +kernel))) (goodIn_sub (fun _ h => List.mem_cons_of_mem _ (List.mem_append_right _ h)) (by decide +kernel))
set_option maxRecDepth 20000 in
theorem gL_hare_X10_hare : GoodIn wsL_hare (wsV RL 33 RX10 yX10_hare wsX10_hare) := goodIn_app (goodIn_of _ (by decide +kernel)) ggL_hare_X10_hare
set_option maxRecDepth 20000 in
theorem ggL_fox_X10_fox : GoodIn wsL_fox wsX10_fox := goodIn_ca (goodIn_ca (goodIn_r _ [7, 8, 9, 10, 11, 12, 13, 14, 15, 16, 6, 17, 18, 19, 20, 21, 22, 23, 24, 25, 26, 27, 28, 29, 30, 31, 32, 33, 34, 35, 36, 37, 38, 39, 40, 41, 42, 43, 44, 45, 46, 47, 48, 49, 50, 51, 52, 53, 54, 55, 56, 57, 58, 59] (by decide +kernel) (by decide +kernel)) (goodIn_sub (fun _ h => List.mem_cons_of_mem _ (List.mem_append_left _ (List.mem_append_right _ h))) (by decide +kernel))) (goodIn_sub (fun _ h => List.mem_cons_of_mem _ (List.mem_append_right _ h)) (by decide +kernel))
set_option maxRecDepth 20000 in
theorem gL_fox_X10_fox : GoodIn wsL_fox (wsV RL 36 RX10 yX10_fox wsX10_fox) := goodIn_app (goodIn_of _ (by decide +kernel)) ggL_fox_X10_fox
set_option maxRecDepth 20000 in
theorem ggL_debt_X10_debt : GoodIn wsL_debt wsX10_debt := goodIn_ca (goodIn_r _ [6, 7, 8, 9, 10, 5, 11, 12, 13, 14, 15, 16, 17, 18, 19, 20, 21, 22, 23, 24, 25, 26, 27, 28, 29, 30, 31, 32, 33, 34, 35, 36, 37, 38, 39, 40, 41, 42, 43, 44, 45, 46, 47, 48, 49, 50, 51, 52, 53, 54, 55, 56, 57, 58, 59, 60] (by decide +kernel) (by decide +kernel)) (goodIn_sub (fun _ h => List.mem_cons_of_mem _ (List.mem_append_right _ h)) (by decide +kernel))
set_option maxRecDepth 20000 in
theorem gL_debt_X10_debt : GoodIn wsL_debt (wsV RL 39 RX10 yX10_debt wsX10_debt) := goodIn_app (goodIn_of _ (by decide +kernel)) ggL_debt_X10_debt
set_option maxRecDepth 20000 in
theorem ggL_far_X10_far : GoodIn wsL_far wsX10_far := goodIn_ca (goodIn_r _ [6, 7, 8, 9, 10, 5, 11, 12, 13, 14, 15, 16, 17, 18, 19, 20, 21, 22, 23, 24, 25, 26, 27, 28, 29, 30, 31, 32, 33, 34, 35, 36, 37, 38, 39, 40, 41, 42, 43, 44, 45, 46, 47, 48, 49, 50, 51, 52, 53, 54, 55, 56, 57, 58, 59, 60] (by decide +kernel) (by decide +kernel)) (goodIn_sub (fun _ h => List.mem_cons_of_mem _ (List.mem_append_right _ h)) (by decide +kernel))
set_option maxRecDepth 20000 in
theorem gL_far_X10_far : GoodIn wsL_far (wsV RL 42 RX10 yX10_far wsX10_far) := goodIn_app (goodIn_of _ (by decide +kernel)) ggL_far_X10_far
set_option maxRecDepth 20000 in
theorem ggL_would_X10_would : GoodIn wsL_would wsX10_would := goodIn_ca (goodIn_r _ [6, 7, 8, 9, 10, 5, 11, 12, 13, 14, 15, 16, 17, 18, 19, 20, 21, 22, 23, 24, 25, 26, 27, 28, 29, 30, 31, 32, 33, 34, 35, 36, 37, 38, 39, 40, 41, 42, 43, 44, 45, 46, 47, 48, 49, 50, 51, 52, 53, 54, 55, 56, 57, 58, 59, 60, 61, 62, 63, 64, 65, 66, 67, 68, 69, 70, 71, 72, 73] (by decide +kernel) (by decide +kernel)) (goodIn_sub (fun _ h => List.mem_cons_of_mem _ (List.mem_append_right _ h)) (by decide +kernel))
set_option maxRecDepth 20000 in
theorem gL_would_X10_would : GoodIn wsL_would (wsV RL 45 RX10 yX10_would wsX10_would) := goodIn_app (goodIn_of _ (by decide +kernel)) ggL_would_X10_would
set_option maxRecDepth 20000 in
theorem ggL_can_X10_can : GoodIn wsL_can wsX10_can := goodIn_ca (goodIn_r _ [6, 7, 8, 9, 10, 5, 11, 12, 13, 14, 15, 16, 17, 18, 19, 20, 21, 22, 23, 24, 25, 26, 27, 28, 29, 30, 31, 32, 33, 34, 35, 36, 37, 38, 39, 40, 41, 42, 43, 44, 45, 46, 47, 48, 49, 50, 51, 52, 53, 54, 55, 56, 57, 58, 59, 60, 61, 62, 63, 64, 65, 66, 67, 68, 69, 70, 71, 72, 73, 74, 75, 76, 77, 78, 79, 80, 81, 82, 83, 84, 85, 86, 87, 88, 89, 90, 91, 92, 93, 94, 95, 96, 97, 98, 99, 100, 101, 102, 103, 104, 105, 106, 107, 108, 109, 110, 111, 112, 113, 114, 115, 116, 117, 118, 119, 120, 121, 122, 123, 124, 125, 126, 127, 128, 129, 130, 131, 132, 133, 134, 135, 136, 137, 138, 139, 140, 141, 142, 143, 144, 145, 146, 147, 148, 149, 150, 151, 152, 153, 154, 155, 156, 157, 158, 159, 160, 161, 162] (by decide +kernel) (by decide +kernel)) (goodIn_sub (fun _ h => List.mem_cons_of_mem _ (List.mem_append_right _ h)) (by decide +kernel))
set_option maxRecDepth 20000 in
theorem gL_can_X10_can : GoodIn wsL_can (wsV RL 49 RX10 yX10_can wsX10_can) := goodIn_app (goodIn_of _ (by decide +kernel)) ggL_can_X10_can
set_option maxRecDepth 20000 in
theorem ggL_ahead_X10_ahead : GoodIn wsL_ahead wsX10_ahead := goodIn_ca (goodIn_r _ [6, 7, 8, 9, 10, 11, 5, 12, 13, 14, 15, 16, 17, 18, 19, 20, 21, 22, 23, 24, 25, 26, 27, 28, 29, 30, 31, 32, 33, 34, 35, 36, 37, 38, 39, 40, 41, 42, 43, 44, 45, 46, 47, 48, 49, 50, 51, 52, 53, 54, 55, 56, 57, 58, 59, 60, 61, 62, 63, 64, 65, 66, 67, 68, 69, 70, 71, 72, 73, 74, 75, 76, 77, 78, 79, 80, 81, 82, 83, 84, 85, 86, 87, 88, 89, 90, 91, 92, 93, 94, 95, 96, 97, 98, 99, 100, 101, 102, 103, 104, 105, 106, 107, 108, 109, 110, 111, 112, 113, 114, 115, 116, 117, 118, 119, 120, 121, 122, 123, 124, 125, 126, 127] (by decide +kernel) (by decide +kernel)) (goodIn_sub (fun _ h => List.mem_cons_of_mem _ (List.mem_append_right _ h)) (by decide +kernel))
set_option maxRecDepth 20000 in
theorem gL_ahead_X10_ahead : GoodIn wsL_ahead (wsV RL 53 RX10 yX10_ahead wsX10_ahead) := goodIn_app (goodIn_of _ (by decide +kernel)) ggL_ahead_X10_ahead
set_option maxRecDepth 20000 in
theorem ggL_hops_X10_hops : GoodIn wsL_hops wsX10_hops := goodIn_ca (goodIn_r _ [6, 7, 8, 9, 10, 11, 5, 12, 13, 14, 15, 16, 17, 18, 19, 20, 21, 22, 23, 24, 25, 26, 27, 28, 29, 30, 31, 32, 33, 34, 35, 36, 37, 38, 39, 40, 41, 42, 43, 44, 45, 46, 47, 48, 49, 50, 51, 52, 53, 54, 55, 56, 57, 58, 59, 60, 61, 62, 63, 64, 65, 66, 67, 68, 69, 70, 71, 72, 73, 74, 75, 76, 77, 78, 79, 80, 81, 82, 83, 84, 85, 86, 87, 88, 89, 90, 91, 92, 93, 94, 95, 96, 97, 98, 99, 100, 101, 102, 103, 104, 105, 106, 107, 108, 109, 110, 111, 112, 113, 114, 115, 116, 117, 118, 119, 120, 121, 122, 123, 124, 125, 126, 127, 128, 129, 130, 131, 132, 133, 134, 135, 136, 137, 138, 139, 140, 141, 142, 143, 144, 145, 146, 147, 148, 149, 150, 151, 152, 153, 154, 155, 156, 157, 158, 159, 160, 161, 162, 163, 164, 165, 166, 167, 168, 169, 170, 171] (by decide +kernel) (by decide +kernel)) (goodIn_sub (fun _ h => List.mem_cons_of_mem _ (List.mem_append_right _ h)) (by decide +kernel))
set_option maxRecDepth 20000 in
theorem gL_hops_X10_hops : GoodIn wsL_hops (wsV RL 56 RX10 yX10_hops wsX10_hops) := goodIn_app (goodIn_of _ (by decide +kernel)) ggL_hops_X10_hops
set_option maxRecDepth 20000 in
theorem ggL_seat_X10_seat : GoodIn wsL_seat wsX10_seat := goodIn_ca (goodIn_r _ [6, 7, 8, 9, 10, 11, 12, 5, 13, 14, 15, 16, 17, 18, 19, 20, 21, 22, 23, 24, 25, 26, 27, 28, 29, 30, 31, 32, 33, 34, 35, 36, 37, 38, 39, 40, 41, 42, 43, 44, 45, 46, 47, 48, 49, 50, 51, 52, 53, 54, 55, 56, 57, 58, 59, 60, 61, 62, 63, 64, 65, 66, 67, 68, 69, 70, 71, 72, 73, 74, 75, 76, 77, 78, 79, 80, 81, 82, 83, 84, 85, 86, 87, 88, 89, 90, 91, 92, 93, 94, 95, 96, 97, 98, 99, 100, 101, 102, 103, 104, 105, 106, 107, 108, 109, 110, 111, 112, 113, 114, 115, 116, 117, 118, 119, 120, 121, 122, 123, 124, 125, 126, 127, 128, 129, 130, 131, 132, 133, 134, 135, 136, 137, 138, 139, 140, 141, 142, 143, 144, 145, 146, 147, 148, 149, 150, 151, 152, 153, 154, 155, 156, 157, 158, 159, 160, 161, 162, 163, 164, 165, 166, 167, 168, 169, 170, 171, 172, 173, 174, 175, 176, 177, 178, 179, 180, 181, 182, 183, 184, 185, 186, 187, 188, 189, 190, 191, 192, 193, 194, 195, 196, 197, 198, 199, 200, 201, 202, 203, 204, 205] (by decide +kernel) (by decide +kernel)) (goodIn_sub (fun _ h => List.mem_cons_of_mem _ (List.mem_append_right _ h)) (by decide +kernel))
set_option maxRecDepth 20000 in
theorem gL_seat_X10_seat : GoodIn wsL_seat (wsV RL 59 RX10 yX10_seat wsX10_seat) := goodIn_app (goodIn_of _ (by decide +kernel)) ggL_seat_X10_seat
set_option maxRecDepth 20000 in
theorem ggL_ringed_X10_ringed : GoodIn wsL_ringed wsX10_ringed := goodIn_ca (goodIn_r _ [6, 7, 8, 9, 10, 11, 12, 13, 5, 14, 15, 16, 17, 18, 19, 20, 21, 22, 23, 24, 25, 26, 27, 28, 29, 30, 31, 32, 33, 34, 35, 36, 37, 38, 39, 40, 41, 42, 43, 44, 45, 46, 47, 48, 49, 50, 51, 52, 53, 54, 55, 56, 57, 58, 59, 60, 61, 62, 63, 64, 65, 66, 67, 68, 69, 70, 71, 72, 73, 74, 75, 76, 77, 78, 79, 80, 81, 82, 83, 84, 85, 86, 87, 88, 89, 90, 91, 92, 93, 94, 95, 96, 97] (by decide +kernel) (by decide +kernel)) (goodIn_sub (fun _ h => List.mem_cons_of_mem _ (List.mem_append_right _ h)) (by decide +kernel))
set_option maxRecDepth 20000 in
theorem gL_ringed_X10_ringed : GoodIn wsL_ringed (wsV RL 62 RX10 yX10_ringed wsX10_ringed) := goodIn_app (goodIn_of _ (by decide +kernel)) ggL_ringed_X10_ringed
set_option maxRecDepth 20000 in
theorem ggL_bouts_X10_bouts : GoodIn wsL_bouts wsX10_bouts := goodIn_ca (goodIn_r _ [6, 7, 8, 9, 10, 11, 12, 5, 13, 14, 15, 16, 17, 18, 19, 20, 21, 22, 23, 24, 25, 26, 27, 28, 29, 30, 31, 32, 33, 34, 35, 36, 37, 38, 39, 40, 41, 42, 43, 44, 45, 46, 47, 48, 49, 50, 51, 52, 53, 54, 55, 56, 57, 58, 59, 60, 61, 62, 63, 64, 65, 66, 67, 68, 69, 70, 71, 72, 73, 74, 75, 76, 77, 78, 79, 80] (by decide +kernel) (by decide +kernel)) (goodIn_sub (fun _ h => List.mem_cons_of_mem _ (List.mem_append_right _ h)) (by decide +kernel))
set_option maxRecDepth 20000 in
theorem gL_bouts_X10_bouts : GoodIn wsL_bouts (wsV RL 65 RX10 yX10_bouts wsX10_bouts) := goodIn_app (goodIn_of _ (by decide +kernel)) ggL_bouts_X10_bouts
set_option maxRecDepth 20000 in
theorem ggL_fits_X10_fits : GoodIn wsL_fits wsX10_fits := goodIn_ca (goodIn_r _ [6, 7, 8, 9, 10, 11, 12, 13, 14, 5, 15, 16, 17, 18, 19, 20, 21, 22, 23, 24, 25, 26, 27, 28, 29, 30, 31, 32, 33, 34, 35, 36, 37, 38, 39, 40, 41, 42, 43, 44, 45, 46, 47, 48, 49, 50, 51, 52, 53, 54, 55, 56, 57, 58, 59, 60, 61, 62, 63, 64, 65, 66, 67, 68, 69, 70, 71, 72, 73, 74, 75, 76, 77, 78, 79, 80, 81, 82, 83, 84, 85, 86, 87, 88, 89, 90, 91, 92, 93, 94, 95, 96, 97, 98, 99, 100, 101, 102, 103, 104, 105, 106, 107, 108, 109, 110, 111, 112, 113, 114, 115, 116, 117, 118, 119, 120, 121, 122, 123, 124, 125, 126, 127, 128, 129, 130, 131, 132] (by decide +kernel) (by decide +kernel)) (goodIn_sub (fun _ h => List.mem_cons_of_mem _ (List.mem_append_right _ h)) (by decide +kernel))
set_option maxRecDepth 20000 in
theorem gL_fits_X10_fits : GoodIn wsL_fits (wsV RL 68 RX10 yX10_fits wsX10_fits) := goodIn_app (goodIn_of _ (by decide +kernel)) ggL_fits_X10_fits
set_option maxRecDepth 20000 in
theorem ggL_look_X10_look : GoodIn wsL_look wsX10_look := goodIn_ca (goodIn_r _ [6, 7, 8, 9, 10, 11, 12, 13, 14, 5, 15, 16, 17, 18, 19, 20, 21, 22, 23, 24, 25, 26, 27, 28, 29, 30, 31, 32, 33, 34, 35, 36, 37, 38, 39, 40, 41, 42, 43, 44, 45, 46, 47, 48, 49, 50, 51, 52, 53, 54, 55, 56, 57, 58, 59, 60, 61, 62, 63, 64, 65, 66, 67, 68, 69, 70, 71, 72, 73, 74, 75, 76, 77, 78, 79, 80, 81, 82, 83, 84, 85, 86, 87, 88, 89, 90, 91, 92, 93, 94, 95, 96, 97, 98, 99, 100, 101, 102, 103, 104, 105, 106, 107, 108, 109, 110, 111, 112, 113, 114, 115, 116, 117, 118, 119, 120, 121, 122, 123, 124, 125, 126, 127, 128, 129, 130, 131, 132, 133, 134, 135, 136, 137, 138, 139, 140, 141, 142, 143, 144, 145, 146, 147, 148, 149, 150, 151, 152, 153, 154, 155, 156, 157] (by decide +kernel) (by decide +kernel)) (goodIn_sub (fun _ h => List.mem_cons_of_mem _ (List.mem_append_right _ h)) (by decide +kernel))
set_option maxRecDepth 20000 in
theorem gL_look_X10_look : GoodIn wsL_look (wsV RL 71 RX10 yX10_look wsX10_look) := goodIn_app (goodIn_of _ (by decide +kernel)) ggL_look_X10_look
set_option maxRecDepth 20000 in
theorem ggL_watch_X10_watch : GoodIn wsL_watch wsX10_watch := goodIn_ca (goodIn_r _ [6, 7, 8, 9, 10, 5, 11, 12, 13, 14, 15, 16, 17, 18, 19, 20, 21, 22, 23, 24, 25, 26, 27, 28, 29, 30, 31, 32, 33, 34, 35, 36, 37, 38, 39, 40, 41, 42, 43, 44, 45, 46, 47, 48, 49, 50, 51, 52, 53, 54, 55, 56, 57, 58, 59, 60, 61, 62, 63, 64, 65, 66, 67, 68, 69, 70, 71, 72, 73, 74, 75, 76, 77, 78, 79, 80, 81, 82, 83, 84, 85, 86] (by decide +kernel) (by decide +kernel)) (goodIn_sub (fun _ h => List.mem_cons_of_mem _ (List.mem_append_right _ h)) (by decide +kernel))
set_option maxRecDepth 20000 in
theorem gL_watch_X10_watch : GoodIn wsL_watch (wsV RL 74 RX10 yX10_watch wsX10_watch) := goodIn_app (goodIn_of _ (by decide +kernel)) ggL_watch_X10_watch
set_option maxRecDepth 20000 in
theorem ggL_few_X10_few : GoodIn wsL_few wsX10_few := goodIn_ca (goodIn_r _ [6, 7, 8, 9, 5, 10, 11, 12, 13, 14, 15, 16, 17, 18, 19, 20, 21, 22, 23, 24, 25, 26, 27, 28, 29, 30, 31, 32, 33, 34, 35, 36, 37, 38, 39, 40, 41, 42, 43, 44, 45] (by decide +kernel) (by decide +kernel)) (goodIn_sub (fun _ h => List.mem_cons_of_mem _ (List.mem_append_right _ h)) (by decide +kernel))
set_option maxRecDepth 20000 in
theorem gL_few_X10_few : GoodIn wsL_few (wsV RL 77 RX10 yX10_few wsX10_few) := goodIn_app (goodIn_of _ (by decide +kernel)) ggL_few_X10_few
set_option maxRecDepth 20000 in
theorem ggL_road_X10_road : GoodIn wsL_road wsX10_road := goodIn_ca (goodIn_r _ [6, 7, 8, 9, 5, 10, 11, 12, 13, 14, 15, 16, 17, 18, 19, 20, 21, 22, 23, 24, 25, 26, 27, 28, 29, 30, 31, 32, 33, 34, 35, 36, 37, 38, 39, 40, 41, 42] (by decide +kernel) (by decide +kernel)) (goodIn_sub (fun _ h => List.mem_cons_of_mem _ (List.mem_append_right _ h)) (by decide +kernel))
set_option maxRecDepth 20000 in
theorem gL_road_X10_road : GoodIn wsL_road (wsV RL 81 RX10 yX10_road wsX10_road) := goodIn_app (goodIn_of _ (by decide +kernel)) ggL_road_X10_road
set_option maxRecDepth 20000 in
theorem ggL_clover_X10_clover : GoodIn wsL_clover wsX10_clover := goodIn_ca (goodIn_ca (goodIn_r _ [7, 8, 9, 10, 11, 12, 13, 6, 14, 15, 16, 17, 18, 19, 20, 21, 22, 23, 24, 25, 26, 27, 28, 29, 30, 31, 32, 33, 34, 35, 36, 37, 38, 39, 40, 41, 42, 43, 44, 45, 46, 47, 48, 49, 50, 51, 52, 53, 54, 55, 56, 57, 58, 59, 60, 61, 62, 63, 64, 65, 66, 67, 68, 69, 70, 71, 72, 73, 74, 75, 76, 77, 78, 79, 80, 81, 82, 83, 84, 85, 86, 87, 88, 89, 90, 91, 92, 93, 94] (by decide +kernel) (by decide +kernel)) (goodIn_sub (fun _ h => List.mem_cons_of_mem _ (List.mem_append_left _ (List.mem_append_right _ h))) (by decide +kernel))) (goodIn_sub (fun _ h => List.mem_cons_of_mem _ (List.mem_append_right _ h)) (by decide +kernel))
set_option maxRecDepth 20000 in
theorem gL_clover_X10_clover : GoodIn wsL_clover (wsV RL 85 RX10 yX10_clover wsX10_clover) := goodIn_app (goodIn_of _ (by decide +kernel)) ggL_clover_X10_clover
set_option maxRecDepth 20000 in
theorem ggL_strongest_X10_strongest : GoodIn wsL_strongest wsX10_strongest := goodIn_ca (goodIn_r _ [6, 7, 8, 9, 10, 11, 12, 5, 13, 14, 15, 16, 17, 18, 19, 20, 21, 22, 23, 24, 25, 26, 27, 28, 29, 30, 31, 32, 33, 34, 35, 36, 37, 38, 39, 40, 41, 42, 43, 44, 45, 46, 47, 48, 49, 50, 51, 52, 53, 54, 55, 56, 57, 58, 59, 60, 61, 62, 63, 64, 65, 66, 67, 68] (by decide +kernel) (by decide +kernel)) (goodIn_sub (fun _ h => List.mem_cons_of_mem _ (List.mem_append_right _ h)) (by decide +kernel))
set_option maxRecDepth 20000 in
theorem gL_strongest_X10_strongest : GoodIn wsL_strongest (wsV RL 88 RX10 yX10_strongest wsX10_strongest) := goodIn_app (goodIn_of _ (by decide +kernel)) ggL_strongest_X10_strongest
set_option maxRecDepth 20000 in
theorem ggL_ties_X10_ties : GoodIn wsL_ties wsX10_ties := goodIn_ca (goodIn_ca (goodIn_r _ [7, 8, 9, 10, 11, 12, 13, 6, 14, 15, 16, 17, 18, 19, 20, 21, 22, 23, 24, 25, 26, 27, 28, 29, 30, 31, 32, 33, 34, 35, 36, 37, 38, 39, 40, 41, 42, 43, 44, 45, 46, 47, 48, 49, 50, 51, 52, 53, 54, 55, 56, 57, 58, 59, 60, 61, 62, 63, 64, 65, 66, 67, 68, 69, 70, 71, 72] (by decide +kernel) (by decide +kernel)) (goodIn_sub (fun _ h => List.mem_cons_of_mem _ (List.mem_append_left _ (List.mem_append_right _ h))) (by decide +kernel))) (goodIn_sub (fun _ h => List.mem_cons_of_mem _ (List.mem_append_right _ h)) (by decide +kernel))
set_option maxRecDepth 20000 in
theorem gL_ties_X10_ties : GoodIn wsL_ties (wsV RL 91 RX10 yX10_ties wsX10_ties) := goodIn_app (goodIn_of _ (by decide +kernel)) ggL_ties_X10_ties
set_option maxRecDepth 20000 in
theorem ggL_refuge_X10_refuge : GoodIn wsL_refuge wsX10_refuge := goodIn_ca (goodIn_ca (goodIn_r _ [7, 8, 9, 10, 11, 12, 6, 13, 14, 15, 16, 17, 18, 19, 20, 21, 22, 23, 24, 25, 26, 27, 28, 29, 30, 31, 32, 33, 34, 35, 36, 37, 38, 39, 40, 41, 42, 43, 44, 45, 46, 47, 48, 49, 50, 51, 52, 53, 54, 55, 56, 57, 58, 59, 60, 61, 62, 63, 64, 65, 66, 67, 68, 69, 70, 71, 72, 73, 74, 75, 76, 77, 78, 79] (by decide +kernel) (by decide +kernel)) (goodIn_sub (fun _ h => List.mem_cons_of_mem _ (List.mem_append_left _ (List.mem_append_right _ h))) (by decide +kernel))) (goodIn_sub (fun _ h => List.mem_cons_of_mem _ (List.mem_append_right _ h)) (by decide +kernel))
set_option maxRecDepth 20000 in
theorem gL_refuge_X10_refuge : GoodIn wsL_refuge (wsV RL 94 RX10 yX10_refuge wsX10_refuge) := goodIn_app (goodIn_of _ (by decide +kernel)) ggL_refuge_X10_refuge
set_option maxRecDepth 20000 in
theorem ggL_range_X10_range : GoodIn wsL_range wsX10_range := goodIn_ca (goodIn_r _ [6, 7, 8, 9, 10, 5, 11, 12, 13, 14, 15, 16, 17, 18, 19, 20, 21, 22, 23, 24, 25, 26, 27, 28, 29, 30, 31, 32, 33, 34, 35, 36, 37, 38, 39, 40, 41, 42, 43, 44, 45, 46, 47, 48, 49, 50, 51, 52, 53, 54, 55, 56, 57, 58, 59, 60, 61, 62, 63, 64, 65, 66, 67, 68, 69, 70, 71, 72, 73, 74, 75, 76, 77, 78, 79, 80, 81, 82, 83, 84, 85, 86, 87, 88, 89, 90, 91, 92, 93, 94, 95, 96, 97, 98, 99, 100, 101, 102, 103, 104, 105, 106, 107, 108, 109, 110, 111, 112, 113, 114, 115, 116, 117, 118, 119, 120, 121, 122, 123, 124, 125, 126, 127, 128, 129, 130, 131, 132, 133, 134, 135, 136, 137, 138, 139, 140, 141, 142, 143, 144, 145, 146, 147, 148, 149, 150, 151, 152, 153, 154, 155, 156, 157, 158, 159, 160, 161] (by decide +kernel) (by decide +kernel)) (goodIn_sub (fun _ h => List.mem_cons_of_mem _ (List.mem_append_right _ h)) (by decide +kernel))
set_option maxRecDepth 20000 in
theorem gL_range_X10_range : GoodIn wsL_range (wsV RL 97 RX10 yX10_range wsX10_range) := goodIn_app (goodIn_of _ (by decide +kernel)) ggL_range_X10_range
set_option maxRecDepth 20000 in
theorem ggL_march_X10_march : GoodIn wsL_march wsX10_march := goodIn_ca (goodIn_r _ [6, 7, 8, 9, 10, 11, 5, 12, 13, 14, 15, 16, 17, 18, 19, 20, 21, 22, 23, 24, 25, 26, 27, 28, 29, 30, 31, 32, 33, 34, 35, 36, 37, 38, 39, 40, 41, 42, 43, 44, 45, 46, 47, 48, 49, 50, 51, 52, 53, 54, 55, 56, 57, 58, 59, 60, 61, 62, 63, 64, 65, 66, 67, 68, 69, 70, 71, 72, 73, 74, 75, 76, 77, 78, 79, 80, 81, 82, 83, 84, 85, 86, 87, 88, 89, 90, 91, 92, 93, 94, 95, 96, 97, 98, 99, 100, 101, 102, 103, 104, 105, 106, 107, 108, 109, 110, 111, 112, 113, 114, 115, 116, 117, 118, 119, 120, 121, 122, 123, 124, 125, 126, 127, 128, 129, 130, 131, 132, 133, 134, 135, 136, 137, 138, 139, 140, 141, 142, 143, 144, 145, 146, 147, 148, 149, 150, 151, 152, 153, 154, 155, 156, 157, 158, 159, 160, 161, 162, 163, 164, 165, 166, 167, 168, 169, 170, 171, 172, 173, 174, 175, 176, 177, 178, 179, 180, 181, 182, 183, 184, 185, 186, 187, 188, 189, 190, 191, 192, 193, 194, 195, 196, 197, 198, 199, 200, 201, 202, 203, 204, 205, 206, 207, 208, 209, 210, 211, 212, 213, 214, 215, 216, 217, 218, 219, 220, 221, 222, 223, 224, 225, 226, 227, 228, 229, 230, 231, 232, 233, 234, 235, 236, 237, 238] (by decide +kernel) (by decide +kernel)) (goodIn_sub (fun _ h => List.mem_cons_of_mem _ (List.mem_append_right _ h)) (by decide +kernel))
set_option maxRecDepth 20000 in
theorem gL_march_X10_march : GoodIn wsL_march (wsV RL 100 RX10 yX10_march wsX10_march) := goodIn_app (goodIn_of _ (by decide +kernel)) ggL_march_X10_march
set_option maxRecDepth 20000 in
theorem ggL_span_X10_span : GoodIn wsL_span wsX10_span := goodIn_ca (goodIn_r _ [6, 7, 8, 9, 10, 11, 12, 13, 14, 15, 16, 17, 18, 19, 20, 21, 5, 22, 23, 24, 25, 26, 27, 28, 29, 30, 31, 32, 33, 34, 35, 36, 37, 38, 39, 40, 41, 42, 43, 44, 45, 46, 47, 48, 49, 50, 51, 52, 53, 54, 55, 56, 57, 58, 59, 60, 61, 62, 63, 64, 65, 66, 67, 68, 69, 70, 71, 72, 73, 74, 75, 76, 77, 78, 79, 80, 81, 82, 83, 84, 85, 86, 87, 88, 89, 90, 91, 92, 93, 94, 95, 96, 97, 98, 99, 100, 101, 102, 103, 104, 105, 106, 107, 108, 109, 110, 111, 112, 113, 114, 115, 116, 117, 118, 119, 120, 121, 122, 123, 124, 125, 126, 127, 128, 129, 130, 131, 132, 133, 134, 135, 136, 137, 138, 139, 140, 141, 142, 143, 144, 145, 146, 147, 148, 149, 150, 151, 152, 153, 154, 155, 156, 157, 158, 159, 160, 161, 162, 163, 164, 165, 166, 167, 168, 169, 170, 171, 172, 173, 174, 175, 176, 177, 178, 179, 180, 181, 182, 183, 184, 185, 186, 187, 188, 189, 190, 191, 192, 193, 194, 195, 196, 197, 198, 199, 200, 201, 202, 203, 204, 205, 206, 207, 208, 209, 210, 211, 212, 213, 214, 215, 216, 217, 218, 219, 220, 221, 222, 223, 224, 225, 226, 227, 228, 229, 230, 231, 232, 233, 234, 235] (by decide +kernel) (by decide +kernel)) (goodIn_sub (fun _ h => List.mem_cons_of_mem _ (List.mem_append_right _ h)) (by decide +kernel))
set_option maxRecDepth 20000 in
theorem gL_span_X10_span : GoodIn wsL_span (wsV RL 103 RX10 yX10_span wsX10_span) := goodIn_app (goodIn_of _ (by decide +kernel)) ggL_span_X10_span
