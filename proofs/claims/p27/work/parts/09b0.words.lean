set_option maxRecDepth 20000 in
theorem ggX0_init_X0_clear : GoodIn wsX0_init wsX0_clear := goodIn_r _ [10, 11, 5, 12, 13] (by decide +kernel) (by decide +kernel)
set_option maxRecDepth 20000 in
theorem gX0_init_X0_clear : GoodIn wsX0_init (wsV RX0 15 RX0 yX0_clear wsX0_clear) := goodIn_app (goodIn_of _ (by decide +kernel)) ggX0_init_X0_clear
set_option maxRecDepth 20000 in
theorem ggX0_readFrom_X0_clear : GoodIn wsX0_readFrom wsX0_clear := goodIn_r _ [5, 6, 7, 72, 73] (by decide +kernel) (by decide +kernel)
set_option maxRecDepth 20000 in
theorem gX0_readFrom_X0_clear : GoodIn wsX0_readFrom (wsV RX0 15 RX0 yX0_clear wsX0_clear) := goodIn_app (goodIn_of _ (by decide +kernel)) ggX0_readFrom_X0_clear
set_option maxRecDepth 20000 in
theorem ggX0_readFrom_X8_isFaulty : GoodIn wsX0_readFrom wsX8_isFaulty := goodIn_r _ [12, 13, 74, 75, 76, 77, 78, 79, 80] (by decide +kernel) (by decide +kernel)
set_option maxRecDepth 20000 in
theorem gX0_readFrom_X8_isFaulty : GoodIn wsX0_readFrom (wsV RX0 22 RX8 yX8_isFaulty wsX8_isFaulty) := goodIn_app (goodIn_of _ (by decide +kernel)) ggX0_readFrom_X8_isFaulty
set_option maxRecDepth 20000 in
theorem ggX0_readFrom_X8_isEnded : GoodIn wsX0_readFrom wsX8_isEnded := goodIn_r _ [17, 18, 19, 20, 21, 22, 11, 23, 24, 74, 75, 76, 77, 78, 79, 80] (by decide +kernel) (by decide +kernel)
set_option maxRecDepth 20000 in
theorem gX0_readFrom_X8_isEnded : GoodIn wsX0_readFrom (wsV RX0 28 RX8 yX8_isEnded wsX8_isEnded) := goodIn_app (goodIn_of _ (by decide +kernel)) ggX0_readFrom_X8_isEnded
set_option maxRecDepth 20000 in
theorem ggX0_readFrom_X0_readLine : GoodIn wsX0_readFrom wsX0_readLine := goodIn_r _ [28, 7, 6, 29, 30, 31, 11, 32, 18, 33, 19, 34, 35, 36, 37, 38, 20, 21, 22, 23, 24, 39, 40, 41, 42, 43, 44, 45, 46, 13, 47, 48, 9, 10, 12, 49, 50, 51, 52, 53, 54, 4, 55, 56, 57, 58, 59, 60, 61, 62, 63, 64, 65, 66, 67, 68, 69, 70, 71, 8, 72, 73, 74, 75, 76, 77, 78, 79, 80] (by decide +kernel) (by decide +kernel)
set_option maxRecDepth 20000 in
theorem gX0_readFrom_X0_readLine : GoodIn wsX0_readFrom (wsV RX0 31 RX0 yX0_readLine wsX0_readLine) := goodIn_app (goodIn_of _ (by decide +kernel)) ggX0_readFrom_X0_readLine
set_option maxRecDepth 20000 in
theorem ggX0_readLine_X8_number : GoodIn wsX0_readLine wsX8_number := goodIn_r _ [7, 8, 9, 10, 11, 12, 13, 14, 15, 16, 17, 18, 6, 19, 20, 21, 22, 23, 24, 25, 26, 27, 28, 29, 30, 31, 32, 33, 34, 35, 36, 37, 62, 63, 64, 65, 66, 67, 68] (by decide +kernel) (by decide +kernel)
set_option maxRecDepth 20000 in
theorem gX0_readLine_X8_number : GoodIn wsX0_readLine (wsV RX0 35 RX8 yX8_number wsX8_number) := goodIn_app (goodIn_of _ (by decide +kernel)) ggX0_readLine_X8_number
set_option maxRecDepth 20000 in
theorem ggX0_readLine_X10_within : GoodIn wsX0_readLine wsX10_within := goodIn_r _ [37] (by decide +kernel) (by decide +kernel)
set_option maxRecDepth 20000 in
theorem gX0_readLine_X10_within_n39 : GoodIn wsX0_readLine (wsX10_within) := ggX0_readLine_X10_within
set_option maxRecDepth 20000 in
theorem ggX0_readLine_X0_tells : GoodIn wsX0_readLine wsX0_tells := goodIn_r _ [42, 1, 60, 61] (by decide +kernel) (by decide +kernel)
set_option maxRecDepth 20000 in
theorem gX0_readLine_X0_tells : GoodIn wsX0_readLine (wsV RX0 43 RX0 yX0_tells wsX0_tells) := goodIn_app (goodIn_of _ (by decide +kernel)) ggX0_readLine_X0_tells
set_option maxRecDepth 20000 in
theorem ggX0_readLine_X8_blameToken : GoodIn wsX0_readLine wsX8_blameToken := goodIn_r _ [46, 9, 25, 26, 27, 6, 28, 29, 30, 62, 63, 64, 65, 66, 67, 68] (by decide +kernel) (by decide +kernel)
set_option maxRecDepth 20000 in
theorem gX0_readLine_X8_blameToken : GoodIn wsX0_readLine (wsV RX0 47 RX8 yX8_blameToken wsX8_blameToken) := goodIn_app (goodIn_of _ (by decide +kernel)) ggX0_readLine_X8_blameToken
set_option maxRecDepth 20000 in
theorem ggX0_readLine_X8_needs : GoodIn wsX0_readLine wsX8_needs := goodIn_r _ [50, 51, 52, 53, 6, 54, 8, 10, 20, 9, 16, 17, 18, 19, 31, 32, 33, 34, 29, 55, 56, 57, 58, 25, 26, 27, 28, 30, 62, 63, 64, 65, 66, 67, 68] (by decide +kernel) (by decide +kernel)
set_option maxRecDepth 20000 in
theorem gX0_readLine_X8_needs : GoodIn wsX0_readLine (wsV RX0 51 RX8 yX8_needs wsX8_needs) := goodIn_app (goodIn_of _ (by decide +kernel)) ggX0_readLine_X8_needs
set_option maxRecDepth 20000 in
theorem ggX0_readLine_X8_isFaulty : GoodIn wsX0_readLine wsX8_isFaulty := goodIn_r _ [34, 29, 62, 63, 64, 65, 66, 67, 68] (by decide +kernel) (by decide +kernel)
set_option maxRecDepth 20000 in
theorem gX0_readLine_X8_isFaulty : GoodIn wsX0_readLine (wsV RX0 22 RX8 yX8_isFaulty wsX8_isFaulty) := goodIn_app (goodIn_of _ (by decide +kernel)) ggX0_readLine_X8_isFaulty
set_option maxRecDepth 20000 in
theorem ggX1_init_X1_begin : GoodIn wsX1_init wsX1_begin := goodIn_r _ [11, 12, 13, 5, 14, 15, 16, 17, 18, 19, 20, 21, 22, 23, 24, 25, 26, 27, 28, 29, 30, 31, 32, 33, 34, 35, 36, 37] (by decide +kernel) (by decide +kernel)
set_option maxRecDepth 20000 in
theorem gX1_init_X1_begin : GoodIn wsX1_init (wsV RX1 20 RX1 yX1_begin wsX1_begin) := goodIn_app (goodIn_of _ (by decide +kernel)) ggX1_init_X1_begin
set_option maxRecDepth 20000 in
theorem ggX1_owes_X1_owesTo : GoodIn wsX1_owes wsX1_owesTo := goodIn_r _ [7, 8, 9, 10, 11, 12] (by decide +kernel) (by decide +kernel)
set_option maxRecDepth 20000 in
theorem gX1_owes_X1_owesTo : GoodIn wsX1_owes (wsV RX1 51 RX1 yX1_owesTo wsX1_owesTo) := goodIn_app (goodIn_of _ (by decide +kernel)) ggX1_owes_X1_owesTo
set_option maxRecDepth 20000 in
theorem ggX1_owed_X1_owesTo : GoodIn wsX1_owed wsX1_owesTo := goodIn_r _ [7, 8, 9, 10, 11, 12] (by decide +kernel) (by decide +kernel)
set_option maxRecDepth 20000 in
theorem gX1_owed_X1_owesTo : GoodIn wsX1_owed (wsV RX1 51 RX1 yX1_owesTo wsX1_owesTo) := goodIn_app (goodIn_of _ (by decide +kernel)) ggX1_owed_X1_owesTo
set_option maxRecDepth 20000 in
theorem ggX1_allDebts_X1_owes : GoodIn wsX1_allDebts wsX1_owes := goodIn_r _ [7, 1, 2, 8, 9, 10, 6, 11, 12, 13, 14, 15, 16, 17, 18, 19, 20, 21, 22, 23, 24, 25, 26, 27, 28] (by decide +kernel) (by decide +kernel)
set_option maxRecDepth 20000 in
theorem gX1_allDebts_X1_owes : GoodIn wsX1_allDebts (wsV RX1 55 RX1 yX1_owes wsX1_owes) := goodIn_app (goodIn_of _ (by decide +kernel)) ggX1_allDebts_X1_owes
set_option maxRecDepth 20000 in
theorem ggX1_seatedIn_X1_isCaught : GoodIn wsX1_seatedIn wsX1_isCaught := goodIn_r _ [7, 8, 13, 14, 15, 16] (by decide +kernel) (by decide +kernel)
set_option maxRecDepth 20000 in
theorem gX1_seatedIn_X1_isCaught : GoodIn wsX1_seatedIn (wsV RX1 59 RX1 yX1_isCaught wsX1_isCaught) := goodIn_app (goodIn_of _ (by decide +kernel)) ggX1_seatedIn_X1_isCaught
set_option maxRecDepth 20000 in
theorem ggX1_seatedIn_X1_sits : GoodIn wsX1_seatedIn wsX1_sits := goodIn_r _ [12, 8, 13, 14, 15, 16] (by decide +kernel) (by decide +kernel)
set_option maxRecDepth 20000 in
theorem gX1_seatedIn_X1_sits : GoodIn wsX1_seatedIn (wsV RX1 63 RX1 yX1_sits wsX1_sits) := goodIn_app (goodIn_of _ (by decide +kernel)) ggX1_seatedIn_X1_sits
set_option maxRecDepth 20000 in
theorem ggX1_strongTogether_X1_isCaught : GoodIn wsX1_strongTogether wsX1_isCaught := goodIn_r _ [7, 8, 13, 14, 15, 16] (by decide +kernel) (by decide +kernel)
set_option maxRecDepth 20000 in
theorem gX1_strongTogether_X1_isCaught : GoodIn wsX1_strongTogether (wsV RX1 59 RX1 yX1_isCaught wsX1_isCaught) := goodIn_app (goodIn_of _ (by decide +kernel)) ggX1_strongTogether_X1_isCaught
set_option maxRecDepth 20000 in
theorem ggX1_strongTogether_X1_strong : GoodIn wsX1_strongTogether wsX1_strong := goodIn_r _ [12, 8, 13, 14, 15, 16] (by decide +kernel) (by decide +kernel)
set_option maxRecDepth 20000 in
theorem gX1_strongTogether_X1_strong : GoodIn wsX1_strongTogether (wsV RX1 66 RX1 yX1_strong wsX1_strong) := goodIn_app (goodIn_of _ (by decide +kernel)) ggX1_strongTogether_X1_strong
set_option maxRecDepth 20000 in
theorem ggX1_reach_X1_sits : GoodIn wsX1_reach wsX1_sits := goodIn_r _ [6, 7, 81, 82, 83, 84] (by decide +kernel) (by decide +kernel)
set_option maxRecDepth 20000 in
theorem gX1_reach_X1_sits : GoodIn wsX1_reach (wsV RX1 63 RX1 yX1_sits wsX1_sits) := goodIn_app (goodIn_of _ (by decide +kernel)) ggX1_reach_X1_sits
set_option maxRecDepth 20000 in
theorem ggX1_reach_X1_seatedIn : GoodIn wsX1_reach wsX1_seatedIn := goodIn_r _ [11, 12, 13, 14, 15, 16, 5, 17, 7, 2, 3, 4, 6, 81, 82, 83, 84, 85, 86, 87, 88, 89, 90, 91, 92, 93, 94, 95, 96] (by decide +kernel) (by decide +kernel)
set_option maxRecDepth 20000 in
theorem gX1_reach_X1_seatedIn : GoodIn wsX1_reach (wsV RX1 69 RX1 yX1_seatedIn wsX1_seatedIn) := goodIn_app (goodIn_of _ (by decide +kernel)) ggX1_reach_X1_seatedIn
set_option maxRecDepth 20000 in
theorem ggX1_reach_J6_bitCount_0f7a4 : GoodIn wsX1_reach wsJ6_bitCount_0f7a4 := goodIn_r _ [21, 22, 23, 24] (by decide +kernel) (by decide +kernel)
set_option maxRecDepth 20000 in
theorem gX1_reach_J6_bitCount_0f7a4 : GoodIn wsX1_reach (va_wsS RX1 72 yJ6_bitCount_0f7a4 wsJ6_bitCount_0f7a4) := goodIn_app (goodIn_of _ (by decide +kernel)) ggX1_reach_J6_bitCount_0f7a4
set_option maxRecDepth 20000 in
theorem ggX1_reach_X1_strong : GoodIn wsX1_reach wsX1_strong := goodIn_r _ [28, 7, 81, 82, 83, 84] (by decide +kernel) (by decide +kernel)
set_option maxRecDepth 20000 in
theorem gX1_reach_X1_strong : GoodIn wsX1_reach (wsV RX1 66 RX1 yX1_strong wsX1_strong) := goodIn_app (goodIn_of _ (by decide +kernel)) ggX1_reach_X1_strong
set_option maxRecDepth 20000 in
theorem ggX1_reach_X1_still : GoodIn wsX1_reach wsX1_still := goodIn_r _ [32, 7, 81, 82, 83, 84] (by decide +kernel) (by decide +kernel)
set_option maxRecDepth 20000 in
theorem gX1_reach_X1_still : GoodIn wsX1_reach (wsV RX1 77 RX1 yX1_still wsX1_still) := goodIn_app (goodIn_of _ (by decide +kernel)) ggX1_reach_X1_still
set_option maxRecDepth 20000 in
theorem ggX1_reach_X1_owes : GoodIn wsX1_reach wsX1_owes := goodIn_r _ [36, 12, 13, 37, 38, 39, 5, 40, 7, 81, 82, 83, 84, 85, 86, 87, 88, 89, 90, 91, 92, 93, 94, 95, 96] (by decide +kernel) (by decide +kernel)
set_option maxRecDepth 20000 in
theorem gX1_reach_X1_owes : GoodIn wsX1_reach (wsV RX1 55 RX1 yX1_owes wsX1_owes) := goodIn_app (goodIn_of _ (by decide +kernel)) ggX1_reach_X1_owes
set_option maxRecDepth 20000 in
theorem ggX1_reach_X1_owed : GoodIn wsX1_reach wsX1_owed := goodIn_r _ [44, 12, 13, 37, 38, 39, 5, 40, 7, 81, 82, 83, 84, 85, 86, 87, 88, 89, 90, 91, 92, 93, 94, 95, 96] (by decide +kernel) (by decide +kernel)
set_option maxRecDepth 20000 in
theorem gX1_reach_X1_owed : GoodIn wsX1_reach (wsV RX1 80 RX1 yX1_owed wsX1_owed) := goodIn_app (goodIn_of _ (by decide +kernel)) ggX1_reach_X1_owed
set_option maxRecDepth 20000 in
theorem ggX1_reach_X4_setFacts : GoodIn wsX1_reach wsX4_setFacts := goodIn_r _ [49, 50, 97, 98, 99, 100, 101] (by decide +kernel) (by decide +kernel)
set_option maxRecDepth 20000 in
theorem gX1_reach_X4_setFacts : GoodIn wsX1_reach (wsV RX1 83 RX4 yX4_setFacts wsX4_setFacts) := goodIn_app (goodIn_of _ (by decide +kernel)) ggX1_reach_X4_setFacts
set_option maxRecDepth 20000 in
theorem ggX1_reach_X1_day : GoodIn wsX1_reach wsX1_day := goodIn_r _ [54, 7, 81, 82, 83, 84] (by decide +kernel) (by decide +kernel)
set_option maxRecDepth 20000 in
theorem gX1_reach_X1_day : GoodIn wsX1_reach (wsV RX1 89 RX1 yX1_day wsX1_day) := goodIn_app (goodIn_of _ (by decide +kernel)) ggX1_reach_X1_day
set_option maxRecDepth 20000 in
theorem ggX1_reach_X1_leaps : GoodIn wsX1_reach wsX1_leaps := goodIn_r _ [58, 7, 81, 82, 83, 84] (by decide +kernel) (by decide +kernel)
set_option maxRecDepth 20000 in
theorem gX1_reach_X1_leaps : GoodIn wsX1_reach (wsV RX1 93 RX1 yX1_leaps wsX1_leaps) := goodIn_app (goodIn_of _ (by decide +kernel)) ggX1_reach_X1_leaps
set_option maxRecDepth 20000 in
theorem ggX1_reach_X4_setTimes : GoodIn wsX1_reach wsX4_setTimes := goodIn_r _ [62, 50, 97, 98, 99, 100, 101] (by decide +kernel) (by decide +kernel)
set_option maxRecDepth 20000 in
theorem gX1_reach_X4_setTimes : GoodIn wsX1_reach (wsV RX1 96 RX4 yX4_setTimes wsX4_setTimes) := goodIn_app (goodIn_of _ (by decide +kernel)) ggX1_reach_X4_setTimes
set_option maxRecDepth 20000 in
theorem ggX1_reach_X4_reach : GoodIn wsX1_reach wsX4_reach := goodIn_r _ [66, 67, 68, 69, 70, 50, 71, 72, 73, 74, 75, 76, 77, 78, 79, 48, 80, 97, 98, 99, 100, 101] (by decide +kernel) (by decide +kernel)
set_option maxRecDepth 20000 in
theorem gX1_reach_X4_reach : GoodIn wsX1_reach (wsV RX1 100 RX4 yX4_reach wsX4_reach) := goodIn_app (goodIn_of _ (by decide +kernel)) ggX1_reach_X4_reach
set_option maxRecDepth 20000 in
theorem ggX1_couldLeap_X1_isCaught : GoodIn wsX1_couldLeap wsX1_isCaught := goodIn_r _ [6, 7, 95, 96, 97, 98] (by decide +kernel) (by decide +kernel)
set_option maxRecDepth 20000 in
theorem gX1_couldLeap_X1_isCaught : GoodIn wsX1_couldLeap (wsV RX1 59 RX1 yX1_isCaught wsX1_isCaught) := goodIn_app (goodIn_of _ (by decide +kernel)) ggX1_couldLeap_X1_isCaught
set_option maxRecDepth 20000 in
theorem ggX1_couldLeap_X1_sits : GoodIn wsX1_couldLeap wsX1_sits := goodIn_r _ [11, 7, 95, 96, 97, 98] (by decide +kernel) (by decide +kernel)
set_option maxRecDepth 20000 in
theorem gX1_couldLeap_X1_sits : GoodIn wsX1_couldLeap (wsV RX1 63 RX1 yX1_sits wsX1_sits) := goodIn_app (goodIn_of _ (by decide +kernel)) ggX1_couldLeap_X1_sits
set_option maxRecDepth 20000 in
theorem ggX1_couldLeap_X2_apart : GoodIn wsX1_couldLeap wsX2_apart := goodIn_r _ [16, 17, 18, 19, 20, 21, 22, 99, 100, 101, 102, 103, 104, 105, 106, 107, 108, 109, 110] (by decide +kernel) (by decide +kernel)
set_option maxRecDepth 20000 in
theorem gX1_couldLeap_X2_apart : GoodIn wsX1_couldLeap (wsV RX1 103 RX2 yX2_apart wsX2_apart) := goodIn_app (goodIn_of _ (by decide +kernel)) ggX1_couldLeap_X2_apart
set_option maxRecDepth 20000 in
theorem ggX1_couldLeap_X1_reach : GoodIn wsX1_couldLeap wsX1_reach := goodIn_r _ [26, 27, 8, 9, 10, 5, 11, 7, 28, 29, 30, 31, 1, 32, 2, 3, 4, 6, 33, 34, 35, 36, 37, 38, 39, 40, 41, 42, 43, 44, 45, 46, 47, 48, 49, 50, 51, 52, 53, 54, 55, 56, 57, 58, 59, 60, 61, 62, 63, 64, 65, 66, 67, 68, 69, 70, 71, 72, 73, 74, 75, 76, 77, 78, 79, 80, 81, 82, 83, 84, 85, 86, 87, 20, 88, 89, 90, 91, 92, 93, 94, 95, 96, 97, 98, 99, 100, 101, 102, 103, 104, 105, 106, 107, 108, 109, 110, 111, 112, 113, 114, 115] (by decide +kernel) (by decide +kernel)
set_option maxRecDepth 20000 in
theorem gX1_couldLeap_X1_reach : GoodIn wsX1_couldLeap (wsV RX1 106 RX1 yX1_reach wsX1_reach) := goodIn_app (goodIn_of _ (by decide +kernel)) ggX1_couldLeap_X1_reach
set_option maxRecDepth 20000 in
theorem ggX1_leapable_X1_isCaught : GoodIn wsX1_leapable wsX1_isCaught := goodIn_r _ [6, 7, 99, 100, 101, 102] (by decide +kernel) (by decide +kernel)
set_option maxRecDepth 20000 in
theorem gX1_leapable_X1_isCaught : GoodIn wsX1_leapable (wsV RX1 59 RX1 yX1_isCaught wsX1_isCaught) := goodIn_app (goodIn_of _ (by decide +kernel)) ggX1_leapable_X1_isCaught
set_option maxRecDepth 20000 in
theorem ggX1_leapable_X1_sits : GoodIn wsX1_leapable wsX1_sits := goodIn_r _ [11, 7, 99, 100, 101, 102] (by decide +kernel) (by decide +kernel)
set_option maxRecDepth 20000 in
theorem gX1_leapable_X1_sits : GoodIn wsX1_leapable (wsV RX1 63 RX1 yX1_sits wsX1_sits) := goodIn_app (goodIn_of _ (by decide +kernel)) ggX1_leapable_X1_sits
set_option maxRecDepth 20000 in
theorem ggX1_leapable_X1_reach : GoodIn wsX1_leapable wsX1_reach := goodIn_r _ [15, 16, 8, 9, 10, 5, 11, 7, 17, 18, 19, 20, 1, 21, 2, 3, 4, 6, 22, 23, 24, 25, 26, 27, 28, 29, 30, 31, 32, 33, 34, 35, 36, 37, 38, 39, 40, 41, 42, 43, 44, 45, 46, 47, 48, 49, 50, 51, 52, 53, 54, 55, 56, 57, 58, 59, 60, 61, 62, 63, 64, 65, 66, 67, 68, 69, 70, 71, 72, 73, 74, 75, 76, 77, 78, 79, 80, 81, 82, 83, 84, 99, 100, 101, 102, 103, 104, 105, 106, 107, 108, 109, 110, 111, 112, 113, 114, 115, 116, 117, 118, 119] (by decide +kernel) (by decide +kernel)
set_option maxRecDepth 20000 in
theorem gX1_leapable_X1_reach : GoodIn wsX1_leapable (wsV RX1 106 RX1 yX1_reach wsX1_reach) := goodIn_app (goodIn_of _ (by decide +kernel)) ggX1_leapable_X1_reach
set_option maxRecDepth 20000 in
theorem ggX1_leapable_X2_formsWithin : GoodIn wsX1_leapable wsX2_formsWithin := goodIn_r _ [88, 89, 90, 91, 92, 86, 93, 94, 95, 96, 77, 97, 98, 103, 104, 105, 106, 107, 108, 109, 110, 111, 112, 113, 114] (by decide +kernel) (by decide +kernel)
set_option maxRecDepth 20000 in
theorem gX1_leapable_X2_formsWithin_n108 : GoodIn wsX1_leapable (wsX2_formsWithin) := ggX1_leapable_X2_formsWithin
set_option maxRecDepth 20000 in
theorem ggX1_leapTo_X1_stir : GoodIn wsX1_leapTo wsX1_stir := goodIn_r _ [6, 1, 7, 8, 9, 10] (by decide +kernel) (by decide +kernel)
set_option maxRecDepth 20000 in
theorem gX1_leapTo_X1_stir : GoodIn wsX1_leapTo (wsV RX1 111 RX1 yX1_stir wsX1_stir) := goodIn_app (goodIn_of _ (by decide +kernel)) ggX1_leapTo_X1_stir
set_option maxRecDepth 20000 in
theorem ggX1_couldFight_X1_isCaught : GoodIn wsX1_couldFight wsX1_isCaught := goodIn_r _ [5, 6, 11, 12, 13, 14] (by decide +kernel) (by decide +kernel)
set_option maxRecDepth 20000 in
theorem gX1_couldFight_X1_isCaught : GoodIn wsX1_couldFight (wsV RX1 59 RX1 yX1_isCaught wsX1_isCaught) := goodIn_app (goodIn_of _ (by decide +kernel)) ggX1_couldFight_X1_isCaught
set_option maxRecDepth 20000 in
theorem ggX1_couldFight_X1_sits : GoodIn wsX1_couldFight wsX1_sits := goodIn_r _ [10, 6, 11, 12, 13, 14] (by decide +kernel) (by decide +kernel)
set_option maxRecDepth 20000 in
theorem gX1_couldFight_X1_sits : GoodIn wsX1_couldFight (wsV RX1 63 RX1 yX1_sits wsX1_sits) := goodIn_app (goodIn_of _ (by decide +kernel)) ggX1_couldFight_X1_sits
set_option maxRecDepth 20000 in
theorem ggX1_fight_X1_strong : GoodIn wsX1_fight wsX1_strong := goodIn_r _ [10, 1, 15, 16, 17, 18] (by decide +kernel) (by decide +kernel)
set_option maxRecDepth 20000 in
theorem gX1_fight_X1_strong : GoodIn wsX1_fight (wsV RX1 66 RX1 yX1_strong wsX1_strong) := goodIn_app (goodIn_of _ (by decide +kernel)) ggX1_fight_X1_strong
set_option maxRecDepth 20000 in
theorem ggX1_fight_X1_stir : GoodIn wsX1_fight wsX1_stir := goodIn_r _ [14, 1, 15, 16, 17, 18] (by decide +kernel) (by decide +kernel)
set_option maxRecDepth 20000 in
theorem gX1_fight_X1_stir : GoodIn wsX1_fight (wsV RX1 111 RX1 yX1_stir wsX1_stir) := goodIn_app (goodIn_of _ (by decide +kernel)) ggX1_fight_X1_stir
set_option maxRecDepth 20000 in
theorem ggX1_couldPay_X1_isCaught : GoodIn wsX1_couldPay wsX1_isCaught := goodIn_r _ [5, 6, 11, 12, 13, 14] (by decide +kernel) (by decide +kernel)
set_option maxRecDepth 20000 in
theorem gX1_couldPay_X1_isCaught : GoodIn wsX1_couldPay (wsV RX1 59 RX1 yX1_isCaught wsX1_isCaught) := goodIn_app (goodIn_of _ (by decide +kernel)) ggX1_couldPay_X1_isCaught
set_option maxRecDepth 20000 in
theorem ggX1_couldPay_X1_owesTo : GoodIn wsX1_couldPay wsX1_owesTo := goodIn_r _ [10, 6, 11, 12, 13, 14] (by decide +kernel) (by decide +kernel)
set_option maxRecDepth 20000 in
theorem gX1_couldPay_X1_owesTo : GoodIn wsX1_couldPay (wsV RX1 51 RX1 yX1_owesTo wsX1_owesTo) := goodIn_app (goodIn_of _ (by decide +kernel)) ggX1_couldPay_X1_owesTo
set_option maxRecDepth 20000 in
theorem ggX1_passDay_X10_holds : GoodIn wsX1_passDay wsX10_holds := goodIn_r _ [6] (by decide +kernel) (by decide +kernel)
set_option maxRecDepth 20000 in
theorem gX1_passDay_X10_holds_n120 : GoodIn wsX1_passDay (wsX10_holds) := ggX1_passDay_X10_holds
set_option maxRecDepth 20000 in
theorem ggX1_passDay_X1_strike : GoodIn wsX1_passDay wsX1_strike := goodIn_r _ [11, 1, 2, 3, 12, 13, 14, 15, 10, 16, 17, 18, 19, 20, 21, 22, 23, 24, 25, 26, 27, 28, 29, 30, 4, 5, 6, 31, 32, 33, 34, 35, 36, 37, 38, 39, 40, 41, 42, 43, 44, 45, 46, 47, 48, 49, 50, 51, 52, 53, 54] (by decide +kernel) (by decide +kernel)
set_option maxRecDepth 20000 in
theorem gX1_passDay_X1_strike : GoodIn wsX1_passDay (wsV RX1 124 RX1 yX1_strike wsX1_strike) := goodIn_app (goodIn_of _ (by decide +kernel)) ggX1_passDay_X1_strike
set_option maxRecDepth 20000 in
theorem ggX1_strike_X1_endangered : GoodIn wsX1_strike wsX1_endangered := goodIn_r _ [9, 1, 2, 10, 11, 12, 8, 13, 3, 14, 15, 16, 17, 18, 19, 20, 21, 22, 23, 24, 25, 26, 27, 28, 29, 30, 35, 36, 37, 38, 39, 40, 41, 42, 43, 44, 45, 46, 47, 48, 49, 50] (by decide +kernel) (by decide +kernel)
set_option maxRecDepth 20000 in
theorem gX1_strike_X1_endangered : GoodIn wsX1_strike (wsV RX1 127 RX1 yX1_endangered wsX1_endangered) := goodIn_app (goodIn_of _ (by decide +kernel)) ggX1_strike_X1_endangered
set_option maxRecDepth 20000 in
theorem ggX1_strike_X10_holds : GoodIn wsX1_strike wsX10_holds := goodIn_r _ [26] (by decide +kernel) (by decide +kernel)
set_option maxRecDepth 20000 in
theorem gX1_strike_X10_holds_n120 : GoodIn wsX1_strike (wsX10_holds) := ggX1_strike_X10_holds
set_option maxRecDepth 20000 in
theorem ggX1_strike_X1_dropDebts : GoodIn wsX1_strike wsX1_dropDebts := goodIn_r _ [34, 1, 2, 3, 35, 36, 37, 38, 39, 40, 41, 42, 43, 44, 45, 46, 47, 48, 49, 50] (by decide +kernel) (by decide +kernel)
set_option maxRecDepth 20000 in
theorem gX1_strike_X1_dropDebts : GoodIn wsX1_strike (wsV RX1 130 RX1 yX1_dropDebts wsX1_dropDebts) := goodIn_app (goodIn_of _ (by decide +kernel)) ggX1_strike_X1_dropDebts
set_option maxRecDepth 20000 in
theorem ggX1_endangered_X1_isCaught : GoodIn wsX1_endangered wsX1_isCaught := goodIn_r _ [7, 8, 26, 27, 28, 29] (by decide +kernel) (by decide +kernel)
set_option maxRecDepth 20000 in
theorem gX1_endangered_X1_isCaught : GoodIn wsX1_endangered (wsV RX1 59 RX1 yX1_isCaught wsX1_isCaught) := goodIn_app (goodIn_of _ (by decide +kernel)) ggX1_endangered_X1_isCaught
set_option maxRecDepth 20000 in
theorem ggX1_endangered_X1_sits : GoodIn wsX1_endangered wsX1_sits := goodIn_r _ [12, 8, 26, 27, 28, 29] (by decide +kernel) (by decide +kernel)
set_option maxRecDepth 20000 in
theorem gX1_endangered_X1_sits : GoodIn wsX1_endangered (wsV RX1 63 RX1 yX1_sits wsX1_sits) := goodIn_app (goodIn_of _ (by decide +kernel)) ggX1_endangered_X1_sits
set_option maxRecDepth 20000 in
theorem ggX1_endangered_X2_isSafe : GoodIn wsX1_endangered wsX2_isSafe := goodIn_r _ [17, 18, 19, 20, 21, 30, 31, 32, 33, 34, 35, 36, 37, 38, 39, 40, 41] (by decide +kernel) (by decide +kernel)
set_option maxRecDepth 20000 in
theorem gX1_endangered_X2_isSafe : GoodIn wsX1_endangered (wsV RX1 133 RX2 yX2_isSafe wsX2_isSafe) := goodIn_app (goodIn_of _ (by decide +kernel)) ggX1_endangered_X2_isSafe
set_option maxRecDepth 20000 in
theorem ggX1_endangered_X1_still : GoodIn wsX1_endangered wsX1_still := goodIn_r _ [25, 8, 26, 27, 28, 29] (by decide +kernel) (by decide +kernel)
set_option maxRecDepth 20000 in
theorem gX1_endangered_X1_still : GoodIn wsX1_endangered (wsV RX1 77 RX1 yX1_still wsX1_still) := goodIn_app (goodIn_of _ (by decide +kernel)) ggX1_endangered_X1_still
set_option maxRecDepth 20000 in
theorem ggX1_drawDays_X1_nextSeed : GoodIn wsX1_drawDays wsX1_nextSeed := goodIn_r _ [7, 8] (by decide +kernel) (by decide +kernel)
set_option maxRecDepth 20000 in
theorem gX1_drawDays_X1_nextSeed : GoodIn wsX1_drawDays (va_wsS RX1 139 yX1_nextSeed wsX1_nextSeed) := goodIn_app (goodIn_of _ (by decide +kernel)) ggX1_drawDays_X1_nextSeed
set_option maxRecDepth 20000 in
theorem ggX1_drawDays_X1_drawnBits : GoodIn wsX1_drawDays wsX1_drawnBits := goodIn_r _ [11] (by decide +kernel) (by decide +kernel)
set_option maxRecDepth 20000 in
theorem gX1_drawDays_X1_drawnBits : GoodIn wsX1_drawDays (va_wsS RX1 142 yX1_drawnBits wsX1_drawnBits) := goodIn_app (goodIn_of _ (by decide +kernel)) ggX1_drawDays_X1_drawnBits
set_option maxRecDepth 20000 in
theorem ggX1_drawDays_X1_leapIfAllowed : GoodIn wsX1_drawDays wsX1_leapIfAllowed := goodIn_r _ [15, 16, 17, 18, 6, 19, 1, 20, 21, 22, 23, 24, 25, 26, 27, 28, 29, 30, 31, 32, 33, 34, 35, 36, 37, 38, 39, 40, 41, 42, 43, 44, 45, 46, 47, 48, 2, 49, 50, 51, 52, 53, 54, 55, 56, 57, 58, 59, 60, 61, 62, 63, 64, 65, 66, 67, 68, 69, 70, 71, 72, 73, 74, 75, 76, 77, 78, 79, 80, 81, 82, 83, 84, 85, 86, 87, 88, 89, 90, 91, 92, 93, 94, 95, 96, 97, 98, 99, 100, 101, 102, 103, 104, 105, 106, 107, 108, 109, 110, 111, 112, 113, 114, 115, 116, 117, 118, 157, 158, 159, 160, 161, 162, 163, 164, 165, 166, 167, 168, 169, 170, 171, 172, 173, 174, 175, 176, 177] (by decide +kernel) (by decide +kernel)
set_option maxRecDepth 20000 in
theorem gX1_drawDays_X1_leapIfAllowed : GoodIn wsX1_drawDays (wsV RX1 145 RX1 yX1_leapIfAllowed wsX1_leapIfAllowed) := goodIn_app (goodIn_of _ (by decide +kernel)) ggX1_drawDays_X1_leapIfAllowed
set_option maxRecDepth 20000 in
theorem ggX1_drawDays_X1_fightIfAllowed : GoodIn wsX1_drawDays wsX1_fightIfAllowed := goodIn_r _ [122, 123, 124, 125, 6, 126, 20, 21, 22, 23, 24, 25, 26, 27, 28, 127, 128, 129, 130, 131, 106, 37, 107, 56, 57, 58, 59, 115, 116, 117, 118, 157, 158, 159, 160] (by decide +kernel) (by decide +kernel)
set_option maxRecDepth 20000 in
theorem gX1_drawDays_X1_fightIfAllowed : GoodIn wsX1_drawDays (wsV RX1 148 RX1 yX1_fightIfAllowed wsX1_fightIfAllowed) := goodIn_app (goodIn_of _ (by decide +kernel)) ggX1_drawDays_X1_fightIfAllowed
set_option maxRecDepth 20000 in
theorem ggX1_drawDays_X1_passDay : GoodIn wsX1_drawDays wsX1_passDay := goodIn_r _ [135, 1, 2, 24, 136, 137, 138, 139, 140, 141, 6, 142, 143, 144, 145, 146, 147, 20, 21, 22, 23, 25, 26, 27, 28, 148, 149, 150, 32, 151, 152, 60, 61, 62, 63, 153, 154, 155, 156, 157, 158, 159, 160, 161, 162, 163, 164, 165, 166, 167, 168, 169, 170, 171, 172] (by decide +kernel) (by decide +kernel)
set_option maxRecDepth 20000 in
theorem gX1_drawDays_X1_passDay : GoodIn wsX1_drawDays (wsV RX1 152 RX1 yX1_passDay wsX1_passDay) := goodIn_app (goodIn_of _ (by decide +kernel)) ggX1_drawDays_X1_passDay
set_option maxRecDepth 20000 in
theorem ggX1_leapIfAllowed_X1_couldLeap : GoodIn wsX1_leapIfAllowed wsX1_couldLeap := goodIn_r _ [5, 6, 7, 8, 9, 4, 10, 11, 12, 13, 14, 15, 16, 17, 18, 19, 20, 21, 22, 23, 24, 25, 26, 27, 28, 29, 30, 31, 32, 33, 34, 35, 36, 37, 38, 39, 40, 41, 42, 43, 44, 45, 46, 47, 48, 49, 50, 51, 52, 53, 54, 55, 56, 57, 58, 59, 60, 61, 62, 63, 64, 65, 66, 67, 68, 69, 70, 71, 72, 73, 74, 75, 76, 77, 78, 79, 80, 81, 82, 83, 84, 85, 86, 87, 88, 89, 90, 91, 92, 93, 94, 95, 96, 97, 98, 107, 108, 109, 110, 111, 112, 113, 114, 115, 116, 117, 118, 119, 120, 121, 122, 123, 124, 125, 126, 127] (by decide +kernel) (by decide +kernel)
set_option maxRecDepth 20000 in
theorem gX1_leapIfAllowed_X1_couldLeap : GoodIn wsX1_leapIfAllowed (wsV RX1 155 RX1 yX1_couldLeap wsX1_couldLeap) := goodIn_app (goodIn_of _ (by decide +kernel)) ggX1_leapIfAllowed_X1_couldLeap
set_option maxRecDepth 20000 in
theorem ggX1_leapIfAllowed_X1_leapTo : GoodIn wsX1_leapIfAllowed wsX1_leapTo := goodIn_r _ [102, 11, 103, 104, 105, 4, 106, 107, 108, 109, 110] (by decide +kernel) (by decide +kernel)
set_option maxRecDepth 20000 in
theorem gX1_leapIfAllowed_X1_leapTo : GoodIn wsX1_leapIfAllowed (wsV RX1 158 RX1 yX1_leapTo wsX1_leapTo) := goodIn_app (goodIn_of _ (by decide +kernel)) ggX1_leapIfAllowed_X1_leapTo
set_option maxRecDepth 20000 in
theorem ggX1_fightIfAllowed_X1_couldFight : GoodIn wsX1_fightIfAllowed wsX1_couldFight := goodIn_r _ [5, 6, 7, 8, 4, 9, 10, 11, 12, 13, 14, 31, 32, 33, 34] (by decide +kernel) (by decide +kernel)
set_option maxRecDepth 20000 in
theorem gX1_fightIfAllowed_X1_couldFight : GoodIn wsX1_fightIfAllowed (wsV RX1 161 RX1 yX1_couldFight wsX1_couldFight) := goodIn_app (goodIn_of _ (by decide +kernel)) ggX1_fightIfAllowed_X1_couldFight
set_option maxRecDepth 20000 in
theorem ggX1_fightIfAllowed_X1_fight : GoodIn wsX1_fightIfAllowed wsX1_fight := goodIn_r _ [18, 10, 19, 20, 21, 22, 23, 24, 25, 4, 26, 27, 28, 29, 30, 31, 32, 33, 34] (by decide +kernel) (by decide +kernel)
set_option maxRecDepth 20000 in
theorem gX1_fightIfAllowed_X1_fight : GoodIn wsX1_fightIfAllowed (wsV RX1 164 RX1 yX1_fight wsX1_fight) := goodIn_app (goodIn_of _ (by decide +kernel)) ggX1_fightIfAllowed_X1_fight
set_option maxRecDepth 20000 in
theorem ggX1_cloverFor_X10_holds : GoodIn wsX1_cloverFor wsX10_holds := goodIn_r _ [10] (by decide +kernel) (by decide +kernel)
set_option maxRecDepth 20000 in
theorem gX1_cloverFor_X10_holds_n120 : GoodIn wsX1_cloverFor (wsX10_holds) := ggX1_cloverFor_X10_holds
set_option maxRecDepth 20000 in
theorem ggX1_cloverFor_X1_owed : GoodIn wsX1_cloverFor wsX1_owed := goodIn_r _ [15, 1, 2, 16, 17, 18, 14, 19, 20, 25, 26, 27, 28, 29, 30, 31, 32, 33, 34, 35, 36, 37, 38, 39, 40] (by decide +kernel) (by decide +kernel)
set_option maxRecDepth 20000 in
theorem gX1_cloverFor_X1_owed : GoodIn wsX1_cloverFor (wsV RX1 80 RX1 yX1_owed wsX1_owed) := goodIn_app (goodIn_of _ (by decide +kernel)) ggX1_cloverFor_X1_owed
set_option maxRecDepth 20000 in
theorem ggX1_cloverFor_X1_givenBy : GoodIn wsX1_cloverFor wsX1_givenBy := goodIn_r _ [24, 1, 2, 3, 4, 5, 6, 7, 25, 26, 27, 28, 29, 30, 31, 32, 33, 34, 35, 36, 37, 38, 39, 40] (by decide +kernel) (by decide +kernel)
set_option maxRecDepth 20000 in
theorem gX1_cloverFor_X1_givenBy : GoodIn wsX1_cloverFor (wsV RX1 168 RX1 yX1_givenBy wsX1_givenBy) := goodIn_app (goodIn_of _ (by decide +kernel)) ggX1_cloverFor_X1_givenBy
set_option maxRecDepth 20000 in
theorem ggX2_readFrom_X8_isFaulty : GoodIn wsX2_readFrom wsX8_isFaulty := goodIn_r _ [9, 10, 170, 171, 172, 173, 174, 175, 176] (by decide +kernel) (by decide +kernel)
set_option maxRecDepth 20000 in
theorem gX2_readFrom_X8_isFaulty : GoodIn wsX2_readFrom (wsV RX2 46 RX8 yX8_isFaulty wsX8_isFaulty) := goodIn_app (goodIn_of _ (by decide +kernel)) ggX2_readFrom_X8_isFaulty
set_option maxRecDepth 20000 in
theorem ggX2_readFrom_X8_isEnded : GoodIn wsX2_readFrom wsX8_isEnded := goodIn_r _ [14, 15, 16, 17, 18, 19, 8, 20, 21, 170, 171, 172, 173, 174, 175, 176] (by decide +kernel) (by decide +kernel)
set_option maxRecDepth 20000 in
theorem gX2_readFrom_X8_isEnded : GoodIn wsX2_readFrom (wsV RX2 52 RX8 yX8_isEnded wsX8_isEnded) := goodIn_app (goodIn_of _ (by decide +kernel)) ggX2_readFrom_X8_isEnded
set_option maxRecDepth 20000 in
theorem ggX2_readFrom_X2_readClause : GoodIn wsX2_readFrom wsX2_readClause := goodIn_r _ [26, 27, 28, 29, 8, 30, 15, 16, 21, 31, 17, 18, 19, 20, 32, 33, 34, 35, 36, 37, 38, 39, 40, 41, 42, 43, 44, 6, 7, 9, 10, 45, 46, 47, 48, 49, 50, 51, 52, 53, 54, 55, 56, 57, 58, 59, 60, 61, 62, 63, 64, 65, 66, 67, 68, 69, 70, 71, 72, 73, 74, 75, 76, 77, 78, 79, 80, 81, 82, 83, 84, 85, 86, 87, 88, 25, 89, 1, 90, 91, 92, 93, 94, 95, 96, 97, 98, 99, 100, 101, 102, 103, 104, 105, 106, 107, 108, 109, 110, 111, 112, 113, 114, 115, 116, 117, 118, 119, 120, 121, 122, 123, 124, 125, 126, 127, 128, 129, 130, 131, 132, 2, 133, 134, 135, 136, 137, 138, 3, 139, 140, 141, 142, 143, 144, 4, 5, 145, 170, 171, 172, 173, 174, 175, 176, 158, 159, 160, 161, 162, 163, 164, 165, 166, 167, 168, 169] (by decide +kernel) (by decide +kernel)
set_option maxRecDepth 20000 in
theorem gX2_readFrom_X2_readClause : GoodIn wsX2_readFrom (wsV RX2 55 RX2 yX2_readClause wsX2_readClause) := goodIn_app (goodIn_of _ (by decide +kernel)) ggX2_readFrom_X2_readClause
set_option maxRecDepth 20000 in
theorem ggX2_readFrom_X2_findSafe : GoodIn wsX2_readFrom wsX2_findSafe := goodIn_r _ [149, 150, 1, 151, 152, 153, 25, 154, 3, 90, 139, 155, 156, 108, 157, 91, 140, 158, 159, 160, 161, 162, 163, 164, 165, 166, 167, 168, 169] (by decide +kernel) (by decide +kernel)
set_option maxRecDepth 20000 in
theorem gX2_readFrom_X2_findSafe : GoodIn wsX2_readFrom (wsV RX2 59 RX2 yX2_findSafe wsX2_findSafe) := goodIn_app (goodIn_of _ (by decide +kernel)) ggX2_readFrom_X2_findSafe
set_option maxRecDepth 20000 in
theorem ggX2_readClause_X8_takesWord : GoodIn wsX2_readClause wsX8_takesWord := goodIn_r _ [5, 6, 7, 8, 9, 10, 11, 12, 4, 13, 14, 15, 16, 17, 18, 19, 20, 21, 22, 23, 24, 25, 26, 27, 28, 29, 30, 31, 32, 33, 34, 35, 36, 37, 38, 39, 40, 41, 42, 43, 44, 45, 46, 47, 48, 49, 50, 51, 52, 53, 54, 55, 56, 57, 58, 59, 60, 61, 62, 63, 64, 65, 66, 67, 68, 69, 70, 71, 138, 139, 140, 141, 142, 143, 144] (by decide +kernel) (by decide +kernel)
set_option maxRecDepth 20000 in
theorem gX2_readClause_X8_takesWord : GoodIn wsX2_readClause (wsV RX2 64 RX8 yX8_takesWord wsX8_takesWord) := goodIn_app (goodIn_of _ (by decide +kernel)) ggX2_readClause_X8_takesWord
set_option maxRecDepth 20000 in
theorem ggX2_readClause_X2_readForm : GoodIn wsX2_readClause wsX2_readForm := goodIn_r _ [76, 77, 78, 79, 80, 81, 82, 4, 83, 9, 84, 85, 86, 87, 30, 88, 89, 90, 91, 92, 6, 7, 93, 94, 95, 96, 97, 10, 11, 12, 13, 8, 98, 99, 100, 101, 26, 27, 28, 29, 102, 103, 104, 105, 106, 107, 108, 109, 110, 111, 112, 113, 114, 115, 116, 145, 146, 147, 148, 149, 150, 151, 152, 153, 154, 155, 156, 138, 139, 140, 141, 142, 143, 144] (by decide +kernel) (by decide +kernel)
set_option maxRecDepth 20000 in
theorem gX2_readClause_X2_readForm : GoodIn wsX2_readClause (wsV RX2 68 RX2 yX2_readForm wsX2_readForm) := goodIn_app (goodIn_of _ (by decide +kernel)) ggX2_readClause_X2_readForm
set_option maxRecDepth 20000 in
theorem ggX2_readClause_X2_readHare : GoodIn wsX2_readClause wsX2_readHare := goodIn_r _ [120, 121, 122, 77, 123, 80, 81, 82, 4, 83, 9, 84, 85, 86, 87, 30, 88, 89, 90, 91, 92, 6, 7, 93, 94, 95, 96, 97, 10, 11, 12, 13, 8, 98, 99, 100, 101, 26, 27, 28, 29, 102, 103, 104, 105, 106, 107, 108, 109, 110, 111, 112, 113, 114, 115, 116, 145, 146, 147, 148, 149, 150, 151, 152, 153, 154, 155, 156, 138, 139, 140, 141, 142, 143, 144] (by decide +kernel) (by decide +kernel)
set_option maxRecDepth 20000 in
theorem gX2_readClause_X2_readHare : GoodIn wsX2_readClause (wsV RX2 73 RX2 yX2_readHare wsX2_readHare) := goodIn_app (goodIn_of _ (by decide +kernel)) ggX2_readClause_X2_readHare
set_option maxRecDepth 20000 in
theorem ggX2_readClause_X2_readFox : GoodIn wsX2_readClause wsX2_readFox := goodIn_r _ [127, 128, 129, 130, 80, 81, 82, 4, 83, 9, 84, 85, 86, 87, 30, 88, 89, 90, 91, 92, 6, 7, 93, 94, 95, 96, 97, 10, 11, 12, 13, 8, 98, 99, 100, 101, 26, 27, 28, 29, 102, 103, 104, 105, 106, 107, 108, 109, 110, 111, 112, 113, 114, 115, 116, 145, 146, 147, 148, 149, 150, 151, 152, 153, 154, 155, 156, 138, 139, 140, 141, 142, 143, 144] (by decide +kernel) (by decide +kernel)
set_option maxRecDepth 20000 in
theorem gX2_readClause_X2_readFox : GoodIn wsX2_readClause (wsV RX2 78 RX2 yX2_readFox wsX2_readFox) := goodIn_app (goodIn_of _ (by decide +kernel)) ggX2_readClause_X2_readFox
set_option maxRecDepth 20000 in
theorem ggX2_readClause_X2_readDebt : GoodIn wsX2_readClause wsX2_readDebt := goodIn_r _ [134, 121, 135, 80, 81, 82, 4, 83, 9, 84, 85, 86, 87, 30, 88, 89, 90, 91, 92, 6, 7, 93, 94, 95, 96, 97, 10, 11, 12, 13, 8, 98, 99, 100, 101, 26, 27, 28, 29, 102, 103, 104, 105, 106, 107, 108, 109, 110, 111, 112, 113, 114, 115, 116, 136, 145, 146, 147, 148, 149, 150, 151, 152, 153, 154, 155, 156, 138, 139, 140, 141, 142, 143, 144] (by decide +kernel) (by decide +kernel)
set_option maxRecDepth 20000 in
theorem gX2_readClause_X2_readDebt : GoodIn wsX2_readClause (wsV RX2 83 RX2 yX2_readDebt wsX2_readDebt) := goodIn_app (goodIn_of _ (by decide +kernel)) ggX2_readClause_X2_readDebt
set_option maxRecDepth 20000 in
theorem ggX2_readClause_X8_blameSign : GoodIn wsX2_readClause wsX8_blameSign := goodIn_r _ [116, 6, 10, 11, 12, 4, 13, 7, 8, 84, 85, 86, 87, 30, 88, 138, 139, 140, 141, 142, 143, 144] (by decide +kernel) (by decide +kernel)
set_option maxRecDepth 20000 in
theorem gX2_readClause_X8_blameSign : GoodIn wsX2_readClause (wsV RX2 86 RX8 yX8_blameSign wsX8_blameSign) := goodIn_app (goodIn_of _ (by decide +kernel)) ggX2_readClause_X8_blameSign
set_option maxRecDepth 20000 in
theorem ggX2_readForm_X8_blameToken : GoodIn wsX2_readForm wsX8_blameToken := goodIn_r _ [8, 9, 10, 11, 12, 7, 13, 14, 15, 67, 68, 69, 70, 71, 72, 73] (by decide +kernel) (by decide +kernel)
set_option maxRecDepth 20000 in
theorem gX2_readForm_X8_blameToken : GoodIn wsX2_readForm (wsV RX2 89 RX8 yX8_blameToken wsX8_blameToken) := goodIn_app (goodIn_of _ (by decide +kernel)) ggX2_readForm_X8_blameToken
set_option maxRecDepth 20000 in
theorem ggX2_readForm_X8_number : GoodIn wsX2_readForm wsX8_number := goodIn_r _ [19, 20, 9, 21, 22, 23, 24, 25, 26, 27, 28, 29, 7, 30, 31, 32, 33, 34, 35, 10, 11, 12, 13, 14, 15, 36, 37, 38, 39, 40, 41, 42, 67, 68, 69, 70, 71, 72, 73] (by decide +kernel) (by decide +kernel)
set_option maxRecDepth 20000 in
theorem gX2_readForm_X8_number : GoodIn wsX2_readForm (wsV RX2 93 RX8 yX8_number wsX8_number) := goodIn_app (goodIn_of _ (by decide +kernel)) ggX2_readForm_X8_number
set_option maxRecDepth 20000 in
theorem ggX2_readForm_X8_needs : GoodIn wsX2_readForm wsX8_needs := goodIn_r _ [46, 47, 48, 49, 7, 50, 20, 21, 31, 9, 27, 28, 29, 30, 36, 37, 38, 39, 14, 51, 52, 53, 54, 10, 11, 12, 13, 15, 67, 68, 69, 70, 71, 72, 73] (by decide +kernel) (by decide +kernel)
set_option maxRecDepth 20000 in
theorem gX2_readForm_X8_needs : GoodIn wsX2_readForm (wsV RX2 97 RX8 yX8_needs wsX8_needs) := goodIn_app (goodIn_of _ (by decide +kernel)) ggX2_readForm_X8_needs
set_option maxRecDepth 20000 in
theorem ggX2_readHare_X8_blameToken : GoodIn wsX2_readHare wsX8_blameToken := goodIn_r _ [9, 10, 11, 12, 13, 8, 14, 15, 16, 68, 69, 70, 71, 72, 73, 74] (by decide +kernel) (by decide +kernel)
set_option maxRecDepth 20000 in
theorem gX2_readHare_X8_blameToken : GoodIn wsX2_readHare (wsV RX2 89 RX8 yX8_blameToken wsX8_blameToken) := goodIn_app (goodIn_of _ (by decide +kernel)) ggX2_readHare_X8_blameToken
set_option maxRecDepth 20000 in
theorem ggX2_readHare_X8_number : GoodIn wsX2_readHare wsX8_number := goodIn_r _ [20, 21, 10, 22, 23, 24, 25, 26, 27, 28, 29, 30, 8, 31, 32, 33, 34, 35, 36, 11, 12, 13, 14, 15, 16, 37, 38, 39, 40, 41, 42, 43, 68, 69, 70, 71, 72, 73, 74] (by decide +kernel) (by decide +kernel)
set_option maxRecDepth 20000 in
theorem gX2_readHare_X8_number : GoodIn wsX2_readHare (wsV RX2 93 RX8 yX8_number wsX8_number) := goodIn_app (goodIn_of _ (by decide +kernel)) ggX2_readHare_X8_number
set_option maxRecDepth 20000 in
theorem ggX2_readHare_X8_needs : GoodIn wsX2_readHare wsX8_needs := goodIn_r _ [47, 48, 49, 50, 8, 51, 21, 22, 32, 10, 28, 29, 30, 31, 37, 38, 39, 40, 15, 52, 53, 54, 55, 11, 12, 13, 14, 16, 68, 69, 70, 71, 72, 73, 74] (by decide +kernel) (by decide +kernel)
set_option maxRecDepth 20000 in
theorem gX2_readHare_X8_needs : GoodIn wsX2_readHare (wsV RX2 97 RX8 yX8_needs wsX8_needs) := goodIn_app (goodIn_of _ (by decide +kernel)) ggX2_readHare_X8_needs
set_option maxRecDepth 20000 in
theorem ggX2_readFox_X8_blameToken : GoodIn wsX2_readFox wsX8_blameToken := goodIn_r _ [8, 9, 10, 11, 12, 7, 13, 14, 15, 67, 68, 69, 70, 71, 72, 73] (by decide +kernel) (by decide +kernel)
set_option maxRecDepth 20000 in
theorem gX2_readFox_X8_blameToken : GoodIn wsX2_readFox (wsV RX2 89 RX8 yX8_blameToken wsX8_blameToken) := goodIn_app (goodIn_of _ (by decide +kernel)) ggX2_readFox_X8_blameToken
set_option maxRecDepth 20000 in
theorem ggX2_readFox_X8_number : GoodIn wsX2_readFox wsX8_number := goodIn_r _ [19, 20, 9, 21, 22, 23, 24, 25, 26, 27, 28, 29, 7, 30, 31, 32, 33, 34, 35, 10, 11, 12, 13, 14, 15, 36, 37, 38, 39, 40, 41, 42, 67, 68, 69, 70, 71, 72, 73] (by decide +kernel) (by decide +kernel)
set_option maxRecDepth 20000 in
theorem gX2_readFox_X8_number : GoodIn wsX2_readFox (wsV RX2 93 RX8 yX8_number wsX8_number) := goodIn_app (goodIn_of _ (by decide +kernel)) ggX2_readFox_X8_number
set_option maxRecDepth 20000 in
theorem ggX2_readFox_X8_needs : GoodIn wsX2_readFox wsX8_needs := goodIn_r _ [46, 47, 48, 49, 7, 50, 20, 21, 31, 9, 27, 28, 29, 30, 36, 37, 38, 39, 14, 51, 52, 53, 54, 10, 11, 12, 13, 15, 67, 68, 69, 70, 71, 72, 73] (by decide +kernel) (by decide +kernel)
set_option maxRecDepth 20000 in
theorem gX2_readFox_X8_needs : GoodIn wsX2_readFox (wsV RX2 97 RX8 yX8_needs wsX8_needs) := goodIn_app (goodIn_of _ (by decide +kernel)) ggX2_readFox_X8_needs
set_option maxRecDepth 20000 in
theorem ggX2_readDebt_X8_blameToken : GoodIn wsX2_readDebt wsX8_blameToken := goodIn_r _ [7, 8, 9, 10, 11, 6, 12, 13, 14, 67, 68, 69, 70, 71, 72, 73] (by decide +kernel) (by decide +kernel)
set_option maxRecDepth 20000 in
theorem gX2_readDebt_X8_blameToken : GoodIn wsX2_readDebt (wsV RX2 89 RX8 yX8_blameToken wsX8_blameToken) := goodIn_app (goodIn_of _ (by decide +kernel)) ggX2_readDebt_X8_blameToken
set_option maxRecDepth 20000 in
theorem ggX2_readDebt_X8_number : GoodIn wsX2_readDebt wsX8_number := goodIn_r _ [18, 19, 8, 20, 21, 22, 23, 24, 25, 26, 27, 28, 6, 29, 30, 31, 32, 33, 34, 9, 10, 11, 12, 13, 14, 35, 36, 37, 38, 39, 40, 41, 67, 68, 69, 70, 71, 72, 73] (by decide +kernel) (by decide +kernel)
set_option maxRecDepth 20000 in
theorem gX2_readDebt_X8_number : GoodIn wsX2_readDebt (wsV RX2 93 RX8 yX8_number wsX8_number) := goodIn_app (goodIn_of _ (by decide +kernel)) ggX2_readDebt_X8_number
set_option maxRecDepth 20000 in
theorem ggX2_readDebt_X8_needs : GoodIn wsX2_readDebt wsX8_needs := goodIn_r _ [45, 46, 47, 48, 6, 49, 19, 20, 30, 8, 26, 27, 28, 29, 35, 36, 37, 38, 13, 50, 51, 52, 53, 9, 10, 11, 12, 14, 67, 68, 69, 70, 71, 72, 73] (by decide +kernel) (by decide +kernel)
set_option maxRecDepth 20000 in
theorem gX2_readDebt_X8_needs : GoodIn wsX2_readDebt (wsV RX2 97 RX8 yX8_needs wsX8_needs) := goodIn_app (goodIn_of _ (by decide +kernel)) ggX2_readDebt_X8_needs
set_option maxRecDepth 20000 in
theorem ggX2_readDebt_X8_isFaulty : GoodIn wsX2_readDebt wsX8_isFaulty := goodIn_r _ [38, 13, 67, 68, 69, 70, 71, 72, 73] (by decide +kernel) (by decide +kernel)
set_option maxRecDepth 20000 in
theorem gX2_readDebt_X8_isFaulty : GoodIn wsX2_readDebt (wsV RX2 46 RX8 yX8_isFaulty wsX8_isFaulty) := goodIn_app (goodIn_of _ (by decide +kernel)) ggX2_readDebt_X8_isFaulty
set_option maxRecDepth 20000 in
theorem ggX2_findSafe_X2_foxIsNear : GoodIn wsX2_findSafe wsX2_foxIsNear := goodIn_r _ [7, 8, 9, 10, 11, 12, 13, 14, 15, 16, 17, 18, 19, 20, 21, 22, 23, 24, 25, 26, 27, 28] (by decide +kernel) (by decide +kernel)
set_option maxRecDepth 20000 in
theorem gX2_findSafe_X2_foxIsNear : GoodIn wsX2_findSafe (wsV RX2 104 RX2 yX2_foxIsNear wsX2_foxIsNear) := goodIn_app (goodIn_of _ (by decide +kernel)) ggX2_findSafe_X2_foxIsNear
set_option maxRecDepth 20000 in
theorem ggX2_isSafe_X10_holds : GoodIn wsX2_isSafe wsX10_holds := goodIn_r _ [4] (by decide +kernel) (by decide +kernel)
set_option maxRecDepth 20000 in
theorem gX2_isSafe_X10_holds_n114 : GoodIn wsX2_isSafe (wsX10_holds) := ggX2_isSafe_X10_holds
set_option maxRecDepth 20000 in
theorem ggX2_formsWithin_X2_apart : GoodIn wsX2_formsWithin wsX2_apart := goodIn_r _ [6, 7, 8, 9, 10, 11, 12, 13, 14, 15, 16, 17, 18, 19, 20, 21, 22, 23, 24] (by decide +kernel) (by decide +kernel)
set_option maxRecDepth 20000 in
theorem gX2_formsWithin_X2_apart : GoodIn wsX2_formsWithin (wsV RX2 118 RX2 yX2_apart wsX2_apart) := goodIn_app (goodIn_of _ (by decide +kernel)) ggX2_formsWithin_X2_apart
set_option maxRecDepth 20000 in
theorem ggX2_hopsBetween_X10_holds : GoodIn wsX2_hopsBetween wsX10_holds := goodIn_r _ [4] (by decide +kernel) (by decide +kernel)
set_option maxRecDepth 20000 in
theorem gX2_hopsBetween_X10_holds_n114 : GoodIn wsX2_hopsBetween (wsX10_holds) := ggX2_hopsBetween_X10_holds
set_option maxRecDepth 20000 in
theorem ggX2_hopsBetween_X2_formsWithin : GoodIn wsX2_hopsBetween wsX2_formsWithin := goodIn_r _ [9, 1, 10, 11, 12, 8, 13, 14, 15, 16, 17, 18, 19, 20, 21, 22, 23, 24, 25, 26, 27, 28, 29, 30, 31] (by decide +kernel) (by decide +kernel)
set_option maxRecDepth 20000 in
theorem gX2_hopsBetween_X2_formsWithin : GoodIn wsX2_hopsBetween (wsV RX2 121 RX2 yX2_formsWithin wsX2_formsWithin) := goodIn_app (goodIn_of _ (by decide +kernel)) ggX2_hopsBetween_X2_formsWithin
set_option maxRecDepth 20000 in
theorem ggX2_watchers_X2_formsWithin : GoodIn wsX2_watchers wsX2_formsWithin := goodIn_r _ [7, 1, 8, 9, 10, 6, 11, 12, 13, 14, 15, 16, 17, 32, 33, 34, 35, 36, 37, 38, 39, 40, 41, 42, 43] (by decide +kernel) (by decide +kernel)
set_option maxRecDepth 20000 in
theorem gX2_watchers_X2_formsWithin : GoodIn wsX2_watchers (wsV RX2 121 RX2 yX2_formsWithin wsX2_formsWithin) := goodIn_app (goodIn_of _ (by decide +kernel)) ggX2_watchers_X2_formsWithin
set_option maxRecDepth 20000 in
theorem ggX2_watchers_J6_bitCount_0f7a4 : GoodIn wsX2_watchers wsJ6_bitCount_0f7a4 := goodIn_r _ [21, 22, 23, 24] (by decide +kernel) (by decide +kernel)
set_option maxRecDepth 20000 in
theorem gX2_watchers_J6_bitCount_0f7a4 : GoodIn wsX2_watchers (va_wsS RX2 124 yJ6_bitCount_0f7a4 wsJ6_bitCount_0f7a4) := goodIn_app (goodIn_of _ (by decide +kernel)) ggX2_watchers_J6_bitCount_0f7a4
set_option maxRecDepth 20000 in
theorem ggX2_watchers_X2_seenFrom : GoodIn wsX2_watchers wsX2_seenFrom := goodIn_r _ [28, 1, 2, 29, 30, 31, 32, 33, 34, 35, 36, 37, 38, 39, 40, 41, 42, 43] (by decide +kernel) (by decide +kernel)
set_option maxRecDepth 20000 in
theorem gX2_watchers_X2_seenFrom : GoodIn wsX2_watchers (wsV RX2 129 RX2 yX2_seenFrom wsX2_seenFrom) := goodIn_app (goodIn_of _ (by decide +kernel)) ggX2_watchers_X2_seenFrom
set_option maxRecDepth 20000 in
theorem ggX2_seenFrom_X10_holds : GoodIn wsX2_seenFrom wsX10_holds := goodIn_r _ [5] (by decide +kernel) (by decide +kernel)
set_option maxRecDepth 20000 in
theorem gX2_seenFrom_X10_holds_n114 : GoodIn wsX2_seenFrom (wsX10_holds) := ggX2_seenFrom_X10_holds
set_option maxRecDepth 20000 in
theorem ggX3_settle_X1_seatedIn : GoodIn wsX3_settle wsX1_seatedIn := goodIn_r _ [16, 17, 18, 19, 20, 21, 15, 22, 23, 24, 25, 26, 27, 56, 57, 58, 59, 60, 61, 62, 63, 64, 65, 66, 67, 68, 69, 70, 71] (by decide +kernel) (by decide +kernel)
set_option maxRecDepth 20000 in
theorem gX3_settle_X1_seatedIn : GoodIn wsX3_settle (wsV RX3 51 RX1 yX1_seatedIn wsX1_seatedIn) := goodIn_app (goodIn_of _ (by decide +kernel)) ggX3_settle_X1_seatedIn
set_option maxRecDepth 20000 in
theorem ggX3_settle_J6_bitCount_0f7a4 : GoodIn wsX3_settle wsJ6_bitCount_0f7a4 := goodIn_r _ [31, 32, 33, 34] (by decide +kernel) (by decide +kernel)
set_option maxRecDepth 20000 in
theorem gX3_settle_J6_bitCount_0f7a4 : GoodIn wsX3_settle (va_wsS RX3 55 yJ6_bitCount_0f7a4 wsJ6_bitCount_0f7a4) := goodIn_app (goodIn_of _ (by decide +kernel)) ggX3_settle_J6_bitCount_0f7a4
set_option maxRecDepth 20000 in
theorem ggX3_settle_X1_sits : GoodIn wsX3_settle wsX1_sits := goodIn_r _ [27, 23, 56, 57, 58, 59] (by decide +kernel) (by decide +kernel)
set_option maxRecDepth 20000 in
theorem gX3_settle_X1_sits : GoodIn wsX3_settle (wsV RX3 60 RX1 yX1_sits wsX1_sits) := goodIn_app (goodIn_of _ (by decide +kernel)) ggX3_settle_X1_sits
set_option maxRecDepth 20000 in
theorem ggX3_settle_X1_isCaught : GoodIn wsX3_settle wsX1_isCaught := goodIn_r _ [22, 23, 56, 57, 58, 59] (by decide +kernel) (by decide +kernel)
set_option maxRecDepth 20000 in
theorem gX3_settle_X1_isCaught : GoodIn wsX3_settle (wsV RX3 62 RX1 yX1_isCaught wsX1_isCaught) := goodIn_app (goodIn_of _ (by decide +kernel)) ggX3_settle_X1_isCaught
set_option maxRecDepth 20000 in
theorem ggX3_settle_X3_formsFor : GoodIn wsX3_settle wsX3_formsFor := goodIn_r _ [41, 5, 7, 8, 42, 43, 44, 40, 45, 6, 46, 47, 48, 49, 9, 10, 50, 51, 52, 53, 54, 55, 72, 73, 74, 75, 76, 77, 78, 79, 80, 81, 82, 83, 84] (by decide +kernel) (by decide +kernel)
set_option maxRecDepth 20000 in
theorem gX3_settle_X3_formsFor : GoodIn wsX3_settle (wsV RX3 66 RX3 yX3_formsFor wsX3_formsFor) := goodIn_app (goodIn_of _ (by decide +kernel)) ggX3_settle_X3_formsFor
set_option maxRecDepth 20000 in
theorem ggX3_formsFor_X3_allRight : GoodIn wsX3_formsFor wsX3_allRight := goodIn_r _ [8, 1, 9, 10, 11, 12, 7, 13, 14, 15, 16, 17, 18, 19, 20, 21, 22, 23, 24, 25, 26, 27, 28, 29, 30, 31, 32, 33, 34] (by decide +kernel) (by decide +kernel)
set_option maxRecDepth 20000 in
theorem gX3_formsFor_X3_allRight : GoodIn wsX3_formsFor (wsV RX3 69 RX3 yX3_allRight wsX3_allRight) := goodIn_app (goodIn_of _ (by decide +kernel)) ggX3_formsFor_X3_allRight
set_option maxRecDepth 20000 in
theorem ggX3_allRight_X3_seatedThen : GoodIn wsX3_allRight wsX3_seatedThen := goodIn_r _ [7, 8, 9, 16, 17, 18, 19, 20, 21, 22, 23, 24, 25, 26] (by decide +kernel) (by decide +kernel)
set_option maxRecDepth 20000 in
theorem gX3_allRight_X3_seatedThen : GoodIn wsX3_allRight (wsV RX3 73 RX3 yX3_seatedThen wsX3_seatedThen) := goodIn_app (goodIn_of _ (by decide +kernel)) ggX3_allRight_X3_seatedThen
set_option maxRecDepth 20000 in
theorem ggX3_allRight_X0_agrees : GoodIn wsX3_allRight wsX0_agrees := goodIn_r _ [14, 15, 27, 28] (by decide +kernel) (by decide +kernel)
set_option maxRecDepth 20000 in
theorem gX3_allRight_X0_agrees : GoodIn wsX3_allRight (wsV RX3 77 RX0 yX0_agrees wsX0_agrees) := goodIn_app (goodIn_of _ (by decide +kernel)) ggX3_allRight_X0_agrees
set_option maxRecDepth 20000 in
theorem ggX3_lookAhead_X0_tells : GoodIn wsX3_lookAhead wsX0_tells := goodIn_r _ [9, 10, 49, 50] (by decide +kernel) (by decide +kernel)
set_option maxRecDepth 20000 in
theorem gX3_lookAhead_X0_tells : GoodIn wsX3_lookAhead (wsV RX3 88 RX0 yX0_tells wsX0_tells) := goodIn_app (goodIn_of _ (by decide +kernel)) ggX3_lookAhead_X0_tells
set_option maxRecDepth 20000 in
theorem ggX3_lookAhead_X3_worstAt : GoodIn wsX3_lookAhead wsX3_worstAt := goodIn_r _ [15, 16, 17, 3, 18, 19, 20, 21, 22, 23, 24, 25, 26, 27, 28, 14, 29, 30, 31, 32, 33, 34, 35, 36, 37, 38, 39, 40, 41, 42, 43, 44, 45, 46, 47, 48] (by decide +kernel) (by decide +kernel)
set_option maxRecDepth 20000 in
theorem gX3_lookAhead_X3_worstAt : GoodIn wsX3_lookAhead (wsV RX3 91 RX3 yX3_worstAt wsX3_worstAt) := goodIn_app (goodIn_of _ (by decide +kernel)) ggX3_lookAhead_X3_worstAt
set_option maxRecDepth 20000 in
theorem ggX3_worstAt_X10_holds : GoodIn wsX3_worstAt wsX10_holds := goodIn_r _ [11] (by decide +kernel) (by decide +kernel)
set_option maxRecDepth 20000 in
theorem gX3_worstAt_X10_holds_n94 : GoodIn wsX3_worstAt (wsX10_holds) := ggX3_worstAt_X10_holds
set_option maxRecDepth 20000 in
theorem ggX3_worstAt_X3_seatedThen : GoodIn wsX3_worstAt wsX3_seatedThen := goodIn_r _ [16, 17, 18, 25, 26, 27, 28, 29, 30, 31, 32, 33, 34, 35] (by decide +kernel) (by decide +kernel)
set_option maxRecDepth 20000 in
theorem gX3_worstAt_X3_seatedThen : GoodIn wsX3_worstAt (wsV RX3 73 RX3 yX3_seatedThen wsX3_seatedThen) := goodIn_app (goodIn_of _ (by decide +kernel)) ggX3_worstAt_X3_seatedThen
set_option maxRecDepth 20000 in
theorem ggX3_worstAt_X3_tallied : GoodIn wsX3_worstAt wsX3_tallied := goodIn_r _ [22, 1, 23, 10, 24, 25, 26, 27, 28, 29, 30, 31, 32, 33, 34, 35] (by decide +kernel) (by decide +kernel)
set_option maxRecDepth 20000 in
theorem gX3_worstAt_X3_tallied : GoodIn wsX3_worstAt (wsV RX3 97 RX3 yX3_tallied wsX3_tallied) := goodIn_app (goodIn_of _ (by decide +kernel)) ggX3_worstAt_X3_tallied
set_option maxRecDepth 20000 in
theorem ggX3_tallied_X10_within : GoodIn wsX3_tallied wsX10_within := goodIn_r _ [4] (by decide +kernel) (by decide +kernel)
set_option maxRecDepth 20000 in
theorem gX3_tallied_X10_within_n106 : GoodIn wsX3_tallied (wsX10_within) := ggX3_tallied_X10_within
set_option maxRecDepth 20000 in
theorem ggX4_init_X4_setPlain : GoodIn wsX4_init wsX4_setPlain := goodIn_r _ [13, 14, 15, 16, 17, 12, 18, 5, 6, 19, 20, 21, 22, 23] (by decide +kernel) (by decide +kernel)
set_option maxRecDepth 20000 in
theorem gX4_init_X4_setPlain : GoodIn wsX4_init (wsV RX4 24 RX4 yX4_setPlain wsX4_setPlain) := goodIn_app (goodIn_of _ (by decide +kernel)) ggX4_init_X4_setPlain
set_option maxRecDepth 20000 in
theorem ggX4_setPlain_X4_add : GoodIn wsX4_setPlain wsX4_add := goodIn_r _ [6, 1, 7, 8, 9, 10, 11, 12, 13] (by decide +kernel) (by decide +kernel)
set_option maxRecDepth 20000 in
theorem gX4_setPlain_X4_add : GoodIn wsX4_setPlain (wsV RX4 31 RX4 yX4_add wsX4_add) := goodIn_app (goodIn_of _ (by decide +kernel)) ggX4_setPlain_X4_add
set_option maxRecDepth 20000 in
theorem ggX4_readFrom_X4_readSum : GoodIn wsX4_readFrom wsX4_readSum := goodIn_r _ [6, 7, 8, 9, 5, 10, 11, 12, 13, 14, 15, 16, 17, 18, 19, 20, 21, 22, 23, 24, 25, 26, 27, 28, 29, 30, 31, 32, 1, 33, 34, 35, 36, 37, 38, 39, 40, 41, 42, 43, 44, 2, 3, 4, 45, 46, 47, 48, 49, 50, 51, 52, 53, 54, 55, 56, 57, 58, 59, 60, 61, 62, 63, 64, 65, 66, 67, 68, 69, 70, 71, 72, 73, 74, 75, 76, 77, 78, 79, 80, 81, 82, 83, 84, 85, 86, 87, 88, 89, 90, 91, 92, 93, 94, 95, 96, 97, 98, 99, 100, 101, 102, 103, 104, 105, 106, 107, 108, 109, 110, 111, 112, 113, 114, 115, 116, 117, 118, 119, 120, 121, 122, 123, 124, 125, 126, 127, 128, 129, 130, 131, 132, 133, 134, 135, 136, 137, 138, 139, 140, 141, 142, 143, 144, 145, 146, 147, 161, 162, 163, 164, 165, 166, 167, 156, 157, 158, 159, 160] (by decide +kernel) (by decide +kernel)
set_option maxRecDepth 20000 in
theorem gX4_readFrom_X4_readSum : GoodIn wsX4_readFrom (wsV RX4 35 RX4 yX4_readSum wsX4_readSum) := goodIn_app (goodIn_of _ (by decide +kernel)) ggX4_readFrom_X4_readSum
set_option maxRecDepth 20000 in
theorem ggX4_readFrom_X8_needsEnd : GoodIn wsX4_readFrom wsX8_needsEnd := goodIn_r _ [151, 152, 153, 154, 13, 155, 20, 21, 24, 25, 26, 27, 22, 50, 51, 52, 53, 40, 41, 42, 43, 15, 44, 161, 162, 163, 164, 165, 166, 167] (by decide +kernel) (by decide +kernel)
set_option maxRecDepth 20000 in
theorem gX4_readFrom_X8_needsEnd : GoodIn wsX4_readFrom (wsV RX4 39 RX8 yX8_needsEnd wsX8_needsEnd) := goodIn_app (goodIn_of _ (by decide +kernel)) ggX4_readFrom_X8_needsEnd
set_option maxRecDepth 20000 in
theorem ggX4_readSum_X4_readProduct : GoodIn wsX4_readSum wsX4_readProduct := goodIn_r _ [54, 55, 56, 57, 4, 5, 6, 7, 8, 9, 10, 11, 12, 13, 14, 15, 16, 17, 18, 19, 20, 21, 22, 23, 24, 25, 26, 27, 28, 29, 30, 31, 32, 33, 34, 35, 36, 37, 38, 39, 40, 41, 42, 43, 44, 45, 46, 47, 48, 49, 50, 51, 52, 53, 0, 1, 2, 3, 58, 59, 60, 61, 62, 63, 64, 65, 66, 67, 68, 69, 70, 71, 72, 73, 74, 75, 76, 77, 78, 79, 80, 81, 82, 83, 84, 85, 86, 87, 88, 89, 90, 91, 92, 93, 94, 95, 96, 97, 98, 99, 100, 101, 102, 103, 104, 105, 106, 107, 108, 109, 110, 111, 112, 113, 114, 115, 116, 117, 118, 119, 120, 121, 122, 123, 124, 125, 126, 127, 128, 129, 130, 131, 132, 133, 134, 135, 136, 137, 138, 139, 140, 141, 142, 143, 144, 145, 146, 147, 148, 149, 150, 151, 152, 153, 154, 155, 156, 157, 158] (by decide +kernel) (by decide +kernel)
set_option maxRecDepth 20000 in
theorem gX4_readSum_X4_readProduct : GoodIn wsX4_readSum (wsV RX4 44 RX4 yX4_readProduct wsX4_readProduct) := goodIn_app (goodIn_of _ (by decide +kernel)) ggX4_readSum_X4_readProduct
set_option maxRecDepth 20000 in
theorem ggX4_readSum_X8_isFaulty : GoodIn wsX4_readSum wsX8_isFaulty := goodIn_r _ [9, 10, 147, 148, 149, 150, 151, 152, 153] (by decide +kernel) (by decide +kernel)
set_option maxRecDepth 20000 in
theorem gX4_readSum_X8_isFaulty : GoodIn wsX4_readSum (wsV RX4 47 RX8 yX8_isFaulty wsX8_isFaulty) := goodIn_app (goodIn_of _ (by decide +kernel)) ggX4_readSum_X8_isFaulty
set_option maxRecDepth 20000 in
theorem ggX4_readSum_X8_takes : GoodIn wsX4_readSum wsX8_takes := goodIn_r _ [14, 15, 16, 17, 18, 19, 20, 21, 8, 22, 23, 6, 7, 9, 10, 147, 148, 149, 150, 151, 152, 153] (by decide +kernel) (by decide +kernel)
set_option maxRecDepth 20000 in
theorem gX4_readSum_X8_takes : GoodIn wsX4_readSum (wsV RX4 51 RX8 yX8_takes wsX8_takes) := goodIn_app (goodIn_of _ (by decide +kernel)) ggX4_readSum_X8_takes
set_option maxRecDepth 20000 in
theorem ggX4_readSum_X4_add : GoodIn wsX4_readSum wsX4_add := goodIn_r _ [27, 28, 29, 30, 154, 155, 156, 157, 158] (by decide +kernel) (by decide +kernel)
set_option maxRecDepth 20000 in
theorem gX4_readSum_X4_add : GoodIn wsX4_readSum (wsV RX4 31 RX4 yX4_add wsX4_add) := goodIn_app (goodIn_of _ (by decide +kernel)) ggX4_readSum_X4_add
set_option maxRecDepth 20000 in
theorem ggX4_readProduct_X4_readUnit : GoodIn wsX4_readProduct wsX4_readUnit := goodIn_r _ [58, 59, 60, 61, 8, 62, 15, 19, 20, 21, 22, 16, 17, 63, 64, 65, 66, 67, 68, 69, 70, 18, 71, 72, 73, 74, 75, 36, 37, 38, 39, 10, 40, 23, 6, 7, 9, 76, 77, 78, 24, 25, 26, 4, 27, 28, 29, 30, 11, 12, 13, 14, 79, 80, 81, 82, 83, 84, 85, 86, 87, 88, 89, 90, 91, 92, 93, 94, 95, 96, 97, 98, 99, 100, 101, 102, 103, 104, 105, 106, 107, 108, 109, 110, 111, 112, 113, 114, 115, 116, 117, 118, 119, 120, 121, 122, 123, 124, 125, 126, 127, 128, 129, 130, 131, 132, 133, 134, 135, 136, 137, 138, 139, 140, 141, 142, 143, 144, 145, 146, 50, 51, 52, 31, 32, 33, 34, 35, 41, 42, 43, 44, 45, 46, 47, 48, 49, 53, 0, 1, 2, 3, 5, 54, 55, 56, 57, 147, 148, 149, 150, 151, 152, 153, 154, 155, 156, 157, 158] (by decide +kernel) (by decide +kernel)
set_option maxRecDepth 20000 in
theorem gX4_readProduct_X4_readUnit : GoodIn wsX4_readProduct (wsV RX4 55 RX4 yX4_readUnit wsX4_readUnit) := goodIn_app (goodIn_of _ (by decide +kernel)) ggX4_readProduct_X4_readUnit
set_option maxRecDepth 20000 in
theorem ggX4_readProduct_X8_isFaulty : GoodIn wsX4_readProduct wsX8_isFaulty := goodIn_r _ [9, 10, 147, 148, 149, 150, 151, 152, 153] (by decide +kernel) (by decide +kernel)
set_option maxRecDepth 20000 in
theorem gX4_readProduct_X8_isFaulty : GoodIn wsX4_readProduct (wsV RX4 47 RX8 yX8_isFaulty wsX8_isFaulty) := goodIn_app (goodIn_of _ (by decide +kernel)) ggX4_readProduct_X8_isFaulty
set_option maxRecDepth 20000 in
theorem ggX4_readProduct_X8_takes : GoodIn wsX4_readProduct wsX8_takes := goodIn_r _ [14, 15, 16, 17, 18, 19, 20, 21, 8, 22, 23, 6, 7, 9, 10, 147, 148, 149, 150, 151, 152, 153] (by decide +kernel) (by decide +kernel)
set_option maxRecDepth 20000 in
theorem gX4_readProduct_X8_takes : GoodIn wsX4_readProduct (wsV RX4 51 RX8 yX8_takes wsX8_takes) := goodIn_app (goodIn_of _ (by decide +kernel)) ggX4_readProduct_X8_takes
set_option maxRecDepth 20000 in
theorem ggX4_readProduct_X4_add : GoodIn wsX4_readProduct wsX4_add := goodIn_r _ [27, 28, 29, 30, 154, 155, 156, 157, 158] (by decide +kernel) (by decide +kernel)
set_option maxRecDepth 20000 in
theorem gX4_readProduct_X4_add : GoodIn wsX4_readProduct (wsV RX4 31 RX4 yX4_add wsX4_add) := goodIn_app (goodIn_of _ (by decide +kernel)) ggX4_readProduct_X4_add
set_option maxRecDepth 20000 in
theorem ggX4_readUnit_X8_seesDigit : GoodIn wsX4_readUnit wsX8_seesDigit := goodIn_r _ [5, 6, 7, 8, 9, 4, 10, 11, 12, 13, 14, 15, 16, 147, 148, 149, 150, 151, 152, 153] (by decide +kernel) (by decide +kernel)
set_option maxRecDepth 20000 in
theorem gX4_readUnit_X8_seesDigit : GoodIn wsX4_readUnit (wsV RX4 58 RX8 yX8_seesDigit wsX8_seesDigit) := goodIn_app (goodIn_of _ (by decide +kernel)) ggX4_readUnit_X8_seesDigit
set_option maxRecDepth 20000 in
theorem ggX4_readUnit_X8_number : GoodIn wsX4_readUnit wsX8_number := goodIn_r _ [20, 6, 21, 11, 22, 23, 24, 25, 26, 7, 8, 9, 4, 10, 12, 13, 14, 15, 16, 27, 28, 29, 30, 31, 32, 33, 34, 35, 36, 37, 38, 39, 147, 148, 149, 150, 151, 152, 153] (by decide +kernel) (by decide +kernel)
set_option maxRecDepth 20000 in
theorem gX4_readUnit_X8_number : GoodIn wsX4_readUnit (wsV RX4 61 RX8 yX8_number wsX8_number) := goodIn_app (goodIn_of _ (by decide +kernel)) ggX4_readUnit_X8_number
set_option maxRecDepth 20000 in
theorem ggX4_readUnit_X4_add : GoodIn wsX4_readUnit wsX4_add := goodIn_r _ [44, 45, 46, 47, 154, 155, 156, 157, 158] (by decide +kernel) (by decide +kernel)
set_option maxRecDepth 20000 in
theorem gX4_readUnit_X4_add : GoodIn wsX4_readUnit (wsV RX4 31 RX4 yX4_add wsX4_add) := goodIn_app (goodIn_of _ (by decide +kernel)) ggX4_readUnit_X4_add
set_option maxRecDepth 20000 in
theorem ggX4_readUnit_X8_takes : GoodIn wsX4_readUnit wsX8_takes := goodIn_r _ [51, 6, 11, 12, 21, 7, 8, 9, 4, 10, 33, 34, 35, 36, 31, 147, 148, 149, 150, 151, 152, 153] (by decide +kernel) (by decide +kernel)
set_option maxRecDepth 20000 in
theorem gX4_readUnit_X8_takes : GoodIn wsX4_readUnit (wsV RX4 51 RX8 yX8_takes wsX8_takes) := goodIn_app (goodIn_of _ (by decide +kernel)) ggX4_readUnit_X8_takes
set_option maxRecDepth 20000 in
theorem ggX4_readUnit_X4_readInner : GoodIn wsX4_readUnit wsX4_readInner := goodIn_r _ [123, 124, 125, 126, 4, 127, 21, 27, 28, 29, 30, 31, 32, 128, 129, 130, 43, 131, 132, 133, 134, 135, 49, 50, 51, 6, 11, 12, 7, 8, 9, 10, 33, 34, 35, 36, 136, 120, 121, 122, 137, 40, 41, 42, 44, 45, 46, 47, 138, 139, 140, 141, 142, 48, 143, 144, 145, 146, 0, 1, 2, 3, 5, 13, 14, 15, 16, 17, 18, 19, 20, 22, 23, 24, 25, 26, 37, 38, 39, 52, 53, 54, 55, 56, 57, 58, 59, 60, 61, 62, 63, 64, 65, 66, 67, 68, 69, 70, 71, 72, 73, 74, 75, 76, 77, 78, 79, 80, 81, 82, 83, 84, 85, 86, 87, 88, 89, 90, 91, 92, 93, 94, 95, 96, 97, 98, 99, 100, 101, 102, 103, 104, 105, 106, 107, 108, 109, 110, 111, 112, 113, 114, 115, 116, 117, 118, 119, 147, 148, 149, 150, 151, 152, 153, 154, 155, 156, 157, 158] (by decide +kernel) (by decide +kernel)
set_option maxRecDepth 20000 in
theorem gX4_readUnit_X4_readInner : GoodIn wsX4_readUnit (wsV RX4 65 RX4 yX4_readInner wsX4_readInner) := goodIn_app (goodIn_of _ (by decide +kernel)) ggX4_readUnit_X4_readInner
set_option maxRecDepth 20000 in
theorem ggX4_readUnit_X8_takesWord : GoodIn wsX4_readUnit wsX8_takesWord := goodIn_r _ [58, 6, 11, 12, 21, 7, 8, 9, 4, 10, 59, 60, 61, 62, 63, 64, 65, 66, 67, 68, 69, 70, 33, 34, 35, 36, 31, 71, 72, 73, 74, 75, 76, 77, 78, 79, 80, 81, 82, 83, 84, 85, 86, 87, 88, 89, 90, 91, 92, 93, 94, 95, 96, 97, 98, 99, 100, 101, 102, 103, 104, 105, 106, 107, 108, 109, 110, 111, 147, 148, 149, 150, 151, 152, 153] (by decide +kernel) (by decide +kernel)
set_option maxRecDepth 20000 in
theorem gX4_readUnit_X8_takesWord : GoodIn wsX4_readUnit (wsV RX4 70 RX8 yX8_takesWord wsX8_takesWord) := goodIn_app (goodIn_of _ (by decide +kernel)) ggX4_readUnit_X8_takesWord
set_option maxRecDepth 20000 in
theorem ggX4_readUnit_X4_readPair : GoodIn wsX4_readUnit wsX4_readPair := goodIn_r _ [137, 124, 125, 126, 4, 127, 21, 27, 28, 29, 30, 31, 32, 131, 132, 133, 134, 135, 49, 50, 51, 6, 11, 12, 7, 8, 9, 10, 33, 34, 35, 36, 136, 120, 121, 122, 128, 129, 130, 43, 40, 41, 42, 44, 45, 46, 47, 123, 138, 139, 140, 141, 142, 48, 143, 144, 145, 146, 0, 1, 2, 3, 5, 13, 14, 15, 16, 17, 18, 19, 20, 22, 23, 24, 25, 26, 37, 38, 39, 52, 53, 54, 55, 56, 57, 58, 59, 60, 61, 62, 63, 64, 65, 66, 67, 68, 69, 70, 71, 72, 73, 74, 75, 76, 77, 78, 79, 80, 81, 82, 83, 84, 85, 86, 87, 88, 89, 90, 91, 92, 93, 94, 95, 96, 97, 98, 99, 100, 101, 102, 103, 104, 105, 106, 107, 108, 109, 110, 111, 112, 113, 114, 115, 116, 117, 118, 119, 147, 148, 149, 150, 151, 152, 153, 154, 155, 156, 157, 158] (by decide +kernel) (by decide +kernel)
set_option maxRecDepth 20000 in
theorem gX4_readUnit_X4_readPair : GoodIn wsX4_readUnit (wsV RX4 74 RX4 yX4_readPair wsX4_readPair) := goodIn_app (goodIn_of _ (by decide +kernel)) ggX4_readUnit_X4_readPair
set_option maxRecDepth 20000 in
theorem ggX4_readUnit_X4_readFact : GoodIn wsX4_readUnit wsX4_readFact := goodIn_r _ [118, 55, 56, 57, 4, 58, 6, 11, 12, 21, 7, 8, 9, 10, 59, 60, 61, 62, 63, 64, 65, 66, 67, 68, 69, 70, 33, 34, 35, 36, 31, 71, 72, 73, 74, 75, 76, 77, 78, 79, 80, 81, 82, 83, 84, 85, 86, 87, 88, 89, 90, 91, 92, 93, 94, 95, 96, 97, 98, 99, 100, 101, 102, 103, 104, 105, 106, 107, 108, 109, 110, 111, 40, 41, 42, 43, 44, 45, 46, 47, 119, 120, 121, 122, 27, 28, 29, 30, 32, 147, 148, 149, 150, 151, 152, 153, 154, 155, 156, 157, 158] (by decide +kernel) (by decide +kernel)
set_option maxRecDepth 20000 in
theorem gX4_readUnit_X4_readFact : GoodIn wsX4_readUnit (wsV RX4 80 RX4 yX4_readFact wsX4_readFact) := goodIn_app (goodIn_of _ (by decide +kernel)) ggX4_readUnit_X4_readFact
set_option maxRecDepth 20000 in
theorem ggX4_readInner_X8_blameToken : GoodIn wsX4_readInner wsX8_blameToken := goodIn_r _ [5, 6, 7, 8, 9, 4, 10, 11, 12, 147, 148, 149, 150, 151, 152, 153] (by decide +kernel) (by decide +kernel)
set_option maxRecDepth 20000 in
theorem gX4_readInner_X8_blameToken : GoodIn wsX4_readInner (wsV RX4 84 RX8 yX8_blameToken wsX8_blameToken) := goodIn_app (goodIn_of _ (by decide +kernel)) ggX4_readInner_X8_blameToken
set_option maxRecDepth 20000 in
theorem ggX4_readInner_X4_readSum : GoodIn wsX4_readInner wsX4_readSum := goodIn_r _ [54, 55, 56, 57, 16, 52, 33, 34, 4, 35, 11, 53, 22, 23, 24, 25, 26, 27, 6, 28, 29, 30, 31, 32, 41, 42, 43, 44, 45, 46, 47, 0, 1, 2, 3, 5, 7, 8, 9, 10, 12, 13, 14, 15, 17, 18, 19, 20, 21, 36, 37, 38, 39, 40, 48, 49, 50, 51, 58, 59, 60, 61, 62, 63, 64, 65, 66, 67, 68, 69, 70, 71, 72, 73, 74, 75, 76, 77, 78, 79, 80, 81, 82, 83, 84, 85, 86, 87, 88, 89, 90, 91, 92, 93, 94, 95, 96, 97, 98, 99, 100, 101, 102, 103, 104, 105, 106, 107, 108, 109, 110, 111, 112, 113, 114, 115, 116, 117, 118, 119, 120, 121, 122, 123, 124, 125, 126, 127, 128, 129, 130, 131, 132, 133, 134, 135, 136, 137, 138, 139, 140, 141, 142, 143, 144, 145, 146, 147, 148, 149, 150, 151, 152, 153, 154, 155, 156, 157, 158] (by decide +kernel) (by decide +kernel)
set_option maxRecDepth 20000 in
theorem gX4_readInner_X4_readSum : GoodIn wsX4_readInner (wsV RX4 35 RX4 yX4_readSum wsX4_readSum) := goodIn_app (goodIn_of _ (by decide +kernel)) ggX4_readInner_X4_readSum
set_option maxRecDepth 20000 in
theorem ggX4_readInner_X8_needs : GoodIn wsX4_readInner wsX8_needs := goodIn_r _ [20, 21, 22, 23, 4, 24, 25, 26, 27, 6, 28, 29, 30, 31, 32, 33, 34, 35, 11, 36, 37, 38, 39, 7, 8, 9, 10, 12, 147, 148, 149, 150, 151, 152, 153] (by decide +kernel) (by decide +kernel)
set_option maxRecDepth 20000 in
theorem gX4_readInner_X8_needs : GoodIn wsX4_readInner (wsV RX4 88 RX8 yX8_needs wsX8_needs) := goodIn_app (goodIn_of _ (by decide +kernel)) ggX4_readInner_X8_needs
set_option maxRecDepth 20000 in
theorem ggX4_readPair_X8_blameToken : GoodIn wsX4_readPair wsX8_blameToken := goodIn_r _ [5, 6, 7, 8, 9, 4, 10, 11, 12, 147, 148, 149, 150, 151, 152, 153] (by decide +kernel) (by decide +kernel)
set_option maxRecDepth 20000 in
theorem gX4_readPair_X8_blameToken : GoodIn wsX4_readPair (wsV RX4 84 RX8 yX8_blameToken wsX8_blameToken) := goodIn_app (goodIn_of _ (by decide +kernel)) ggX4_readPair_X8_blameToken
set_option maxRecDepth 20000 in
theorem ggX4_readPair_X8_needs : GoodIn wsX4_readPair wsX8_needs := goodIn_r _ [16, 17, 18, 19, 4, 20, 21, 22, 23, 6, 24, 25, 26, 27, 28, 29, 30, 31, 11, 32, 33, 34, 35, 7, 8, 9, 10, 12, 147, 148, 149, 150, 151, 152, 153] (by decide +kernel) (by decide +kernel)
set_option maxRecDepth 20000 in
theorem gX4_readPair_X8_needs : GoodIn wsX4_readPair (wsV RX4 88 RX8 yX8_needs wsX8_needs) := goodIn_app (goodIn_of _ (by decide +kernel)) ggX4_readPair_X8_needs
set_option maxRecDepth 20000 in
theorem ggX4_readPair_X4_readSum : GoodIn wsX4_readPair wsX4_readSum := goodIn_r _ [54, 55, 56, 57, 39, 52, 29, 30, 4, 31, 11, 53, 18, 19, 20, 21, 22, 23, 6, 24, 25, 26, 27, 28, 40, 41, 42, 43, 44, 45, 46, 47, 1, 2, 3, 5, 7, 8, 9, 10, 12, 36, 37, 38, 13, 14, 15, 16, 17, 32, 33, 34, 35, 0, 48, 49, 50, 51, 58, 59, 60, 61, 62, 63, 64, 65, 66, 67, 68, 69, 70, 71, 72, 73, 74, 75, 76, 77, 78, 79, 80, 81, 82, 83, 84, 85, 86, 87, 88, 89, 90, 91, 92, 93, 94, 95, 96, 97, 98, 99, 100, 101, 102, 103, 104, 105, 106, 107, 108, 109, 110, 111, 112, 113, 114, 115, 116, 117, 118, 119, 120, 121, 122, 123, 124, 125, 126, 127, 128, 129, 130, 131, 132, 133, 134, 135, 136, 137, 138, 139, 140, 141, 142, 143, 144, 145, 146, 147, 148, 149, 150, 151, 152, 153, 154, 155, 156, 157, 158] (by decide +kernel) (by decide +kernel)
set_option maxRecDepth 20000 in
theorem gX4_readPair_X4_readSum : GoodIn wsX4_readPair (wsV RX4 35 RX4 yX4_readSum wsX4_readSum) := goodIn_app (goodIn_of _ (by decide +kernel)) ggX4_readPair_X4_readSum
set_option maxRecDepth 20000 in
theorem ggX4_readPair_X4_add : GoodIn wsX4_readPair wsX4_add := goodIn_r _ [43, 44, 45, 46, 154, 155, 156, 157, 158] (by decide +kernel) (by decide +kernel)
set_option maxRecDepth 20000 in
theorem gX4_readPair_X4_add : GoodIn wsX4_readPair (wsV RX4 31 RX4 yX4_add wsX4_add) := goodIn_app (goodIn_of _ (by decide +kernel)) ggX4_readPair_X4_add
set_option maxRecDepth 20000 in
theorem ggX4_readFact_X8_takesWord : GoodIn wsX4_readFact wsX8_takesWord := goodIn_r _ [5, 6, 7, 8, 9, 10, 11, 12, 4, 13, 14, 15, 16, 17, 18, 19, 20, 21, 22, 23, 24, 25, 26, 27, 28, 29, 30, 31, 32, 33, 34, 35, 36, 37, 38, 39, 40, 41, 42, 43, 44, 45, 46, 47, 48, 49, 50, 51, 52, 53, 54, 55, 56, 57, 58, 59, 60, 61, 62, 63, 64, 65, 66, 67, 68, 69, 70, 71, 89, 90, 91, 92, 93, 94, 95] (by decide +kernel) (by decide +kernel)
set_option maxRecDepth 20000 in
theorem gX4_readFact_X8_takesWord : GoodIn wsX4_readFact (wsV RX4 70 RX8 yX8_takesWord wsX8_takesWord) := goodIn_app (goodIn_of _ (by decide +kernel)) ggX4_readFact_X8_takesWord
set_option maxRecDepth 20000 in
theorem ggX4_readFact_X4_add : GoodIn wsX4_readFact wsX4_add := goodIn_r _ [76, 77, 78, 79, 96, 97, 98, 99, 100] (by decide +kernel) (by decide +kernel)
set_option maxRecDepth 20000 in
theorem gX4_readFact_X4_add : GoodIn wsX4_readFact (wsV RX4 31 RX4 yX4_add wsX4_add) := goodIn_app (goodIn_of _ (by decide +kernel)) ggX4_readFact_X4_add
set_option maxRecDepth 20000 in
theorem ggX4_readFact_X8_blameSign : GoodIn wsX4_readFact wsX8_blameSign := goodIn_r _ [83, 6, 10, 11, 12, 4, 13, 7, 8, 84, 85, 86, 87, 30, 88, 89, 90, 91, 92, 93, 94, 95] (by decide +kernel) (by decide +kernel)
set_option maxRecDepth 20000 in
theorem gX4_readFact_X8_blameSign : GoodIn wsX4_readFact (wsV RX4 108 RX8 yX8_blameSign wsX8_blameSign) := goodIn_app (goodIn_of _ (by decide +kernel)) ggX4_readFact_X8_blameSign
set_option maxRecDepth 20000 in
theorem ggX4_reach_X4_joined : GoodIn wsX4_reach wsX4_joined := goodIn_r _ [16] (by decide +kernel) (by decide +kernel)
set_option maxRecDepth 20000 in
theorem gX4_reach_X4_joined : GoodIn wsX4_reach (va_wsS RX4 111 yX4_joined wsX4_joined) := goodIn_app (goodIn_of _ (by decide +kernel)) ggX4_reach_X4_joined
set_option maxRecDepth 20000 in
theorem ggX6_settle_X6_settleFor : GoodIn wsX6_settle wsX6_settleFor := goodIn_r _ [8, 2, 3, 9, 10, 11, 12, 13, 14, 7, 15, 16, 17, 18, 19, 20, 21, 22, 23, 24, 25, 26, 27, 28, 29, 30, 31, 32, 33, 34, 47, 48, 49, 50, 51, 52, 53, 54, 55, 56, 57, 58, 44, 45, 46] (by decide +kernel) (by decide +kernel)
set_option maxRecDepth 20000 in
theorem gX6_settle_X6_settleFor : GoodIn wsX6_settle (wsV RX6 27 RX6 yX6_settleFor wsX6_settleFor) := goodIn_app (goodIn_of _ (by decide +kernel)) ggX6_settle_X6_settleFor
set_option maxRecDepth 20000 in
theorem ggX6_settle_X6_leastWay : GoodIn wsX6_settle wsX6_leastWay := goodIn_r _ [15, 16, 2, 17, 18, 19, 20, 21, 22, 23, 24, 25, 26, 27, 28, 29, 30, 9, 10, 11, 31, 32, 33, 7, 34, 3, 47, 48, 49, 50, 51, 52, 53, 54, 55, 56, 57, 58, 44, 45, 46] (by decide +kernel) (by decide +kernel)
set_option maxRecDepth 20000 in
theorem gX6_settle_X6_leastWay : GoodIn wsX6_settle (wsV RX6 31 RX6 yX6_leastWay wsX6_leastWay) := goodIn_app (goodIn_of _ (by decide +kernel)) ggX6_settle_X6_leastWay
set_option maxRecDepth 20000 in
theorem ggX6_settle_X6_walk : GoodIn wsX6_settle wsX6_walk := goodIn_r _ [38, 39, 2, 40, 41, 42, 7, 43, 3, 9, 10, 11, 31, 32, 33, 34, 21, 22, 23, 24, 25, 26, 27, 28, 19, 29, 30, 44, 45, 46, 47, 48, 49, 50, 51, 52, 53, 54, 55, 56, 57, 58] (by decide +kernel) (by decide +kernel)
set_option maxRecDepth 20000 in
theorem gX6_settle_X6_walk : GoodIn wsX6_settle (wsV RX6 35 RX6 yX6_walk wsX6_walk) := goodIn_app (goodIn_of _ (by decide +kernel)) ggX6_settle_X6_walk
set_option maxRecDepth 20000 in
theorem ggX6_settleFor_X10_holds : GoodIn wsX6_settleFor wsX10_holds := goodIn_r _ [5] (by decide +kernel) (by decide +kernel)
set_option maxRecDepth 20000 in
theorem gX6_settleFor_X10_holds_n38 : GoodIn wsX6_settleFor (wsX10_holds) := ggX6_settleFor_X10_holds
set_option maxRecDepth 20000 in
theorem ggX6_settleFor_X6_leastWay : GoodIn wsX6_settleFor wsX6_leastWay := goodIn_r _ [10, 11, 1, 12, 13, 14, 15, 16, 17, 18, 19, 20, 21, 22, 23, 24, 25, 3, 4, 5, 26, 27, 28, 9, 29, 2, 30, 31, 32, 33, 34, 35, 36, 37, 38, 39, 40, 41, 42, 43, 44] (by decide +kernel) (by decide +kernel)
set_option maxRecDepth 20000 in
theorem gX6_settleFor_X6_leastWay : GoodIn wsX6_settleFor (wsV RX6 31 RX6 yX6_leastWay wsX6_leastWay) := goodIn_app (goodIn_of _ (by decide +kernel)) ggX6_settleFor_X6_leastWay
set_option maxRecDepth 20000 in
theorem ggX6_leastWay_X2_apart : GoodIn wsX6_leastWay wsX2_apart := goodIn_r _ [11, 12, 13, 14, 5, 15, 16, 26, 27, 28, 29, 30, 31, 32, 33, 34, 35, 36, 37] (by decide +kernel) (by decide +kernel)
set_option maxRecDepth 20000 in
theorem gX6_leastWay_X2_apart : GoodIn wsX6_leastWay (wsV RX6 42 RX2 yX2_apart wsX2_apart) := goodIn_app (goodIn_of _ (by decide +kernel)) ggX6_leastWay_X2_apart
set_option maxRecDepth 20000 in
theorem ggX6_leastWay_X10_holds : GoodIn wsX6_leastWay wsX10_holds := goodIn_r _ [19] (by decide +kernel) (by decide +kernel)
set_option maxRecDepth 20000 in
theorem gX6_leastWay_X10_holds_n38 : GoodIn wsX6_leastWay (wsX10_holds) := ggX6_leastWay_X10_holds
set_option maxRecDepth 20000 in
theorem ggX6_leastWay_X6_wayOver : GoodIn wsX6_leastWay wsX6_wayOver := goodIn_r _ [24, 25, 7, 8, 9, 10, 11, 12, 13, 14, 5, 15, 16, 38, 39, 40, 26, 27, 28, 29, 30, 31, 32, 33, 34, 35, 36, 37] (by decide +kernel) (by decide +kernel)
set_option maxRecDepth 20000 in
theorem gX6_leastWay_X6_wayOver : GoodIn wsX6_leastWay (wsV RX6 49 RX6 yX6_wayOver wsX6_wayOver) := goodIn_app (goodIn_of _ (by decide +kernel)) ggX6_leastWay_X6_wayOver
set_option maxRecDepth 20000 in
theorem ggX6_wayOver_X2_apart : GoodIn wsX6_wayOver wsX2_apart := goodIn_r _ [6, 7, 8, 9, 10, 11, 12, 16, 17, 18, 19, 20, 21, 22, 23, 24, 25, 26, 27] (by decide +kernel) (by decide +kernel)
set_option maxRecDepth 20000 in
theorem gX6_wayOver_X2_apart : GoodIn wsX6_wayOver (wsV RX6 42 RX2 yX2_apart wsX2_apart) := goodIn_app (goodIn_of _ (by decide +kernel)) ggX6_wayOver_X2_apart
set_option maxRecDepth 20000 in
theorem ggX6_walk_X6_firstBest : GoodIn wsX6_walk wsX6_firstBest := goodIn_r _ [7, 8, 2, 9, 10, 11, 12, 13, 14, 6, 15, 16, 17, 18, 19, 20, 21, 22, 23, 24, 25, 26, 27, 28, 29, 30, 31, 32, 33, 34, 35, 36, 37, 38, 39, 40, 41] (by decide +kernel) (by decide +kernel)
set_option maxRecDepth 20000 in
theorem gX6_walk_X6_firstBest : GoodIn wsX6_walk (wsV RX6 58 RX6 yX6_firstBest wsX6_firstBest) := goodIn_app (goodIn_of _ (by decide +kernel)) ggX6_walk_X6_firstBest
set_option maxRecDepth 20000 in
theorem ggX6_firstBest_X10_holds : GoodIn wsX6_firstBest wsX10_holds := goodIn_r _ [5] (by decide +kernel) (by decide +kernel)
set_option maxRecDepth 20000 in
theorem gX6_firstBest_X10_holds_n38 : GoodIn wsX6_firstBest (wsX10_holds) := ggX6_firstBest_X10_holds
set_option maxRecDepth 20000 in
theorem ggX6_firstBest_X6_wayOver : GoodIn wsX6_firstBest wsX6_wayOver := goodIn_r _ [10, 1, 11, 12, 13, 14, 15, 16, 17, 18, 19, 20, 21, 22, 23, 24, 25, 26, 27, 28, 29, 30, 31, 32, 33, 34, 35, 36] (by decide +kernel) (by decide +kernel)
set_option maxRecDepth 20000 in
theorem gX6_firstBest_X6_wayOver : GoodIn wsX6_firstBest (wsV RX6 49 RX6 yX6_wayOver wsX6_wayOver) := goodIn_app (goodIn_of _ (by decide +kernel)) ggX6_firstBest_X6_wayOver
set_option maxRecDepth 20000 in
theorem ggX7_settle_X7_allowedTo : GoodIn wsX7_settle wsX7_allowedTo := goodIn_r _ [11, 1, 12, 13, 14, 15, 16, 17, 18, 19, 20, 21, 22, 23, 24, 25, 26, 27, 28, 29, 30, 31, 32, 33, 34, 35, 36, 37, 38, 39, 40, 41, 42, 43, 44, 45, 46, 47, 48, 49, 50, 51, 52, 53, 54, 55, 56, 57, 58, 59, 60, 61, 62, 63, 64, 65, 66, 67, 68, 69, 70, 71, 72, 73, 74, 75, 76, 77, 78, 79, 80, 81, 82, 83, 84, 85, 86, 87, 88, 89, 90, 91, 92, 93, 94, 95, 96, 97, 98, 99, 100, 101, 102, 103, 104, 105, 106, 107, 108, 109, 110, 111, 112, 113, 114, 115, 116, 138, 139, 140, 141, 142, 143, 144, 145, 146, 147, 148, 149, 150, 151, 152, 153, 158, 159, 160, 161, 162] (by decide +kernel) (by decide +kernel)
set_option maxRecDepth 20000 in
theorem gX7_settle_X7_allowedTo : GoodIn wsX7_settle (wsV RX7 36 RX7 yX7_allowedTo wsX7_allowedTo) := goodIn_app (goodIn_of _ (by decide +kernel)) ggX7_settle_X7_allowedTo
set_option maxRecDepth 20000 in
theorem ggX7_settle_X7_mostFrom : GoodIn wsX7_settle wsX7_mostFrom := goodIn_r _ [120, 5, 121, 97, 94, 98, 122, 123, 124, 10, 125, 4, 126, 127, 128, 154, 155, 156, 157] (by decide +kernel) (by decide +kernel)
set_option maxRecDepth 20000 in
theorem gX7_settle_X7_mostFrom : GoodIn wsX7_settle (wsV RX7 40 RX7 yX7_mostFrom wsX7_mostFrom) := goodIn_app (goodIn_of _ (by decide +kernel)) ggX7_settle_X7_mostFrom
set_option maxRecDepth 20000 in
theorem ggX7_settle_X7_give : GoodIn wsX7_settle wsX7_give := goodIn_r _ [132, 133, 134, 135, 136, 10, 137, 5, 4, 126, 127, 128, 122, 123, 124, 125, 154, 155, 156, 157] (by decide +kernel) (by decide +kernel)
set_option maxRecDepth 20000 in
theorem gX7_settle_X7_give : GoodIn wsX7_settle (wsV RX7 47 RX7 yX7_give wsX7_give) := goodIn_app (goodIn_of _ (by decide +kernel)) ggX7_settle_X7_give
set_option maxRecDepth 20000 in
theorem ggX7_allowedTo_X1_isCaught : GoodIn wsX7_allowedTo wsX1_isCaught := goodIn_r _ [7, 8, 107, 108, 109, 110] (by decide +kernel) (by decide +kernel)
set_option maxRecDepth 20000 in
theorem gX7_allowedTo_X1_isCaught : GoodIn wsX7_allowedTo (wsV RX7 51 RX1 yX1_isCaught wsX1_isCaught) := goodIn_app (goodIn_of _ (by decide +kernel)) ggX7_allowedTo_X1_isCaught
set_option maxRecDepth 20000 in
theorem ggX7_allowedTo_X1_leapable : GoodIn wsX7_allowedTo wsX1_leapable := goodIn_r _ [12, 13, 14, 4, 5, 6, 7, 8, 15, 16, 17, 18, 19, 20, 21, 22, 23, 24, 25, 26, 27, 28, 29, 30, 31, 32, 33, 34, 35, 36, 37, 38, 39, 40, 41, 42, 43, 44, 45, 46, 47, 48, 49, 50, 51, 52, 53, 54, 55, 56, 57, 58, 59, 60, 61, 62, 63, 64, 65, 66, 67, 68, 69, 70, 71, 72, 73, 74, 75, 76, 77, 78, 79, 80, 81, 82, 83, 84, 85, 86, 87, 88, 89, 90, 91, 92, 93, 94, 95, 96, 97, 98, 99, 100, 101, 102, 103, 104, 105, 107, 108, 109, 110, 111, 112, 113, 114, 115, 116, 117, 118, 119, 120, 121, 122, 123, 124, 125, 126, 127] (by decide +kernel) (by decide +kernel)
set_option maxRecDepth 20000 in
theorem gX7_allowedTo_X1_leapable : GoodIn wsX7_allowedTo (wsV RX7 55 RX1 yX1_leapable wsX1_leapable) := goodIn_app (goodIn_of _ (by decide +kernel)) ggX7_allowedTo_X1_leapable
set_option maxRecDepth 20000 in
theorem ggX7_allowedTo_X1_sits : GoodIn wsX7_allowedTo wsX1_sits := goodIn_r _ [18, 8, 107, 108, 109, 110] (by decide +kernel) (by decide +kernel)
set_option maxRecDepth 20000 in
theorem gX7_allowedTo_X1_sits : GoodIn wsX7_allowedTo (wsV RX7 59 RX1 yX1_sits wsX1_sits) := goodIn_app (goodIn_of _ (by decide +kernel)) ggX7_allowedTo_X1_sits
set_option maxRecDepth 20000 in
theorem ggX7_mostFrom_X7_mostBehind : GoodIn wsX7_mostFrom wsX7_mostBehind := goodIn_r _ [10, 11, 15, 16, 17, 18] (by decide +kernel) (by decide +kernel)
set_option maxRecDepth 20000 in
theorem gX7_mostFrom_X7_mostBehind : GoodIn wsX7_mostFrom (wsV RX7 65 RX7 yX7_mostBehind wsX7_mostBehind) := goodIn_app (goodIn_of _ (by decide +kernel)) ggX7_mostFrom_X7_mostBehind
set_option maxRecDepth 20000 in
theorem ggX7_mostFrom_X10_holds : GoodIn wsX7_mostFrom wsX10_holds := goodIn_r _ [14] (by decide +kernel) (by decide +kernel)
set_option maxRecDepth 20000 in
theorem gX7_mostFrom_X10_holds_n68 : GoodIn wsX7_mostFrom (wsX10_holds) := ggX7_mostFrom_X10_holds
set_option maxRecDepth 20000 in
theorem ggX7_give_X7_firstBest : GoodIn wsX7_give wsX7_firstBest := goodIn_r _ [6, 7, 8, 9, 10, 11, 12, 13, 14, 5, 15, 16, 17, 18, 19] (by decide +kernel) (by decide +kernel)
set_option maxRecDepth 20000 in
theorem gX7_give_X7_firstBest : GoodIn wsX7_give (wsV RX7 77 RX7 yX7_firstBest wsX7_firstBest) := goodIn_app (goodIn_of _ (by decide +kernel)) ggX7_give_X7_firstBest
set_option maxRecDepth 20000 in
theorem ggX7_firstBest_X10_holds : GoodIn wsX7_firstBest wsX10_holds := goodIn_r _ [5] (by decide +kernel) (by decide +kernel)
set_option maxRecDepth 20000 in
theorem gX7_firstBest_X10_holds_n68 : GoodIn wsX7_firstBest (wsX10_holds) := ggX7_firstBest_X10_holds
set_option maxRecDepth 20000 in
theorem ggX7_firstBest_X7_mostBehind : GoodIn wsX7_firstBest wsX7_mostBehind := goodIn_r _ [10, 2, 11, 12, 13, 14] (by decide +kernel) (by decide +kernel)
set_option maxRecDepth 20000 in
theorem gX7_firstBest_X7_mostBehind : GoodIn wsX7_firstBest (wsV RX7 65 RX7 yX7_mostBehind wsX7_mostBehind) := goodIn_app (goodIn_of _ (by decide +kernel)) ggX7_firstBest_X7_mostBehind
set_option maxRecDepth 20000 in
theorem ggX8_blameSign_X8_skipBlanks : GoodIn wsX8_blameSign wsX8_skipBlanks := goodIn_r _ [6, 1, 7, 8, 15, 16, 17, 18, 19, 20, 21] (by decide +kernel) (by decide +kernel)
set_option maxRecDepth 20000 in
theorem gX8_blameSign_X8_skipBlanks : GoodIn wsX8_blameSign (wsV RX8 40 RX8 yX8_skipBlanks wsX8_skipBlanks) := goodIn_app (goodIn_of _ (by decide +kernel)) ggX8_blameSign_X8_skipBlanks
set_option maxRecDepth 20000 in
theorem ggX8_blameSign_X8_blame : GoodIn wsX8_blameSign wsX8_blame := goodIn_r _ [12, 13, 14, 15, 16, 17, 18, 19, 20, 21] (by decide +kernel) (by decide +kernel)
set_option maxRecDepth 20000 in
theorem gX8_blameSign_X8_blame : GoodIn wsX8_blameSign (wsV RX8 43 RX8 yX8_blame wsX8_blame) := goodIn_app (goodIn_of _ (by decide +kernel)) ggX8_blameSign_X8_blame
