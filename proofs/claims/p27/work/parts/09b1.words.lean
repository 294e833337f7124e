set_option maxRecDepth 20000 in
theorem ggX8_blameToken_X8_blame : GoodIn wsX8_blameToken wsX8_blame := goodIn_r _ [6, 7, 8, 9, 10, 11, 12, 13, 14, 15] (by decide +kernel) (by decide +kernel)
set_option maxRecDepth 20000 in
theorem gX8_blameToken_X8_blame : GoodIn wsX8_blameToken (wsV RX8 43 RX8 yX8_blame wsX8_blame) := goodIn_app (goodIn_of _ (by decide +kernel)) ggX8_blameToken_X8_blame
set_option maxRecDepth 20000 in
theorem ggX8_isEnded_X8_skipBlanks : GoodIn wsX8_isEnded wsX8_skipBlanks := goodIn_r _ [7, 1, 2, 8, 9, 10, 11, 12, 13, 14, 15] (by decide +kernel) (by decide +kernel)
set_option maxRecDepth 20000 in
theorem gX8_isEnded_X8_skipBlanks : GoodIn wsX8_isEnded (wsV RX8 40 RX8 yX8_skipBlanks wsX8_skipBlanks) := goodIn_app (goodIn_of _ (by decide +kernel)) ggX8_isEnded_X8_skipBlanks
set_option maxRecDepth 20000 in
theorem ggX8_seesDigit_X8_skipBlanks : GoodIn wsX8_seesDigit wsX8_skipBlanks := goodIn_r _ [6, 1, 7, 8, 13, 14, 15, 16, 17, 18, 19] (by decide +kernel) (by decide +kernel)
set_option maxRecDepth 20000 in
theorem gX8_seesDigit_X8_skipBlanks : GoodIn wsX8_seesDigit (wsV RX8 40 RX8 yX8_skipBlanks wsX8_skipBlanks) := goodIn_app (goodIn_of _ (by decide +kernel)) ggX8_seesDigit_X8_skipBlanks
set_option maxRecDepth 20000 in
theorem ggX8_seesDigit_X8_digitAt : GoodIn wsX8_seesDigit wsX8_digitAt := goodIn_r _ [12, 7, 8, 13, 14, 15, 16, 17, 18, 19] (by decide +kernel) (by decide +kernel)
set_option maxRecDepth 20000 in
theorem gX8_seesDigit_X8_digitAt : GoodIn wsX8_seesDigit (wsV RX8 47 RX8 yX8_digitAt wsX8_digitAt) := goodIn_app (goodIn_of _ (by decide +kernel)) ggX8_seesDigit_X8_digitAt
set_option maxRecDepth 20000 in
theorem ggX8_takes_X8_skipBlanks : GoodIn wsX8_takes wsX8_skipBlanks := goodIn_r _ [9, 1, 2, 3, 15, 16, 17, 18, 19, 20, 21] (by decide +kernel) (by decide +kernel)
set_option maxRecDepth 20000 in
theorem gX8_takes_X8_skipBlanks : GoodIn wsX8_takes (wsV RX8 40 RX8 yX8_skipBlanks wsX8_skipBlanks) := goodIn_app (goodIn_of _ (by decide +kernel)) ggX8_takes_X8_skipBlanks
set_option maxRecDepth 20000 in
theorem ggX8_takes_X8_isFaulty : GoodIn wsX8_takes wsX8_isFaulty := goodIn_r _ [13, 14, 15, 16, 17, 18, 19, 20, 21] (by decide +kernel) (by decide +kernel)
set_option maxRecDepth 20000 in
theorem gX8_takes_X8_isFaulty : GoodIn wsX8_takes (wsV RX8 51 RX8 yX8_isFaulty wsX8_isFaulty) := goodIn_app (goodIn_of _ (by decide +kernel)) ggX8_takes_X8_isFaulty
set_option maxRecDepth 20000 in
theorem ggX8_needs_X8_takes : GoodIn wsX8_needs wsX8_takes := goodIn_r _ [5, 6, 7, 8, 9, 10, 11, 12, 4, 13, 14, 15, 16, 17, 18, 28, 29, 30, 31, 32, 33, 34] (by decide +kernel) (by decide +kernel)
set_option maxRecDepth 20000 in
theorem gX8_needs_X8_takes : GoodIn wsX8_needs (wsV RX8 55 RX8 yX8_takes wsX8_takes) := goodIn_app (goodIn_of _ (by decide +kernel)) ggX8_needs_X8_takes
set_option maxRecDepth 20000 in
theorem ggX8_needs_X8_blameSign : GoodIn wsX8_needs wsX8_blameSign := goodIn_r _ [22, 6, 10, 11, 12, 4, 13, 7, 8, 23, 24, 25, 26, 18, 27, 28, 29, 30, 31, 32, 33, 34] (by decide +kernel) (by decide +kernel)
set_option maxRecDepth 20000 in
theorem gX8_needs_X8_blameSign : GoodIn wsX8_needs (wsV RX8 59 RX8 yX8_blameSign wsX8_blameSign) := goodIn_app (goodIn_of _ (by decide +kernel)) ggX8_needs_X8_blameSign
set_option maxRecDepth 20000 in
theorem ggX8_needsEnd_X8_isEnded : GoodIn wsX8_needsEnd wsX8_isEnded := goodIn_r _ [5, 6, 7, 8, 9, 10, 4, 11, 12, 23, 24, 25, 26, 27, 28, 29] (by decide +kernel) (by decide +kernel)
set_option maxRecDepth 20000 in
theorem gX8_needsEnd_X8_isEnded : GoodIn wsX8_needsEnd (wsV RX8 62 RX8 yX8_isEnded wsX8_isEnded) := goodIn_app (goodIn_of _ (by decide +kernel)) ggX8_needsEnd_X8_isEnded
set_option maxRecDepth 20000 in
theorem ggX8_needsEnd_X8_blameSign : GoodIn wsX8_needsEnd wsX8_blameSign := goodIn_r _ [16, 6, 8, 9, 10, 4, 11, 7, 12, 17, 18, 19, 20, 21, 22, 23, 24, 25, 26, 27, 28, 29] (by decide +kernel) (by decide +kernel)
set_option maxRecDepth 20000 in
theorem gX8_needsEnd_X8_blameSign : GoodIn wsX8_needsEnd (wsV RX8 59 RX8 yX8_blameSign wsX8_blameSign) := goodIn_app (goodIn_of _ (by decide +kernel)) ggX8_needsEnd_X8_blameSign
set_option maxRecDepth 20000 in
theorem ggX8_takesWord_X8_skipBlanks : GoodIn wsX8_takesWord wsX8_skipBlanks := goodIn_r _ [9, 1, 2, 3, 68, 69, 70, 71, 72, 73, 74] (by decide +kernel) (by decide +kernel)
set_option maxRecDepth 20000 in
theorem gX8_takesWord_X8_skipBlanks : GoodIn wsX8_takesWord (wsV RX8 40 RX8 yX8_skipBlanks wsX8_skipBlanks) := goodIn_app (goodIn_of _ (by decide +kernel)) ggX8_takesWord_X8_skipBlanks
set_option maxRecDepth 20000 in
theorem ggX8_takesWord_J0_length_8abf5 : GoodIn wsX8_takesWord wsJ0_length_8abf5 := goodIn_r _ [14, 15, 16, 17, 18, 13, 19, 20, 21] (by decide +kernel) (by decide +kernel)
set_option maxRecDepth 20000 in
theorem gX8_takesWord_J0_length_8abf5 : GoodIn wsX8_takesWord (wsV RX8 65 RJ0 yJ0_length_8abf5 wsJ0_length_8abf5) := goodIn_app (goodIn_of _ (by decide +kernel)) ggX8_takesWord_J0_length_8abf5
set_option maxRecDepth 20000 in
theorem ggX8_takesWord_X8_isFaulty : GoodIn wsX8_takesWord wsX8_isFaulty := goodIn_r _ [25, 26, 68, 69, 70, 71, 72, 73, 74] (by decide +kernel) (by decide +kernel)
set_option maxRecDepth 20000 in
theorem gX8_takesWord_X8_isFaulty : GoodIn wsX8_takesWord (wsV RX8 51 RX8 yX8_isFaulty wsX8_isFaulty) := goodIn_app (goodIn_of _ (by decide +kernel)) ggX8_takesWord_X8_isFaulty
set_option maxRecDepth 20000 in
theorem ggX8_takesWord_X8_isLetter : GoodIn wsX8_takesWord wsX8_isLetter := goodIn_r _ [30, 2, 3, 68, 69, 70, 71, 72, 73, 74] (by decide +kernel) (by decide +kernel)
set_option maxRecDepth 20000 in
theorem gX8_takesWord_X8_isLetter : GoodIn wsX8_takesWord (wsV RX8 70 RX8 yX8_isLetter wsX8_isLetter) := goodIn_app (goodIn_of _ (by decide +kernel)) ggX8_takesWord_X8_isLetter
set_option maxRecDepth 20000 in
theorem ggX8_takesWord_J0_charAt_5068e : GoodIn wsX8_takesWord wsJ0_charAt_5068e := goodIn_r _ [34, 15, 35, 36, 37, 13, 38, 20, 21, 39, 40, 41, 42, 43, 44, 45, 46, 47, 48, 49, 50, 51, 52, 53, 54, 55, 56, 57, 58, 59, 60, 61, 62, 63, 64, 65, 66, 67] (by decide +kernel) (by decide +kernel)
set_option maxRecDepth 20000 in
theorem gX8_takesWord_J0_charAt_5068e : GoodIn wsX8_takesWord (wsV RX8 74 RJ0 yJ0_charAt_5068e wsJ0_charAt_5068e) := goodIn_app (goodIn_of _ (by decide +kernel)) ggX8_takesWord_J0_charAt_5068e
set_option maxRecDepth 20000 in
theorem ggX8_number_X8_skipBlanks : GoodIn wsX8_number wsX8_skipBlanks := goodIn_r _ [13, 1, 3, 14, 32, 33, 34, 35, 36, 37, 38] (by decide +kernel) (by decide +kernel)
set_option maxRecDepth 20000 in
theorem gX8_number_X8_skipBlanks : GoodIn wsX8_number (wsV RX8 40 RX8 yX8_skipBlanks wsX8_skipBlanks) := goodIn_app (goodIn_of _ (by decide +kernel)) ggX8_number_X8_skipBlanks
set_option maxRecDepth 20000 in
theorem ggX8_number_X8_digitAt : GoodIn wsX8_number wsX8_digitAt := goodIn_r _ [18, 3, 14, 32, 33, 34, 35, 36, 37, 38] (by decide +kernel) (by decide +kernel)
set_option maxRecDepth 20000 in
theorem gX8_number_X8_digitAt : GoodIn wsX8_number (wsV RX8 47 RX8 yX8_digitAt wsX8_digitAt) := goodIn_app (goodIn_of _ (by decide +kernel)) ggX8_number_X8_digitAt
set_option maxRecDepth 20000 in
theorem ggX8_number_X8_blame : GoodIn wsX8_number wsX8_blame := goodIn_r _ [22, 23, 24, 32, 33, 34, 35, 36, 37, 38] (by decide +kernel) (by decide +kernel)
set_option maxRecDepth 20000 in
theorem gX8_number_X8_blame : GoodIn wsX8_number (wsV RX8 43 RX8 yX8_blame wsX8_blame) := goodIn_app (goodIn_of _ (by decide +kernel)) ggX8_number_X8_blame
set_option maxRecDepth 20000 in
theorem ggX8_number_X8_isFaulty : GoodIn wsX8_number wsX8_isFaulty := goodIn_r _ [28, 23, 32, 33, 34, 35, 36, 37, 38] (by decide +kernel) (by decide +kernel)
set_option maxRecDepth 20000 in
theorem gX8_number_X8_isFaulty : GoodIn wsX8_number (wsV RX8 51 RX8 yX8_isFaulty wsX8_isFaulty) := goodIn_app (goodIn_of _ (by decide +kernel)) ggX8_number_X8_isFaulty
set_option maxRecDepth 20000 in
theorem ggX8_number_X10_within : GoodIn wsX8_number wsX10_within := goodIn_r _ [31] (by decide +kernel) (by decide +kernel)
set_option maxRecDepth 20000 in
theorem gX8_number_X10_within_n79 : GoodIn wsX8_number (wsX10_within) := ggX8_number_X10_within
set_option maxRecDepth 20000 in
theorem ggX9_readFrom_X8_isFaulty : GoodIn wsX9_readFrom wsX8_isFaulty := goodIn_r _ [9, 10, 154, 155, 156, 157, 158, 159, 160] (by decide +kernel) (by decide +kernel)
set_option maxRecDepth 20000 in
theorem gX9_readFrom_X8_isFaulty : GoodIn wsX9_readFrom (wsV RX9 43 RX8 yX8_isFaulty wsX8_isFaulty) := goodIn_app (goodIn_of _ (by decide +kernel)) ggX9_readFrom_X8_isFaulty
set_option maxRecDepth 20000 in
theorem ggX9_readFrom_X8_isEnded : GoodIn wsX9_readFrom wsX8_isEnded := goodIn_r _ [14, 15, 16, 17, 18, 19, 8, 20, 21, 154, 155, 156, 157, 158, 159, 160] (by decide +kernel) (by decide +kernel)
set_option maxRecDepth 20000 in
theorem gX9_readFrom_X8_isEnded : GoodIn wsX9_readFrom (wsV RX9 49 RX8 yX8_isEnded wsX8_isEnded) := goodIn_app (goodIn_of _ (by decide +kernel)) ggX9_readFrom_X8_isEnded
set_option maxRecDepth 20000 in
theorem ggX9_readFrom_X8_takes : GoodIn wsX9_readFrom wsX8_takes := goodIn_r _ [25, 15, 16, 21, 26, 17, 18, 19, 8, 20, 27, 6, 7, 9, 10, 154, 155, 156, 157, 158, 159, 160] (by decide +kernel) (by decide +kernel)
set_option maxRecDepth 20000 in
theorem gX9_readFrom_X8_takes : GoodIn wsX9_readFrom (wsV RX9 52 RX8 yX8_takes wsX8_takes) := goodIn_app (goodIn_of _ (by decide +kernel)) ggX9_readFrom_X8_takes
set_option maxRecDepth 20000 in
theorem ggX9_readFrom_X9_closeLoop : GoodIn wsX9_readFrom wsX9_closeLoop := goodIn_r _ [32, 4, 33, 34, 3, 35, 36, 37, 31, 38, 39, 40, 41, 142, 143, 144, 145, 146, 147, 148, 149, 150, 151, 152, 153] (by decide +kernel) (by decide +kernel)
set_option maxRecDepth 20000 in
theorem gX9_readFrom_X9_closeLoop : GoodIn wsX9_readFrom (wsV RX9 56 RX9 yX9_closeLoop wsX9_closeLoop) := goodIn_app (goodIn_of _ (by decide +kernel)) ggX9_readFrom_X9_closeLoop
set_option maxRecDepth 20000 in
theorem ggX9_readFrom_X8_needs : GoodIn wsX9_readFrom wsX8_needs := goodIn_r _ [45, 46, 23, 24, 8, 25, 15, 16, 21, 26, 17, 18, 19, 20, 27, 6, 7, 9, 10, 47, 48, 49, 50, 51, 52, 53, 54, 55, 154, 155, 156, 157, 158, 159, 160] (by decide +kernel) (by decide +kernel)
set_option maxRecDepth 20000 in
theorem gX9_readFrom_X8_needs : GoodIn wsX9_readFrom (wsV RX9 59 RX8 yX8_needs wsX8_needs) := goodIn_app (goodIn_of _ (by decide +kernel)) ggX9_readFrom_X8_needs
set_option maxRecDepth 20000 in
theorem ggX9_readFrom_X9_readStep : GoodIn wsX9_readFrom wsX9_readStep := goodIn_r _ [59, 1, 2, 60, 61, 62, 8, 63, 15, 16, 21, 26, 17, 18, 19, 20, 64, 65, 66, 67, 68, 69, 70, 71, 72, 73, 74, 75, 27, 6, 7, 9, 10, 76, 77, 78, 79, 80, 81, 82, 83, 84, 85, 86, 87, 88, 89, 90, 91, 92, 93, 94, 95, 96, 97, 98, 99, 100, 101, 102, 103, 104, 105, 106, 107, 108, 109, 110, 111, 112, 113, 114, 115, 116, 117, 118, 119, 31, 120, 4, 33, 3, 121, 122, 123, 124, 51, 52, 53, 54, 55, 125, 126, 127, 128, 129, 130, 131, 132, 133, 134, 135, 136, 137, 138, 139, 140, 42, 43, 44, 45, 46, 23, 24, 25, 47, 48, 49, 50, 35, 36, 37, 38, 39, 40, 34, 41, 141, 142, 143, 144, 145, 146, 147, 148, 149, 150, 151, 152, 153, 154, 155, 156, 157, 158, 159, 160] (by decide +kernel) (by decide +kernel)
set_option maxRecDepth 20000 in
theorem gX9_readFrom_X9_readStep : GoodIn wsX9_readFrom (wsV RX9 63 RX9 yX9_readStep wsX9_readStep) := goodIn_app (goodIn_of _ (by decide +kernel)) ggX9_readFrom_X9_readStep
set_option maxRecDepth 20000 in
theorem ggX9_readStep_X8_takesWord : GoodIn wsX9_readStep wsX8_takesWord := goodIn_r _ [7, 8, 9, 10, 11, 12, 13, 14, 6, 15, 16, 17, 18, 19, 20, 21, 22, 23, 24, 25, 26, 27, 28, 29, 30, 31, 32, 33, 34, 35, 36, 37, 38, 39, 40, 41, 42, 43, 44, 45, 46, 47, 48, 49, 50, 51, 52, 53, 54, 55, 56, 57, 58, 59, 60, 61, 62, 63, 64, 65, 66, 67, 68, 69, 70, 71, 72, 73, 140, 141, 142, 143, 144, 145, 146] (by decide +kernel) (by decide +kernel)
set_option maxRecDepth 20000 in
theorem gX9_readStep_X8_takesWord : GoodIn wsX9_readStep (wsV RX9 69 RX8 yX8_takesWord wsX8_takesWord) := goodIn_app (goodIn_of _ (by decide +kernel)) ggX9_readStep_X8_takesWord
set_option maxRecDepth 20000 in
theorem ggX9_readStep_X9_openLoop : GoodIn wsX9_readStep wsX9_openLoop := goodIn_r _ [78, 79, 80, 81, 82, 83, 84, 6, 85, 11, 86, 87, 88, 89, 32, 90, 91, 92, 93, 94, 8, 9, 95, 96, 97, 98, 99, 12, 13, 14, 15, 10, 100, 101, 102, 103, 28, 29, 30, 31, 104, 105, 106, 107, 108, 109, 110, 111, 112, 113, 114, 115, 116, 117, 118, 119, 120, 121, 77, 122, 123, 124, 125, 126, 128, 129, 130, 131, 132, 133, 134, 135, 136, 137, 138, 139, 140, 141, 142, 143, 144, 145, 146] (by decide +kernel) (by decide +kernel)
set_option maxRecDepth 20000 in
theorem gX9_readStep_X9_openLoop : GoodIn wsX9_readStep (wsV RX9 73 RX9 yX9_openLoop wsX9_openLoop) := goodIn_app (goodIn_of _ (by decide +kernel)) ggX9_readStep_X9_openLoop
set_option maxRecDepth 20000 in
theorem ggX9_readStep_X8_number : GoodIn wsX9_readStep wsX8_number := goodIn_r _ [94, 8, 11, 9, 95, 96, 97, 98, 99, 12, 13, 14, 6, 15, 10, 100, 101, 102, 103, 86, 87, 88, 89, 32, 90, 28, 29, 30, 31, 104, 105, 106, 140, 141, 142, 143, 144, 145, 146] (by decide +kernel) (by decide +kernel)
set_option maxRecDepth 20000 in
theorem gX9_readStep_X8_number : GoodIn wsX9_readStep (wsV RX9 78 RX8 yX8_number wsX8_number) := goodIn_app (goodIn_of _ (by decide +kernel)) ggX9_readStep_X8_number
set_option maxRecDepth 20000 in
theorem ggX9_readStep_X9_add : GoodIn wsX9_readStep wsX9_add := goodIn_r _ [122, 81, 123, 124, 125, 126, 128, 129, 130, 131, 132, 133, 134, 135, 136, 137, 138, 139] (by decide +kernel) (by decide +kernel)
set_option maxRecDepth 20000 in
theorem gX9_readStep_X9_add : GoodIn wsX9_readStep (wsV RX9 82 RX9 yX9_add wsX9_add) := goodIn_app (goodIn_of _ (by decide +kernel)) ggX9_readStep_X9_add
set_option maxRecDepth 20000 in
theorem ggX9_readStep_X8_blameSign : GoodIn wsX9_readStep wsX8_blameSign := goodIn_r _ [118, 8, 12, 13, 14, 6, 15, 9, 10, 86, 87, 88, 89, 32, 90, 140, 141, 142, 143, 144, 145, 146] (by decide +kernel) (by decide +kernel)
set_option maxRecDepth 20000 in
theorem gX9_readStep_X8_blameSign : GoodIn wsX9_readStep (wsV RX9 92 RX8 yX8_blameSign wsX8_blameSign) := goodIn_app (goodIn_of _ (by decide +kernel)) ggX9_readStep_X8_blameSign
set_option maxRecDepth 20000 in
theorem ggX9_readStep_X8_needs : GoodIn wsX9_readStep wsX8_needs := goodIn_r _ [110, 111, 112, 113, 6, 114, 8, 9, 10, 11, 12, 13, 14, 15, 28, 29, 30, 31, 32, 115, 116, 117, 118, 86, 87, 88, 89, 90, 140, 141, 142, 143, 144, 145, 146] (by decide +kernel) (by decide +kernel)
set_option maxRecDepth 20000 in
theorem gX9_readStep_X8_needs : GoodIn wsX9_readStep (wsV RX9 59 RX8 yX8_needs wsX8_needs) := goodIn_app (goodIn_of _ (by decide +kernel)) ggX9_readStep_X8_needs
set_option maxRecDepth 20000 in
theorem ggX9_openLoop_X8_blameToken : GoodIn wsX9_openLoop wsX8_blameToken := goodIn_r _ [8, 9, 10, 11, 12, 7, 13, 14, 15, 76, 77, 78, 79, 80, 81, 82] (by decide +kernel) (by decide +kernel)
set_option maxRecDepth 20000 in
theorem gX9_openLoop_X8_blameToken : GoodIn wsX9_openLoop (wsV RX9 95 RX8 yX8_blameToken wsX8_blameToken) := goodIn_app (goodIn_of _ (by decide +kernel)) ggX9_openLoop_X8_blameToken
set_option maxRecDepth 20000 in
theorem ggX9_openLoop_X8_number : GoodIn wsX9_openLoop wsX8_number := goodIn_r _ [19, 20, 9, 21, 22, 23, 24, 25, 26, 27, 28, 29, 7, 30, 31, 32, 33, 34, 35, 10, 11, 12, 13, 14, 15, 36, 37, 38, 39, 40, 41, 42, 76, 77, 78, 79, 80, 81, 82] (by decide +kernel) (by decide +kernel)
set_option maxRecDepth 20000 in
theorem gX9_openLoop_X8_number : GoodIn wsX9_openLoop (wsV RX9 78 RX8 yX8_number wsX8_number) := goodIn_app (goodIn_of _ (by decide +kernel)) ggX9_openLoop_X8_number
set_option maxRecDepth 20000 in
theorem ggX9_openLoop_X8_needs : GoodIn wsX9_openLoop wsX8_needs := goodIn_r _ [46, 47, 48, 49, 7, 50, 20, 21, 31, 9, 27, 28, 29, 30, 36, 37, 38, 39, 14, 51, 52, 53, 54, 10, 11, 12, 13, 15, 76, 77, 78, 79, 80, 81, 82] (by decide +kernel) (by decide +kernel)
set_option maxRecDepth 20000 in
theorem gX9_openLoop_X8_needs : GoodIn wsX9_openLoop (wsV RX9 59 RX8 yX8_needs wsX8_needs) := goodIn_app (goodIn_of _ (by decide +kernel)) ggX9_openLoop_X8_needs
set_option maxRecDepth 20000 in
theorem ggX9_openLoop_X9_add : GoodIn wsX9_openLoop wsX9_add := goodIn_r _ [59, 3, 60, 61, 62, 63, 64, 65, 66, 67, 68, 69, 70, 71, 72, 73, 74, 75] (by decide +kernel) (by decide +kernel)
set_option maxRecDepth 20000 in
theorem gX9_openLoop_X9_add : GoodIn wsX9_openLoop (wsV RX9 82 RX9 yX9_add wsX9_add) := goodIn_app (goodIn_of _ (by decide +kernel)) ggX9_openLoop_X9_add
set_option maxRecDepth 20000 in
theorem ggX9_closeLoop_X9_add : GoodIn wsX9_closeLoop wsX9_add := goodIn_r _ [9, 4, 10, 11, 3, 12, 13, 14, 15, 16, 17, 18, 19, 20, 21, 22, 23, 24] (by decide +kernel) (by decide +kernel)
set_option maxRecDepth 20000 in
theorem gX9_closeLoop_X9_add : GoodIn wsX9_closeLoop (wsV RX9 82 RX9 yX9_add wsX9_add) := goodIn_app (goodIn_of _ (by decide +kernel)) ggX9_closeLoop_X9_add
set_option maxRecDepth 20000 in
theorem ggX9_runOn_X9_behindEnd : GoodIn wsX9_runOn wsX9_behindEnd := goodIn_r _ [10, 3, 11, 12, 179, 180, 181, 182, 183, 184, 185, 186, 187, 188, 189, 190] (by decide +kernel) (by decide +kernel)
set_option maxRecDepth 20000 in
theorem gX9_runOn_X9_behindEnd : GoodIn wsX9_runOn (wsV RX9 105 RX9 yX9_behindEnd wsX9_behindEnd) := goodIn_app (goodIn_of _ (by decide +kernel)) ggX9_runOn_X9_behindEnd
set_option maxRecDepth 20000 in
theorem ggX9_runOn_X9_behindAgain : GoodIn wsX9_runOn wsX9_behindAgain := goodIn_r _ [16, 12, 3, 17, 11, 179, 180, 181, 182, 183, 184, 185, 186, 187, 188, 189, 190] (by decide +kernel) (by decide +kernel)
set_option maxRecDepth 20000 in
theorem gX9_runOn_X9_behindAgain : GoodIn wsX9_runOn (wsV RX9 109 RX9 yX9_behindAgain wsX9_behindAgain) := goodIn_app (goodIn_of _ (by decide +kernel)) ggX9_runOn_X9_behindAgain
set_option maxRecDepth 20000 in
theorem ggX9_runOn_X9_isAllowed : GoodIn wsX9_runOn wsX9_isAllowed := goodIn_r _ [21, 5, 12, 17, 22, 23, 24, 25, 26, 27, 28, 29, 30, 31, 32, 33, 34, 35, 36, 37, 38, 39, 40, 41, 42, 43, 44, 45, 46, 47, 48, 49, 50, 51, 52, 53, 54, 55, 56, 57, 58, 59, 60, 61, 62, 63, 64, 65, 66, 67, 68, 69, 70, 71, 72, 73, 74, 75, 76, 77, 78, 79, 80, 81, 82, 83, 84, 85, 86, 87, 88, 89, 90, 91, 92, 93, 94, 95, 96, 97, 98, 99, 100, 101, 102, 103, 104, 105, 106, 107, 108, 109, 110, 111, 112, 113, 114, 115, 116, 117, 118, 119, 120, 121, 122, 123, 124, 125, 126, 127, 128, 129, 130, 131, 132, 179, 180, 181, 182, 183, 184, 185, 186, 187, 188, 189, 190, 191, 192, 193, 194, 195, 196, 197, 198, 199, 200, 201, 202, 203, 204, 205, 206, 207, 208, 209, 210, 211] (by decide +kernel) (by decide +kernel)
set_option maxRecDepth 20000 in
theorem gX9_runOn_X9_isAllowed : GoodIn wsX9_runOn (wsV RX9 112 RX9 yX9_isAllowed wsX9_isAllowed) := goodIn_app (goodIn_of _ (by decide +kernel)) ggX9_runOn_X9_isAllowed
set_option maxRecDepth 20000 in
theorem ggX9_runOn_X9_doStep : GoodIn wsX9_runOn wsX9_doStep := goodIn_r _ [136, 5, 12, 17, 22, 137, 138, 139, 26, 140, 33, 141, 142, 143, 144, 145, 146, 147, 148, 149, 116, 46, 117, 66, 67, 68, 69, 150, 151, 152, 153, 154, 155, 156, 157, 28, 58, 158, 159, 160, 161, 162, 163, 164, 165, 166, 167, 168, 169, 29, 30, 31, 32, 34, 35, 36, 37, 170, 171, 172, 41, 173, 174, 70, 71, 72, 73, 175, 176, 177, 178, 179, 180, 181, 182, 183, 184, 185, 186, 187, 188, 189, 190, 191, 192, 193, 194, 195, 196, 197, 198, 199, 200, 201, 202, 203, 204, 205, 206] (by decide +kernel) (by decide +kernel)
set_option maxRecDepth 20000 in
theorem gX9_runOn_X9_doStep : GoodIn wsX9_runOn (wsV RX9 116 RX9 yX9_doStep wsX9_doStep) := goodIn_app (goodIn_of _ (by decide +kernel)) ggX9_runOn_X9_doStep
set_option maxRecDepth 20000 in
theorem ggX9_doStep_X1_leapTo : GoodIn wsX9_doStep wsX1_leapTo := goodIn_r _ [9, 10, 11, 12, 13, 8, 14, 83, 84, 85, 86] (by decide +kernel) (by decide +kernel)
set_option maxRecDepth 20000 in
theorem gX9_doStep_X1_leapTo : GoodIn wsX9_doStep (wsV RX9 120 RX1 yX1_leapTo wsX1_leapTo) := goodIn_app (goodIn_of _ (by decide +kernel)) ggX9_doStep_X1_leapTo
set_option maxRecDepth 20000 in
theorem ggX9_doStep_X1_fight : GoodIn wsX9_doStep wsX1_fight := goodIn_r _ [18, 10, 19, 20, 21, 22, 23, 24, 25, 8, 26, 11, 12, 13, 14, 83, 84, 85, 86] (by decide +kernel) (by decide +kernel)
set_option maxRecDepth 20000 in
theorem gX9_doStep_X1_fight : GoodIn wsX9_doStep (wsV RX9 126 RX1 yX1_fight wsX1_fight) := goodIn_app (goodIn_of _ (by decide +kernel)) ggX9_doStep_X1_fight
set_option maxRecDepth 20000 in
theorem ggX9_doStep_X1_payBack : GoodIn wsX9_doStep wsX1_payBack := goodIn_r _ [30, 10, 83, 84, 85, 86] (by decide +kernel) (by decide +kernel)
set_option maxRecDepth 20000 in
theorem gX9_doStep_X1_payBack : GoodIn wsX9_doStep (wsV RX9 129 RX1 yX1_payBack wsX1_payBack) := goodIn_app (goodIn_of _ (by decide +kernel)) ggX9_doStep_X1_payBack
set_option maxRecDepth 20000 in
theorem ggX9_doStep_X1_passDay : GoodIn wsX9_doStep wsX1_passDay := goodIn_r _ [34, 35, 36, 10, 37, 38, 39, 40, 41, 42, 8, 43, 44, 45, 46, 47, 48, 49, 50, 51, 52, 53, 54, 55, 56, 57, 58, 59, 60, 61, 62, 63, 64, 65, 66, 67, 68, 69, 70, 83, 84, 85, 86, 87, 88, 89, 90, 91, 92, 93, 94, 95, 96, 97, 98] (by decide +kernel) (by decide +kernel)
set_option maxRecDepth 20000 in
theorem gX9_doStep_X1_passDay : GoodIn wsX9_doStep (wsV RX9 133 RX1 yX1_passDay wsX1_passDay) := goodIn_app (goodIn_of _ (by decide +kernel)) ggX9_doStep_X1_passDay
set_option maxRecDepth 20000 in
theorem ggX9_isAllowed_X1_couldLeap : GoodIn wsX9_isAllowed wsX1_couldLeap := goodIn_r _ [9, 10, 11, 12, 13, 8, 14, 15, 16, 17, 18, 19, 20, 21, 22, 23, 24, 25, 26, 27, 28, 29, 30, 31, 32, 33, 34, 35, 36, 37, 38, 39, 40, 41, 42, 43, 44, 45, 46, 47, 48, 49, 50, 51, 52, 53, 54, 55, 56, 57, 58, 59, 60, 61, 62, 63, 64, 65, 66, 67, 68, 69, 70, 71, 72, 73, 74, 75, 76, 77, 78, 79, 80, 81, 82, 83, 84, 85, 86, 87, 88, 89, 90, 91, 92, 93, 94, 95, 96, 97, 98, 99, 100, 101, 102, 127, 128, 129, 130, 131, 132, 133, 134, 135, 136, 137, 138, 139, 140, 141, 142, 143, 144, 145, 146, 147] (by decide +kernel) (by decide +kernel)
set_option maxRecDepth 20000 in
theorem gX9_isAllowed_X1_couldLeap : GoodIn wsX9_isAllowed (wsV RX9 136 RX1 yX1_couldLeap wsX1_couldLeap) := goodIn_app (goodIn_of _ (by decide +kernel)) ggX9_isAllowed_X1_couldLeap
set_option maxRecDepth 20000 in
theorem ggX9_isAllowed_X1_couldFight : GoodIn wsX9_isAllowed wsX1_couldFight := goodIn_r _ [106, 11, 12, 13, 8, 14, 15, 16, 17, 18, 19, 127, 128, 129, 130] (by decide +kernel) (by decide +kernel)
set_option maxRecDepth 20000 in
theorem gX9_isAllowed_X1_couldFight : GoodIn wsX9_isAllowed (wsV RX9 140 RX1 yX1_couldFight wsX1_couldFight) := goodIn_app (goodIn_of _ (by decide +kernel)) ggX9_isAllowed_X1_couldFight
set_option maxRecDepth 20000 in
theorem ggX9_isAllowed_X1_couldPay : GoodIn wsX9_isAllowed wsX1_couldPay := goodIn_r _ [110, 11, 12, 13, 8, 14, 15, 60, 61, 62, 63, 127, 128, 129, 130] (by decide +kernel) (by decide +kernel)
set_option maxRecDepth 20000 in
theorem gX9_isAllowed_X1_couldPay : GoodIn wsX9_isAllowed (wsV RX9 143 RX1 yX1_couldPay wsX1_couldPay) := goodIn_app (goodIn_of _ (by decide +kernel)) ggX9_isAllowed_X1_couldPay
set_option maxRecDepth 20000 in
theorem ggX9_isAllowed_X1_year : GoodIn wsX9_isAllowed wsX1_year := goodIn_r _ [114, 15, 127, 128, 129, 130] (by decide +kernel) (by decide +kernel)
set_option maxRecDepth 20000 in
theorem gX9_isAllowed_X1_year : GoodIn wsX9_isAllowed (wsV RX9 147 RX1 yX1_year wsX1_year) := goodIn_app (goodIn_of _ (by decide +kernel)) ggX9_isAllowed_X1_year
set_option maxRecDepth 20000 in
theorem ggX10_init_X8_init : GoodIn wsX10_init wsX8_init := goodIn_r _ [50, 51, 2, 3, 52, 53, 54, 145, 146, 147, 148, 149, 150, 151] (by decide +kernel) (by decide +kernel)
set_option maxRecDepth 20000 in
theorem gX10_init_X8_init_n9 : GoodIn wsX10_init (wsX8_init) := ggX10_init_X8_init
set_option maxRecDepth 20000 in
theorem ggX10_init_X2_init : GoodIn wsX10_init wsX2_init := goodIn_r _ [56, 57, 2, 3, 58, 59, 60, 61, 62, 63, 64, 65, 66, 171, 172, 173, 174, 175, 176, 177, 178, 179, 180, 181, 182] (by decide +kernel) (by decide +kernel)
set_option maxRecDepth 20000 in
theorem gX10_init_X2_init_n18 : GoodIn wsX10_init (wsX2_init) := ggX10_init_X2_init
set_option maxRecDepth 20000 in
theorem ggX10_init_X4_init : GoodIn wsX10_init wsX4_init := goodIn_r _ [69, 70, 2, 3, 58, 71, 72, 73, 74, 75, 76, 77, 15, 78, 79, 80, 81, 82, 83, 183, 184, 185, 186, 187] (by decide +kernel) (by decide +kernel)
set_option maxRecDepth 20000 in
theorem gX10_init_X4_init : GoodIn wsX10_init (wsX4_init) := ggX10_init_X4_init
set_option maxRecDepth 20000 in
theorem ggX10_init_X0_init : GoodIn wsX10_init wsX0_init := goodIn_r _ [86, 87, 2, 3, 58, 88, 89, 90, 91, 20, 92, 93, 188, 189] (by decide +kernel) (by decide +kernel)
set_option maxRecDepth 20000 in
theorem gX10_init_X0_init : GoodIn wsX10_init (wsX0_init) := ggX10_init_X0_init
set_option maxRecDepth 20000 in
theorem ggX10_init_X9_init : GoodIn wsX10_init wsX9_init := goodIn_r _ [95, 96, 2, 3, 58, 97, 98, 99, 100, 101, 102, 190, 191, 192, 193, 194, 195, 196, 197, 198, 199, 200, 201] (by decide +kernel) (by decide +kernel)
set_option maxRecDepth 20000 in
theorem gX10_init_X9_init_n48 : GoodIn wsX10_init (wsX9_init) := ggX10_init_X9_init
set_option maxRecDepth 20000 in
theorem ggX10_init_X1_init : GoodIn wsX10_init wsX1_init := goodIn_r _ [105, 106, 2, 3, 58, 107, 108, 109, 110, 111, 29, 112, 113, 114, 115, 116, 117, 118, 119, 120, 121, 122, 202, 203, 204, 205, 171, 172, 173, 174, 175, 176, 177, 178, 179, 180, 181, 182] (by decide +kernel) (by decide +kernel)
set_option maxRecDepth 20000 in
theorem gX10_init_X1_init : GoodIn wsX10_init (wsX1_init) := ggX10_init_X1_init
set_option maxRecDepth 20000 in
theorem ggX10_init_X5_init : GoodIn wsX10_init wsX5_init := goodIn_r _ [124, 125, 2, 3, 58, 126, 206, 207] (by decide +kernel) (by decide +kernel)
set_option maxRecDepth 20000 in
theorem gX10_init_X5_init_n67 : GoodIn wsX10_init (wsX5_init) := ggX10_init_X5_init
set_option maxRecDepth 20000 in
theorem ggX10_init_X6_init : GoodIn wsX10_init wsX6_init := goodIn_r _ [128, 129, 2, 3, 58, 130, 131, 208, 209, 210] (by decide +kernel) (by decide +kernel)
set_option maxRecDepth 20000 in
theorem gX10_init_X6_init_n78 : GoodIn wsX10_init (wsX6_init) := ggX10_init_X6_init
set_option maxRecDepth 20000 in
theorem ggX10_init_X7_init : GoodIn wsX10_init wsX7_init := goodIn_r _ [133, 134, 2, 3, 58, 135, 136, 137, 211, 212, 213, 214] (by decide +kernel) (by decide +kernel)
set_option maxRecDepth 20000 in
theorem gX10_init_X7_init_n85 : GoodIn wsX10_init (wsX7_init) := ggX10_init_X7_init
set_option maxRecDepth 20000 in
theorem ggX10_init_X3_init : GoodIn wsX10_init wsX3_init := goodIn_r _ [139, 140, 2, 3, 58, 141, 142, 143, 144, 215, 216, 217, 218, 219, 220, 221, 222, 223, 224, 225] (by decide +kernel) (by decide +kernel)
set_option maxRecDepth 20000 in
theorem gX10_init_X3_init_n92 : GoodIn wsX10_init (wsX3_init) := ggX10_init_X3_init
set_option maxRecDepth 20000 in
theorem ggX10_feed_X8_hasRoom : GoodIn wsX10_feed wsX8_hasRoom := goodIn_r _ [7, 8, 33, 34, 35, 36, 37, 38, 39] (by decide +kernel) (by decide +kernel)
set_option maxRecDepth 20000 in
theorem gX10_feed_X8_hasRoom : GoodIn wsX10_feed (wsV RX10 97 RX8 yX8_hasRoom wsX8_hasRoom) := goodIn_app (goodIn_of _ (by decide +kernel)) ggX10_feed_X8_hasRoom
set_option maxRecDepth 20000 in
theorem ggX10_feed_X8_put : GoodIn wsX10_feed wsX8_put := goodIn_r _ [12, 8, 13, 33, 34, 35, 36, 37, 38, 39] (by decide +kernel) (by decide +kernel)
set_option maxRecDepth 20000 in
theorem gX10_feed_X8_put : GoodIn wsX10_feed (wsV RX10 101 RX8 yX8_put wsX8_put) := goodIn_app (goodIn_of _ (by decide +kernel)) ggX10_feed_X8_put
set_option maxRecDepth 20000 in
theorem ggX10_down_X10_openText : GoodIn wsX10_down wsX10_openText := goodIn_ca (goodIn_r _ [17, 2, 18, 19, 20, 21, 22, 23, 24, 25, 16, 26, 27, 28, 29, 30, 31, 32, 33, 34, 35, 36, 37, 38, 39, 40, 41, 42, 43, 44, 45, 46, 47, 48, 233, 234, 235, 236, 237, 238, 239, 240, 241, 242, 243, 244, 245, 246, 247, 248, 249, 250, 251, 252, 253, 254, 255, 256, 257, 258] (by decide +kernel) (by decide +kernel)) (goodIn_sub (fun _ h => List.mem_cons_of_mem _ (List.mem_append_right _ h)) (by decide +kernel))
set_option maxRecDepth 20000 in
theorem gX10_down_X10_openText : GoodIn wsX10_down (wsV RX10 109 RX10 yX10_openText wsX10_openText) := goodIn_app (goodIn_of _ (by decide +kernel)) ggX10_down_X10_openText
set_option maxRecDepth 20000 in
theorem ggX10_down_X2_readFrom : GoodIn wsX10_down wsX2_readFrom := goodIn_r _ [53, 54, 55, 56, 57, 58, 59, 60, 40, 61, 47, 62, 63, 64, 65, 44, 43, 66, 67, 68, 69, 70, 71, 72, 73, 52, 74, 75, 76, 77, 78, 45, 79, 80, 81, 82, 83, 84, 85, 86, 87, 88, 89, 90, 91, 92, 93, 94, 95, 96, 97, 98, 99, 100, 101, 102, 103, 104, 105, 106, 107, 108, 109, 110, 111, 112, 113, 114, 115, 116, 117, 118, 119, 120, 121, 122, 123, 124, 125, 126, 127, 128, 129, 130, 131, 132, 133, 134, 135, 136, 137, 138, 139, 140, 141, 142, 143, 144, 145, 146, 48, 147, 148, 149, 150, 151, 42, 20, 21, 22, 152, 153, 154, 155, 28, 16, 29, 156, 157, 158, 159, 160, 161, 162, 163, 164, 165, 166, 167, 168, 169, 170, 171, 172, 173, 174, 175, 176, 177, 178, 179, 180, 181, 182, 183, 184, 185, 186, 187, 188, 189, 190, 191, 192, 193, 194, 195, 196, 261, 262, 263, 264, 265, 266, 267, 268, 269, 270, 271, 272, 252, 253, 254, 255, 256, 257, 258] (by decide +kernel) (by decide +kernel)
set_option maxRecDepth 20000 in
theorem gX10_down_X2_readFrom : GoodIn wsX10_down (wsV RX10 113 RX2 yX2_readFrom wsX2_readFrom) := goodIn_app (goodIn_of _ (by decide +kernel)) ggX10_down_X2_readFrom
set_option maxRecDepth 20000 in
theorem ggX10_down_X8_isFaulty : GoodIn wsX10_down wsX8_isFaulty := goodIn_r _ [61, 47, 252, 253, 254, 255, 256, 257, 258] (by decide +kernel) (by decide +kernel)
set_option maxRecDepth 20000 in
theorem gX10_down_X8_isFaulty : GoodIn wsX10_down (wsV RX10 117 RX8 yX8_isFaulty wsX8_isFaulty) := goodIn_app (goodIn_of _ (by decide +kernel)) ggX10_down_X8_isFaulty
set_option maxRecDepth 20000 in
theorem ggX10_down_X4_setPlain : GoodIn wsX10_down wsX4_setPlain := goodIn_r _ [202, 203, 204, 205, 206, 201, 207, 208, 209, 273, 274, 275, 276, 277] (by decide +kernel) (by decide +kernel)
set_option maxRecDepth 20000 in
theorem gX10_down_X4_setPlain : GoodIn wsX10_down (wsV RX10 123 RX4 yX4_setPlain wsX4_setPlain) := goodIn_app (goodIn_of _ (by decide +kernel)) ggX10_down_X4_setPlain
set_option maxRecDepth 20000 in
theorem ggX10_down_X0_clear : GoodIn wsX10_down wsX0_clear := goodIn_r _ [214, 215, 216, 278, 279] (by decide +kernel) (by decide +kernel)
set_option maxRecDepth 20000 in
theorem gX10_down_X0_clear : GoodIn wsX10_down (wsV RX10 126 RX0 yX0_clear wsX0_clear) := goodIn_app (goodIn_of _ (by decide +kernel)) ggX10_down_X0_clear
set_option maxRecDepth 20000 in
theorem ggX10_down_X1_begin : GoodIn wsX10_down wsX1_begin := goodIn_r _ [221, 222, 223, 224, 225, 226, 227, 228, 229, 230, 231, 232, 280, 281, 282, 283, 261, 262, 263, 264, 265, 266, 267, 268, 269, 270, 271, 272] (by decide +kernel) (by decide +kernel)
set_option maxRecDepth 20000 in
theorem gX10_down_X1_begin : GoodIn wsX10_down (wsV RX10 129 RX1 yX1_begin wsX1_begin) := goodIn_app (goodIn_of _ (by decide +kernel)) ggX10_down_X1_begin
set_option maxRecDepth 20000 in
theorem ggX10_law_X10_openText : GoodIn wsX10_law wsX10_openText := goodIn_ca (goodIn_r _ [10, 2, 11, 12, 13, 14, 15, 16, 17, 18, 9, 19, 20, 21, 22, 23, 24, 25, 26, 27, 28, 29, 30, 31, 32, 33, 34, 35, 36, 37, 38, 39, 40, 41, 195, 196, 197, 198, 199, 200, 201, 202, 203, 204, 205, 206, 207, 208, 209, 210, 211, 212, 213, 214, 215, 216, 217, 218, 219, 220] (by decide +kernel) (by decide +kernel)) (goodIn_sub (fun _ h => List.mem_cons_of_mem _ (List.mem_append_right _ h)) (by decide +kernel))
set_option maxRecDepth 20000 in
theorem gX10_law_X10_openText : GoodIn wsX10_law (wsV RX10 109 RX10 yX10_openText wsX10_openText) := goodIn_app (goodIn_of _ (by decide +kernel)) ggX10_law_X10_openText
set_option maxRecDepth 20000 in
theorem ggX10_law_X4_readFrom : GoodIn wsX10_law wsX4_readFrom := goodIn_r _ [46, 47, 48, 49, 50, 45, 51, 52, 53, 54, 55, 56, 57, 33, 58, 40, 59, 60, 61, 62, 37, 36, 63, 38, 64, 65, 66, 67, 68, 69, 70, 71, 72, 73, 74, 75, 76, 77, 78, 79, 80, 81, 82, 83, 41, 84, 85, 86, 87, 88, 89, 90, 91, 92, 93, 94, 95, 96, 97, 98, 99, 100, 101, 102, 103, 104, 105, 106, 107, 108, 109, 110, 111, 35, 13, 14, 15, 21, 9, 22, 112, 113, 114, 115, 116, 117, 118, 119, 120, 121, 122, 123, 124, 125, 126, 127, 128, 129, 130, 131, 132, 133, 134, 135, 136, 137, 138, 139, 140, 141, 142, 143, 144, 145, 146, 147, 148, 149, 150, 151, 152, 153, 154, 155, 156, 157, 158, 159, 160, 161, 162, 163, 164, 165, 166, 167, 168, 169, 170, 171, 172, 173, 174, 175, 176, 177, 178, 179, 180, 181, 182, 183, 184, 185, 186, 187, 221, 222, 223, 224, 225, 214, 215, 216, 217, 218, 219, 220] (by decide +kernel) (by decide +kernel)
set_option maxRecDepth 20000 in
theorem gX10_law_X4_readFrom : GoodIn wsX10_law (wsV RX10 144 RX4 yX4_readFrom wsX4_readFrom) := goodIn_app (goodIn_of _ (by decide +kernel)) ggX10_law_X4_readFrom
set_option maxRecDepth 20000 in
theorem ggX10_law_X8_isFaulty : GoodIn wsX10_law wsX8_isFaulty := goodIn_r _ [58, 40, 214, 215, 216, 217, 218, 219, 220] (by decide +kernel) (by decide +kernel)
set_option maxRecDepth 20000 in
theorem gX10_law_X8_isFaulty : GoodIn wsX10_law (wsV RX10 117 RX8 yX8_isFaulty wsX8_isFaulty) := goodIn_app (goodIn_of _ (by decide +kernel)) ggX10_law_X8_isFaulty
set_option maxRecDepth 20000 in
theorem ggX10_law_X1_obey : GoodIn wsX10_law wsX1_obey := goodIn_r _ [193, 194, 226, 227, 228, 229] (by decide +kernel) (by decide +kernel)
set_option maxRecDepth 20000 in
theorem gX10_law_X1_obey : GoodIn wsX10_law (wsV RX10 145 RX1 yX1_obey wsX1_obey) := goodIn_app (goodIn_of _ (by decide +kernel)) ggX10_law_X1_obey
set_option maxRecDepth 20000 in
theorem ggX10_work_X10_openText : GoodIn wsX10_work wsX10_openText := goodIn_ca (goodIn_r _ [17, 4, 18, 19, 20, 21, 22, 23, 24, 25, 16, 26, 27, 28, 29, 30, 31, 32, 33, 34, 35, 36, 37, 38, 39, 40, 41, 42, 43, 44, 45, 46, 47, 48, 365, 366, 367, 368, 369, 370, 371, 372, 373, 374, 375, 376, 377, 378, 379, 380, 381, 382, 383, 398, 399, 400, 401, 402, 403, 404] (by decide +kernel) (by decide +kernel)) (goodIn_sub (fun _ h => List.mem_cons_of_mem _ (List.mem_append_right _ h)) (by decide +kernel))
set_option maxRecDepth 20000 in
theorem gX10_work_X10_openText : GoodIn wsX10_work (wsV RX10 109 RX10 yX10_openText wsX10_openText) := goodIn_app (goodIn_of _ (by decide +kernel)) ggX10_work_X10_openText
set_option maxRecDepth 20000 in
theorem ggX10_work_X9_readFrom : GoodIn wsX10_work wsX9_readFrom := goodIn_r _ [53, 54, 55, 56, 57, 58, 59, 60, 40, 61, 47, 62, 63, 64, 65, 44, 43, 66, 67, 68, 69, 70, 71, 72, 73, 74, 45, 75, 76, 77, 78, 52, 79, 80, 81, 82, 83, 84, 85, 86, 87, 88, 89, 90, 91, 92, 93, 94, 95, 96, 97, 98, 99, 100, 101, 48, 102, 103, 104, 105, 106, 107, 108, 109, 110, 111, 112, 113, 114, 115, 116, 117, 118, 119, 120, 121, 122, 123, 124, 125, 126, 127, 128, 129, 130, 131, 132, 133, 134, 135, 136, 137, 138, 139, 140, 141, 142, 143, 144, 145, 146, 147, 148, 149, 150, 151, 152, 153, 154, 155, 156, 157, 158, 159, 160, 161, 162, 163, 164, 165, 166, 167, 168, 169, 170, 171, 172, 173, 174, 175, 42, 20, 21, 22, 176, 177, 178, 179, 28, 16, 29, 180, 405, 406, 407, 408, 409, 410, 411, 412, 413, 414, 415, 416, 398, 399, 400, 401, 402, 403, 404] (by decide +kernel) (by decide +kernel)
set_option maxRecDepth 20000 in
theorem gX10_work_X9_readFrom : GoodIn wsX10_work (wsV RX10 152 RX9 yX9_readFrom wsX9_readFrom) := goodIn_app (goodIn_of _ (by decide +kernel)) ggX10_work_X9_readFrom
set_option maxRecDepth 20000 in
theorem ggX10_work_X8_isFaulty : GoodIn wsX10_work wsX8_isFaulty := goodIn_r _ [61, 47, 398, 399, 400, 401, 402, 403, 404] (by decide +kernel) (by decide +kernel)
set_option maxRecDepth 20000 in
theorem gX10_work_X8_isFaulty : GoodIn wsX10_work (wsV RX10 117 RX8 yX8_isFaulty wsX8_isFaulty) := goodIn_app (goodIn_of _ (by decide +kernel)) ggX10_work_X8_isFaulty
set_option maxRecDepth 20000 in
theorem ggX10_work_X5_push : GoodIn wsX10_work wsX5_push := goodIn_r _ [186, 187, 188, 189, 190, 191, 192, 193, 384, 385, 417, 418, 419, 420] (by decide +kernel) (by decide +kernel)
set_option maxRecDepth 20000 in
theorem gX10_work_X5_push : GoodIn wsX10_work (wsV RX10 155 RX5 yX5_push wsX5_push) := goodIn_app (goodIn_of _ (by decide +kernel)) ggX10_work_X5_push
set_option maxRecDepth 20000 in
theorem ggX10_work_X9_runOn : GoodIn wsX10_work wsX9_runOn := goodIn_r _ [197, 198, 199, 57, 56, 86, 200, 201, 202, 52, 203, 204, 87, 205, 206, 207, 208, 81, 209, 210, 211, 212, 88, 213, 214, 215, 216, 217, 218, 219, 220, 221, 222, 223, 224, 225, 226, 227, 228, 229, 230, 231, 232, 233, 234, 235, 21, 236, 237, 238, 239, 240, 241, 242, 243, 244, 245, 246, 247, 248, 249, 250, 251, 252, 253, 254, 255, 256, 257, 258, 259, 260, 261, 262, 263, 264, 265, 266, 267, 268, 269, 270, 271, 272, 273, 274, 275, 276, 277, 278, 279, 280, 281, 282, 283, 284, 285, 286, 287, 288, 289, 290, 291, 292, 293, 294, 295, 296, 297, 298, 299, 300, 301, 20, 22, 302, 303, 304, 305, 306, 307, 308, 309, 310, 311, 312, 313, 314, 315, 316, 317, 318, 319, 320, 321, 322, 323, 324, 325, 326, 327, 328, 329, 330, 331, 332, 333, 334, 335, 336, 337, 338, 339, 340, 341, 342, 343, 344, 345, 16, 346, 347, 348, 349, 350, 351, 352, 353, 354, 355, 356, 357, 358, 359, 360, 361, 362, 363, 364, 405, 406, 407, 408, 409, 410, 411, 412, 413, 414, 415, 416, 417, 418, 419, 420, 386, 387, 388, 389, 390, 391, 392, 393, 394, 395, 396, 397, 421, 422, 423, 424, 425] (by decide +kernel) (by decide +kernel)
set_option maxRecDepth 20000 in
theorem gX10_work_X9_runOn : GoodIn wsX10_work (wsV RX10 159 RX9 yX9_runOn wsX9_runOn) := goodIn_app (goodIn_of _ (by decide +kernel)) ggX10_work_X9_runOn
set_option maxRecDepth 20000 in
theorem ggX10_book_X10_openText : GoodIn wsX10_book wsX10_openText := goodIn_ca (goodIn_r _ [12, 2, 13, 14, 15, 16, 17, 18, 19, 20, 11, 21, 22, 23, 24, 25, 26, 27, 28, 29, 30, 31, 32, 33, 34, 35, 36, 37, 38, 39, 40, 41, 42, 43, 107, 108, 109, 110, 111, 112, 113, 114, 115, 116, 117, 118, 119, 120, 121, 122, 123, 124, 125, 138, 139, 140, 141, 142, 143, 144] (by decide +kernel) (by decide +kernel)) (goodIn_sub (fun _ h => List.mem_cons_of_mem _ (List.mem_append_right _ h)) (by decide +kernel))
set_option maxRecDepth 20000 in
theorem gX10_book_X10_openText : GoodIn wsX10_book (wsV RX10 109 RX10 yX10_openText wsX10_openText) := goodIn_app (goodIn_of _ (by decide +kernel)) ggX10_book_X10_openText
set_option maxRecDepth 20000 in
theorem ggX10_book_X0_readFrom : GoodIn wsX10_book wsX0_readFrom := goodIn_r _ [48, 49, 50, 51, 47, 52, 53, 54, 55, 56, 57, 35, 58, 42, 59, 60, 61, 62, 39, 38, 63, 64, 65, 66, 67, 68, 69, 70, 71, 72, 73, 74, 75, 40, 76, 37, 15, 16, 17, 77, 78, 79, 80, 81, 82, 83, 84, 43, 85, 23, 11, 24, 86, 87, 88, 89, 90, 91, 92, 93, 94, 95, 96, 97, 98, 99, 100, 101, 102, 103, 104, 105, 145, 146, 138, 139, 140, 141, 142, 143, 144] (by decide +kernel) (by decide +kernel)
set_option maxRecDepth 20000 in
theorem gX10_book_X0_readFrom : GoodIn wsX10_book (wsV RX10 168 RX0 yX0_readFrom wsX0_readFrom) := goodIn_app (goodIn_of _ (by decide +kernel)) ggX10_book_X0_readFrom
set_option maxRecDepth 20000 in
theorem ggX10_book_X8_isFaulty : GoodIn wsX10_book wsX8_isFaulty := goodIn_r _ [58, 42, 138, 139, 140, 141, 142, 143, 144] (by decide +kernel) (by decide +kernel)
set_option maxRecDepth 20000 in
theorem gX10_book_X8_isFaulty : GoodIn wsX10_book (wsV RX10 117 RX8 yX8_isFaulty wsX8_isFaulty) := goodIn_app (goodIn_of _ (by decide +kernel)) ggX10_book_X8_isFaulty
set_option maxRecDepth 20000 in
theorem ggX10_undo_X5_pop : GoodIn wsX10_undo wsX5_pop := goodIn_r _ [9, 10, 11, 12, 13, 14, 15, 16, 36, 37, 38, 39, 40, 41] (by decide +kernel) (by decide +kernel)
set_option maxRecDepth 20000 in
theorem gX10_undo_X5_pop : GoodIn wsX10_undo (wsV RX10 177 RX5 yX5_pop wsX5_pop) := goodIn_app (goodIn_of _ (by decide +kernel)) ggX10_undo_X5_pop
set_option maxRecDepth 20000 in
theorem ggX10_told_X10_needWithin : GoodIn wsX10_told wsX10_needWithin := goodIn_ca (goodIn_r _ [14, 15, 16, 13, 17, 18, 19, 20, 21, 22, 23, 24, 81, 82, 83, 84, 85, 86, 87, 88, 89, 90, 91, 92, 93, 94, 95, 96, 97, 98, 99] (by decide +kernel) (by decide +kernel)) (goodIn_sub (fun _ h => List.mem_cons_of_mem _ (List.mem_append_right _ h)) (by decide +kernel))
set_option maxRecDepth 20000 in
theorem gX10_told_X10_needWithin : GoodIn wsX10_told (wsV RX10 180 RX10 yX10_needWithin wsX10_needWithin) := goodIn_app (goodIn_of _ (by decide +kernel)) ggX10_told_X10_needWithin
set_option maxRecDepth 20000 in
theorem ggX10_told_X1_day : GoodIn wsX10_told wsX1_day := goodIn_r _ [29, 30, 114, 115, 116, 117] (by decide +kernel) (by decide +kernel)
set_option maxRecDepth 20000 in
theorem gX10_told_X1_day : GoodIn wsX10_told (wsV RX10 187 RX1 yX1_day wsX1_day) := goodIn_app (goodIn_of _ (by decide +kernel)) ggX10_told_X1_day
set_option maxRecDepth 20000 in
theorem ggX10_told_X1_year : GoodIn wsX10_told wsX1_year := goodIn_r _ [34, 30, 114, 115, 116, 117] (by decide +kernel) (by decide +kernel)
set_option maxRecDepth 20000 in
theorem gX10_told_X1_year : GoodIn wsX10_told (wsV RX10 191 RX1 yX1_year wsX1_year) := goodIn_app (goodIn_of _ (by decide +kernel)) ggX10_told_X1_year
set_option maxRecDepth 20000 in
theorem ggX10_told_X1_caughtOnes : GoodIn wsX10_told wsX1_caughtOnes := goodIn_r _ [38, 30, 114, 115, 116, 117] (by decide +kernel) (by decide +kernel)
set_option maxRecDepth 20000 in
theorem gX10_told_X1_caughtOnes : GoodIn wsX10_told (wsV RX10 194 RX1 yX1_caughtOnes wsX1_caughtOnes) := goodIn_app (goodIn_of _ (by decide +kernel)) ggX10_told_X1_caughtOnes
set_option maxRecDepth 20000 in
theorem ggX10_told_X1_leaptOnes : GoodIn wsX10_told wsX1_leaptOnes := goodIn_r _ [42, 30, 114, 115, 116, 117] (by decide +kernel) (by decide +kernel)
set_option maxRecDepth 20000 in
theorem gX10_told_X1_leaptOnes : GoodIn wsX10_told (wsV RX10 197 RX1 yX1_leaptOnes wsX1_leaptOnes) := goodIn_app (goodIn_of _ (by decide +kernel)) ggX10_told_X1_leaptOnes
set_option maxRecDepth 20000 in
theorem ggX10_told_X1_allDebts : GoodIn wsX10_told wsX1_allDebts := goodIn_r _ [46, 47, 48, 49, 50, 51, 28, 52, 53, 54, 55, 56, 30, 114, 115, 116, 117, 100, 101, 102, 103, 104, 105, 106, 107, 108, 109, 110, 111] (by decide +kernel) (by decide +kernel)
set_option maxRecDepth 20000 in
theorem gX10_told_X1_allDebts : GoodIn wsX10_told (wsV RX10 203 RX1 yX1_allDebts wsX1_allDebts) := goodIn_app (goodIn_of _ (by decide +kernel)) ggX10_told_X1_allDebts
set_option maxRecDepth 20000 in
theorem ggX10_told_X1_endangered : GoodIn wsX10_told wsX1_endangered := goodIn_r _ [60, 47, 48, 61, 62, 63, 28, 64, 30, 65, 66, 67, 68, 69, 70, 71, 72, 73, 74, 75, 13, 76, 77, 78, 79, 80, 114, 115, 116, 117, 100, 101, 102, 103, 104, 105, 106, 107, 108, 109, 110, 111] (by decide +kernel) (by decide +kernel)
set_option maxRecDepth 20000 in
theorem gX10_told_X1_endangered : GoodIn wsX10_told (wsV RX10 206 RX1 yX1_endangered wsX1_endangered) := goodIn_app (goodIn_of _ (by decide +kernel)) ggX10_told_X1_endangered
set_option maxRecDepth 20000 in
theorem ggX10_form_X10_needForm : GoodIn wsX10_form wsX10_needForm := goodIn_ca (goodIn_r _ [9, 10, 11, 1, 12, 13, 14, 15, 8, 16, 52, 53, 54, 55, 56, 57, 58, 59, 60, 61, 62, 63, 64, 65, 66, 67, 68, 69, 70, 71, 72, 73, 74, 75, 76, 77, 78, 79, 80, 81, 82] (by decide +kernel) (by decide +kernel)) (goodIn_sub (fun _ h => List.mem_cons_of_mem _ (List.mem_append_left _ (List.mem_append_right _ h))) (by decide +kernel))
set_option maxRecDepth 20000 in
theorem gX10_form_X10_needForm : GoodIn wsX10_form (wsV RX10 209 RX10 yX10_needForm wsX10_needForm) := goodIn_app (goodIn_of _ (by decide +kernel)) ggX10_form_X10_needForm
set_option maxRecDepth 20000 in
theorem ggX10_form_X10_needWithin : GoodIn wsX10_form wsX10_needWithin := goodIn_ca (goodIn_r _ [20, 14, 15, 8, 16, 21, 22, 23, 24, 25, 26, 27, 52, 53, 54, 55, 56, 57, 58, 59, 60, 61, 62, 63, 64, 65, 66, 67, 68, 69, 70] (by decide +kernel) (by decide +kernel)) (goodIn_sub (fun _ h => List.mem_cons_of_mem _ (List.mem_append_right _ h)) (by decide +kernel))
set_option maxRecDepth 20000 in
theorem gX10_form_X10_needWithin : GoodIn wsX10_form (wsV RX10 180 RX10 yX10_needWithin wsX10_needWithin) := goodIn_app (goodIn_of _ (by decide +kernel)) ggX10_form_X10_needWithin
set_option maxRecDepth 20000 in
theorem ggX10_form_X2_isSafe : GoodIn wsX10_form wsX2_isSafe := goodIn_r _ [32, 33, 34, 8, 35, 71, 72, 73, 74, 75, 76, 77, 78, 79, 80, 81, 82] (by decide +kernel) (by decide +kernel)
set_option maxRecDepth 20000 in
theorem gX10_form_X2_isSafe : GoodIn wsX10_form (wsV RX10 219 RX2 yX2_isSafe wsX2_isSafe) := goodIn_app (goodIn_of _ (by decide +kernel)) ggX10_form_X2_isSafe
set_option maxRecDepth 20000 in
theorem ggX10_form_X1_seatedIn : GoodIn wsX10_form wsX1_seatedIn := goodIn_r _ [40, 41, 42, 43, 44, 45, 39, 46, 47, 48, 49, 50, 51, 83, 84, 85, 86, 71, 72, 73, 74, 75, 76, 77, 78, 79, 80, 81, 82] (by decide +kernel) (by decide +kernel)
set_option maxRecDepth 20000 in
theorem gX10_form_X1_seatedIn : GoodIn wsX10_form (wsV RX10 223 RX1 yX1_seatedIn wsX1_seatedIn) := goodIn_app (goodIn_of _ (by decide +kernel)) ggX10_form_X1_seatedIn
set_option maxRecDepth 20000 in
theorem ggX10_hare_X10_needHare : GoodIn wsX10_hare wsX10_needHare := goodIn_ca (goodIn_r _ [8, 9, 10, 2, 11, 12, 13, 14, 7, 15, 118, 119, 120, 121, 122, 123, 124, 125, 126, 127, 128, 129, 130, 131, 132, 133, 134, 135, 136, 137, 138, 139, 140, 141, 142, 143, 144, 145, 146, 147, 148] (by decide +kernel) (by decide +kernel)) (goodIn_sub (fun _ h => List.mem_cons_of_mem _ (List.mem_append_left _ (List.mem_append_right _ h))) (by decide +kernel))
set_option maxRecDepth 20000 in
theorem gX10_hare_X10_needHare : GoodIn wsX10_hare (wsV RX10 227 RX10 yX10_needHare wsX10_needHare) := goodIn_app (goodIn_of _ (by decide +kernel)) ggX10_hare_X10_needHare
set_option maxRecDepth 20000 in
theorem ggX10_hare_X10_needWithin : GoodIn wsX10_hare wsX10_needWithin := goodIn_ca (goodIn_r _ [19, 13, 14, 7, 15, 20, 21, 22, 23, 24, 25, 26, 118, 119, 120, 121, 122, 123, 124, 125, 126, 127, 128, 129, 130, 131, 132, 133, 134, 135, 136] (by decide +kernel) (by decide +kernel)) (goodIn_sub (fun _ h => List.mem_cons_of_mem _ (List.mem_append_right _ h)) (by decide +kernel))
set_option maxRecDepth 20000 in
theorem gX10_hare_X10_needWithin : GoodIn wsX10_hare (wsV RX10 180 RX10 yX10_needWithin wsX10_needWithin) := goodIn_app (goodIn_of _ (by decide +kernel)) ggX10_hare_X10_needWithin
set_option maxRecDepth 20000 in
theorem ggX10_hare_X1_isCaught : GoodIn wsX10_hare wsX1_isCaught := goodIn_r _ [31, 32, 149, 150, 151, 152] (by decide +kernel) (by decide +kernel)
set_option maxRecDepth 20000 in
theorem gX10_hare_X1_isCaught : GoodIn wsX10_hare (wsV RX10 230 RX1 yX1_isCaught wsX1_isCaught) := goodIn_app (goodIn_of _ (by decide +kernel)) ggX10_hare_X1_isCaught
set_option maxRecDepth 20000 in
theorem ggX10_hare_X1_sits : GoodIn wsX10_hare wsX1_sits := goodIn_r _ [36, 32, 149, 150, 151, 152] (by decide +kernel) (by decide +kernel)
set_option maxRecDepth 20000 in
theorem gX10_hare_X1_sits : GoodIn wsX10_hare (wsV RX10 233 RX1 yX1_sits wsX1_sits) := goodIn_app (goodIn_of _ (by decide +kernel)) ggX10_hare_X1_sits
set_option maxRecDepth 20000 in
theorem ggX10_hare_X1_strong : GoodIn wsX10_hare wsX1_strong := goodIn_r _ [40, 32, 149, 150, 151, 152] (by decide +kernel) (by decide +kernel)
set_option maxRecDepth 20000 in
theorem gX10_hare_X1_strong : GoodIn wsX10_hare (wsV RX10 236 RX1 yX1_strong wsX1_strong) := goodIn_app (goodIn_of _ (by decide +kernel)) ggX10_hare_X1_strong
set_option maxRecDepth 20000 in
theorem ggX10_hare_X1_still : GoodIn wsX10_hare wsX1_still := goodIn_r _ [44, 32, 149, 150, 151, 152] (by decide +kernel) (by decide +kernel)
set_option maxRecDepth 20000 in
theorem gX10_hare_X1_still : GoodIn wsX10_hare (wsV RX10 242 RX1 yX1_still wsX1_still) := goodIn_app (goodIn_of _ (by decide +kernel)) ggX10_hare_X1_still
set_option maxRecDepth 20000 in
theorem ggX10_hare_X1_leaps : GoodIn wsX10_hare wsX1_leaps := goodIn_r _ [48, 32, 149, 150, 151, 152] (by decide +kernel) (by decide +kernel)
set_option maxRecDepth 20000 in
theorem gX10_hare_X1_leaps : GoodIn wsX10_hare (wsV RX10 245 RX1 yX1_leaps wsX1_leaps) := goodIn_app (goodIn_of _ (by decide +kernel)) ggX10_hare_X1_leaps
set_option maxRecDepth 20000 in
theorem ggX10_hare_X1_owes : GoodIn wsX10_hare wsX1_owes := goodIn_r _ [52, 53, 54, 55, 56, 57, 30, 58, 32, 149, 150, 151, 152, 137, 138, 139, 140, 141, 142, 143, 144, 145, 146, 147, 148] (by decide +kernel) (by decide +kernel)
set_option maxRecDepth 20000 in
theorem gX10_hare_X1_owes : GoodIn wsX10_hare (wsV RX10 248 RX1 yX1_owes wsX1_owes) := goodIn_app (goodIn_of _ (by decide +kernel)) ggX10_hare_X1_owes
set_option maxRecDepth 20000 in
theorem ggX10_hare_X1_owed : GoodIn wsX10_hare wsX1_owed := goodIn_r _ [62, 53, 54, 55, 56, 57, 30, 58, 32, 149, 150, 151, 152, 137, 138, 139, 140, 141, 142, 143, 144, 145, 146, 147, 148] (by decide +kernel) (by decide +kernel)
set_option maxRecDepth 20000 in
theorem gX10_hare_X1_owed : GoodIn wsX10_hare (wsV RX10 251 RX1 yX1_owed wsX1_owed) := goodIn_app (goodIn_of _ (by decide +kernel)) ggX10_hare_X1_owed
set_option maxRecDepth 20000 in
theorem ggX10_hare_X1_reach : GoodIn wsX10_hare wsX1_reach := goodIn_r _ [66, 67, 68, 34, 35, 30, 36, 32, 69, 70, 71, 72, 53, 54, 73, 28, 29, 31, 74, 75, 76, 77, 78, 79, 80, 81, 38, 39, 40, 82, 42, 43, 44, 83, 50, 51, 52, 55, 56, 57, 58, 84, 60, 61, 62, 85, 86, 87, 88, 89, 90, 91, 92, 93, 94, 95, 46, 47, 48, 96, 97, 98, 99, 100, 101, 102, 103, 104, 105, 106, 107, 108, 109, 110, 111, 112, 113, 114, 115, 116, 117, 149, 150, 151, 152, 137, 138, 139, 140, 141, 142, 143, 144, 145, 146, 147, 148, 153, 154, 155, 156, 157] (by decide +kernel) (by decide +kernel)
set_option maxRecDepth 20000 in
theorem gX10_hare_X1_reach : GoodIn wsX10_hare (wsV RX10 254 RX1 yX1_reach wsX1_reach) := goodIn_app (goodIn_of _ (by decide +kernel)) ggX10_hare_X1_reach
set_option maxRecDepth 20000 in
theorem ggX10_fox_X10_within : GoodIn wsX10_fox wsX10_within := goodIn_r _ [11] (by decide +kernel) (by decide +kernel)
set_option maxRecDepth 20000 in
theorem gX10_fox_X10_within : GoodIn wsX10_fox (va_wsS RX10 257 yX10_within wsX10_within) := goodIn_app (goodIn_of _ (by decide +kernel)) ggX10_fox_X10_within
set_option maxRecDepth 20000 in
theorem ggX10_fox_X10_needWithin : GoodIn wsX10_fox wsX10_needWithin := goodIn_ca (goodIn_r _ [15, 8, 9, 10, 11, 16, 17, 18, 19, 20, 21, 22, 23, 24, 25, 26, 27, 28, 29, 30, 31, 32, 33, 34, 35, 36, 37, 38, 39, 40, 41] (by decide +kernel) (by decide +kernel)) (goodIn_sub (fun _ h => List.mem_cons_of_mem _ (List.mem_append_right _ h)) (by decide +kernel))
set_option maxRecDepth 20000 in
theorem gX10_fox_X10_needWithin : GoodIn wsX10_fox (wsV RX10 180 RX10 yX10_needWithin wsX10_needWithin) := goodIn_app (goodIn_of _ (by decide +kernel)) ggX10_fox_X10_needWithin
set_option maxRecDepth 20000 in
theorem ggX10_debt_X10_needHare : GoodIn wsX10_debt wsX10_needHare := goodIn_ca (goodIn_r _ [6, 7, 8, 9, 10, 11, 12, 13, 5, 14, 21, 22, 23, 24, 25, 26, 27, 28, 29, 30, 31, 32, 33, 34, 35, 36, 37, 38, 39, 40, 41, 42, 43, 44, 45, 46, 47, 48, 49, 50, 51] (by decide +kernel) (by decide +kernel)) (goodIn_sub (fun _ h => List.mem_cons_of_mem _ (List.mem_append_right _ h)) (by decide +kernel))
set_option maxRecDepth 20000 in
theorem gX10_debt_X10_needHare : GoodIn wsX10_debt (wsV RX10 227 RX10 yX10_needHare wsX10_needHare) := goodIn_app (goodIn_of _ (by decide +kernel)) ggX10_debt_X10_needHare
set_option maxRecDepth 20000 in
theorem ggX10_debt_X1_owesTo : GoodIn wsX10_debt wsX1_owesTo := goodIn_r _ [19, 20, 52, 53, 54, 55] (by decide +kernel) (by decide +kernel)
set_option maxRecDepth 20000 in
theorem gX10_debt_X1_owesTo : GoodIn wsX10_debt (wsV RX10 277 RX1 yX1_owesTo wsX1_owesTo) := goodIn_app (goodIn_of _ (by decide +kernel)) ggX10_debt_X1_owesTo
set_option maxRecDepth 20000 in
theorem ggX10_far_X10_needForm : GoodIn wsX10_far wsX10_needForm := goodIn_ca (goodIn_r _ [6, 7, 8, 1, 9, 10, 11, 12, 5, 13, 25, 26, 27, 28, 29, 30, 31, 32, 33, 34, 35, 36, 37, 38, 39, 40, 41, 42, 43, 44, 45, 46, 47, 48, 49, 50, 51, 52, 53, 54, 55] (by decide +kernel) (by decide +kernel)) (goodIn_sub (fun _ h => List.mem_cons_of_mem _ (List.mem_append_right _ h)) (by decide +kernel))
set_option maxRecDepth 20000 in
theorem gX10_far_X10_needForm : GoodIn wsX10_far (wsV RX10 209 RX10 yX10_needForm wsX10_needForm) := goodIn_app (goodIn_of _ (by decide +kernel)) ggX10_far_X10_needForm
set_option maxRecDepth 20000 in
theorem ggX10_far_X2_apart : GoodIn wsX10_far wsX2_apart := goodIn_r _ [18, 19, 20, 21, 22, 23, 24, 44, 45, 46, 47, 48, 49, 50, 51, 52, 53, 54, 55] (by decide +kernel) (by decide +kernel)
set_option maxRecDepth 20000 in
theorem gX10_far_X2_apart : GoodIn wsX10_far (wsV RX10 281 RX2 yX2_apart wsX2_apart) := goodIn_app (goodIn_of _ (by decide +kernel)) ggX10_far_X2_apart
set_option maxRecDepth 20000 in
theorem ggX10_would_X10_needWithin : GoodIn wsX10_would wsX10_needWithin := goodIn_ca (goodIn_r _ [6, 7, 8, 5, 9, 10, 11, 12, 13, 14, 15, 16, 45, 46, 47, 48, 49, 50, 51, 52, 53, 54, 55, 56, 57, 58, 59, 60, 61, 62, 63] (by decide +kernel) (by decide +kernel)) (goodIn_sub (fun _ h => List.mem_cons_of_mem _ (List.mem_append_right _ h)) (by decide +kernel))
set_option maxRecDepth 20000 in
theorem gX10_would_X10_needWithin : GoodIn wsX10_would (wsV RX10 180 RX10 yX10_needWithin wsX10_needWithin) := goodIn_app (goodIn_of _ (by decide +kernel)) ggX10_would_X10_needWithin
set_option maxRecDepth 20000 in
theorem ggX10_would_X4_setFacts : GoodIn wsX10_would wsX4_setFacts := goodIn_r _ [21, 22, 64, 65, 66, 67, 68] (by decide +kernel) (by decide +kernel)
set_option maxRecDepth 20000 in
theorem gX10_would_X4_setFacts : GoodIn wsX10_would (wsV RX10 284 RX4 yX4_setFacts wsX4_setFacts) := goodIn_app (goodIn_of _ (by decide +kernel)) ggX10_would_X4_setFacts
set_option maxRecDepth 20000 in
theorem ggX10_would_X4_setTimes : GoodIn wsX10_would wsX4_setTimes := goodIn_r _ [26, 22, 64, 65, 66, 67, 68] (by decide +kernel) (by decide +kernel)
set_option maxRecDepth 20000 in
theorem gX10_would_X4_setTimes : GoodIn wsX10_would (wsV RX10 288 RX4 yX4_setTimes wsX4_setTimes) := goodIn_app (goodIn_of _ (by decide +kernel)) ggX10_would_X4_setTimes
set_option maxRecDepth 20000 in
theorem ggX10_would_X4_reach : GoodIn wsX10_would wsX4_reach := goodIn_r _ [30, 31, 32, 33, 34, 22, 35, 36, 37, 38, 39, 40, 41, 42, 43, 20, 44, 64, 65, 66, 67, 68] (by decide +kernel) (by decide +kernel)
set_option maxRecDepth 20000 in
theorem gX10_would_X4_reach : GoodIn wsX10_would (wsV RX10 291 RX4 yX4_reach wsX4_reach) := goodIn_app (goodIn_of _ (by decide +kernel)) ggX10_would_X4_reach
set_option maxRecDepth 20000 in
theorem ggX10_can_X10_needHare : GoodIn wsX10_can wsX10_needHare := goodIn_ca (goodIn_r _ [6, 7, 8, 9, 10, 11, 12, 13, 5, 14, 118, 119, 120, 121, 122, 123, 124, 125, 126, 127, 128, 129, 130, 131, 132, 133, 134, 135, 136, 137, 138, 139, 140, 141, 142, 143, 144, 145, 146, 147, 148] (by decide +kernel) (by decide +kernel)) (goodIn_sub (fun _ h => List.mem_cons_of_mem _ (List.mem_append_right _ h)) (by decide +kernel))
set_option maxRecDepth 20000 in
theorem gX10_can_X10_needHare : GoodIn wsX10_can (wsV RX10 227 RX10 yX10_needHare wsX10_needHare) := goodIn_app (goodIn_of _ (by decide +kernel)) ggX10_can_X10_needHare
set_option maxRecDepth 20000 in
theorem ggX10_can_X10_needForm : GoodIn wsX10_can wsX10_needForm := goodIn_ca (goodIn_r _ [18, 7, 8, 9, 19, 11, 12, 13, 5, 14, 118, 119, 120, 121, 122, 123, 124, 125, 126, 127, 128, 129, 130, 131, 132, 133, 134, 135, 136, 137, 138, 139, 140, 141, 142, 143, 144, 145, 146, 147, 148] (by decide +kernel) (by decide +kernel)) (goodIn_sub (fun _ h => List.mem_cons_of_mem _ (List.mem_append_right _ h)) (by decide +kernel))
set_option maxRecDepth 20000 in
theorem gX10_can_X10_needForm : GoodIn wsX10_can (wsV RX10 209 RX10 yX10_needForm wsX10_needForm) := goodIn_app (goodIn_of _ (by decide +kernel)) ggX10_can_X10_needForm
set_option maxRecDepth 20000 in
theorem ggX10_can_X1_couldLeap : GoodIn wsX10_can wsX1_couldLeap := goodIn_r _ [24, 25, 26, 27, 28, 23, 29, 30, 31, 32, 33, 34, 35, 36, 37, 38, 39, 40, 41, 42, 43, 44, 45, 46, 47, 48, 49, 50, 51, 52, 53, 54, 55, 56, 57, 58, 59, 60, 61, 62, 63, 64, 65, 66, 67, 68, 69, 70, 71, 72, 73, 74, 75, 76, 77, 78, 79, 80, 81, 82, 83, 84, 85, 86, 87, 88, 89, 90, 91, 92, 93, 94, 95, 96, 97, 98, 99, 100, 101, 102, 103, 104, 105, 106, 107, 108, 109, 110, 111, 112, 113, 114, 115, 116, 117, 149, 150, 151, 152, 137, 138, 139, 140, 141, 142, 143, 144, 145, 146, 147, 148, 153, 154, 155, 156, 157] (by decide +kernel) (by decide +kernel)
set_option maxRecDepth 20000 in
theorem gX10_can_X1_couldLeap : GoodIn wsX10_can (wsV RX10 293 RX1 yX1_couldLeap wsX1_couldLeap) := goodIn_app (goodIn_of _ (by decide +kernel)) ggX10_can_X1_couldLeap
set_option maxRecDepth 20000 in
theorem ggX10_ahead_X10_needWithin : GoodIn wsX10_ahead wsX10_needWithin := goodIn_ca (goodIn_r _ [7, 8, 9, 6, 10, 11, 12, 13, 14, 15, 16, 17, 88, 89, 90, 91, 92, 93, 94, 95, 96, 97, 98, 99, 100, 101, 102, 103, 104, 105, 106] (by decide +kernel) (by decide +kernel)) (goodIn_sub (fun _ h => List.mem_cons_of_mem _ (List.mem_append_right _ h)) (by decide +kernel))
set_option maxRecDepth 20000 in
theorem gX10_ahead_X10_needWithin : GoodIn wsX10_ahead (wsV RX10 180 RX10 yX10_needWithin wsX10_needWithin) := goodIn_app (goodIn_of _ (by decide +kernel)) ggX10_ahead_X10_needWithin
set_option maxRecDepth 20000 in
theorem ggX10_ahead_X1_copyFrom : GoodIn wsX10_ahead wsX1_copyFrom := goodIn_r _ [22, 23, 24, 25, 26, 27, 28, 29, 107, 108, 109, 110] (by decide +kernel) (by decide +kernel)
set_option maxRecDepth 20000 in
theorem gX10_ahead_X1_copyFrom : GoodIn wsX10_ahead (wsV RX10 297 RX1 yX1_copyFrom wsX1_copyFrom) := goodIn_app (goodIn_of _ (by decide +kernel)) ggX10_ahead_X1_copyFrom
set_option maxRecDepth 20000 in
theorem ggX10_ahead_X1_passDay : GoodIn wsX10_ahead wsX1_passDay := goodIn_r _ [33, 23, 34, 25, 35, 6, 36, 37, 38, 39, 21, 40, 41, 42, 43, 44, 45, 46, 47, 48, 49, 50, 51, 52, 53, 54, 55, 56, 57, 58, 59, 60, 61, 62, 63, 64, 65, 66, 67, 107, 108, 109, 110, 111, 112, 113, 114, 115, 116, 117, 118, 119, 120, 121, 122] (by decide +kernel) (by decide +kernel)
set_option maxRecDepth 20000 in
theorem gX10_ahead_X1_passDay : GoodIn wsX10_ahead (wsV RX10 300 RX1 yX1_passDay wsX1_passDay) := goodIn_app (goodIn_of _ (by decide +kernel)) ggX10_ahead_X1_passDay
set_option maxRecDepth 20000 in
theorem ggX10_ahead_X1_day : GoodIn wsX10_ahead wsX1_day := goodIn_r _ [71, 25, 107, 108, 109, 110] (by decide +kernel) (by decide +kernel)
set_option maxRecDepth 20000 in
theorem gX10_ahead_X1_day : GoodIn wsX10_ahead (wsV RX10 187 RX1 yX1_day wsX1_day) := goodIn_app (goodIn_of _ (by decide +kernel)) ggX10_ahead_X1_day
set_option maxRecDepth 20000 in
theorem ggX10_ahead_X1_caughtOnes : GoodIn wsX10_ahead wsX1_caughtOnes := goodIn_r _ [75, 25, 107, 108, 109, 110] (by decide +kernel) (by decide +kernel)
set_option maxRecDepth 20000 in
theorem gX10_ahead_X1_caughtOnes : GoodIn wsX10_ahead (wsV RX10 194 RX1 yX1_caughtOnes wsX1_caughtOnes) := goodIn_app (goodIn_of _ (by decide +kernel)) ggX10_ahead_X1_caughtOnes
set_option maxRecDepth 20000 in
theorem ggX10_ahead_X1_allDebts : GoodIn wsX10_ahead wsX1_allDebts := goodIn_r _ [79, 23, 34, 80, 81, 82, 21, 83, 84, 85, 86, 87, 25, 107, 108, 109, 110, 111, 112, 113, 114, 115, 116, 117, 118, 119, 120, 121, 122] (by decide +kernel) (by decide +kernel)
set_option maxRecDepth 20000 in
theorem gX10_ahead_X1_allDebts : GoodIn wsX10_ahead (wsV RX10 203 RX1 yX1_allDebts wsX1_allDebts) := goodIn_app (goodIn_of _ (by decide +kernel)) ggX10_ahead_X1_allDebts
set_option maxRecDepth 20000 in
theorem ggX10_hops_X10_needHare : GoodIn wsX10_hops wsX10_needHare := goodIn_ca (goodIn_r _ [7, 8, 9, 2, 10, 11, 12, 13, 6, 14, 127, 128, 129, 130, 131, 132, 133, 134, 135, 136, 137, 138, 139, 140, 141, 142, 143, 144, 145, 146, 147, 148, 149, 150, 151, 152, 153, 154, 155, 156, 157] (by decide +kernel) (by decide +kernel)) (goodIn_sub (fun _ h => List.mem_cons_of_mem _ (List.mem_append_right _ h)) (by decide +kernel))
set_option maxRecDepth 20000 in
theorem gX10_hops_X10_needHare : GoodIn wsX10_hops (wsV RX10 227 RX10 yX10_needHare wsX10_needHare) := goodIn_app (goodIn_of _ (by decide +kernel)) ggX10_hops_X10_needHare
set_option maxRecDepth 20000 in
theorem ggX10_hops_X10_needForm : GoodIn wsX10_hops wsX10_needForm := goodIn_ca (goodIn_r _ [18, 8, 9, 2, 19, 11, 12, 13, 6, 14, 127, 128, 129, 130, 131, 132, 133, 134, 135, 136, 137, 138, 139, 140, 141, 142, 143, 144, 145, 146, 147, 148, 149, 150, 151, 152, 153, 154, 155, 156, 157] (by decide +kernel) (by decide +kernel)) (goodIn_sub (fun _ h => List.mem_cons_of_mem _ (List.mem_append_right _ h)) (by decide +kernel))
set_option maxRecDepth 20000 in
theorem gX10_hops_X10_needForm : GoodIn wsX10_hops (wsV RX10 209 RX10 yX10_needForm wsX10_needForm) := goodIn_app (goodIn_of _ (by decide +kernel)) ggX10_hops_X10_needForm
set_option maxRecDepth 20000 in
theorem ggX10_hops_X1_isCaught : GoodIn wsX10_hops wsX1_isCaught := goodIn_r _ [24, 25, 158, 159, 160, 161] (by decide +kernel) (by decide +kernel)
set_option maxRecDepth 20000 in
theorem gX10_hops_X1_isCaught : GoodIn wsX10_hops (wsV RX10 230 RX1 yX1_isCaught wsX1_isCaught) := goodIn_app (goodIn_of _ (by decide +kernel)) ggX10_hops_X1_isCaught
set_option maxRecDepth 20000 in
theorem ggX10_hops_X1_sits : GoodIn wsX10_hops wsX1_sits := goodIn_r _ [29, 25, 158, 159, 160, 161] (by decide +kernel) (by decide +kernel)
set_option maxRecDepth 20000 in
theorem gX10_hops_X1_sits : GoodIn wsX10_hops (wsV RX10 233 RX1 yX1_sits wsX1_sits) := goodIn_app (goodIn_of _ (by decide +kernel)) ggX10_hops_X1_sits
set_option maxRecDepth 20000 in
theorem ggX10_hops_X1_reach : GoodIn wsX10_hops wsX1_reach := goodIn_r _ [33, 34, 35, 27, 28, 23, 29, 25, 36, 37, 38, 39, 40, 41, 42, 21, 22, 24, 43, 44, 45, 46, 47, 48, 49, 50, 51, 52, 53, 54, 55, 56, 57, 58, 59, 60, 61, 62, 63, 64, 65, 66, 67, 68, 69, 70, 71, 72, 73, 74, 75, 76, 77, 78, 79, 80, 81, 82, 83, 84, 85, 86, 87, 88, 89, 90, 91, 92, 93, 94, 95, 96, 97, 98, 99, 100, 101, 102, 103, 104, 105, 158, 159, 160, 161, 146, 147, 148, 149, 150, 151, 152, 153, 154, 155, 156, 157, 162, 163, 164, 165, 166] (by decide +kernel) (by decide +kernel)
set_option maxRecDepth 20000 in
theorem gX10_hops_X1_reach : GoodIn wsX10_hops (wsV RX10 254 RX1 yX1_reach wsX1_reach) := goodIn_app (goodIn_of _ (by decide +kernel)) ggX10_hops_X1_reach
set_option maxRecDepth 20000 in
theorem ggX10_hops_X2_hopsBetween : GoodIn wsX10_hops wsX2_hopsBetween := goodIn_r _ [110, 111, 112, 6, 113, 114, 115, 116, 109, 117, 118, 119, 120, 121, 122, 123, 124, 98, 125, 126, 146, 147, 148, 149, 150, 151, 152, 153, 154, 155, 156, 157] (by decide +kernel) (by decide +kernel)
set_option maxRecDepth 20000 in
theorem gX10_hops_X2_hopsBetween : GoodIn wsX10_hops (wsV RX10 303 RX2 yX2_hopsBetween wsX2_hopsBetween) := goodIn_app (goodIn_of _ (by decide +kernel)) ggX10_hops_X2_hopsBetween
set_option maxRecDepth 20000 in
theorem ggX10_seats_X7_settle : GoodIn wsX10_seats wsX7_settle := goodIn_r _ [8, 9, 10, 11, 12, 13, 14, 15, 16, 17, 7, 18, 19, 20, 21, 22, 23, 24, 25, 26, 27, 28, 29, 30, 31, 32, 33, 34, 35, 36, 37, 38, 39, 40, 41, 42, 43, 44, 45, 46, 47, 48, 49, 50, 51, 52, 53, 54, 55, 56, 57, 58, 59, 60, 61, 62, 63, 64, 65, 66, 67, 68, 69, 70, 71, 72, 73, 74, 75, 76, 77, 78, 79, 80, 81, 82, 83, 84, 85, 86, 87, 88, 89, 90, 91, 92, 93, 94, 95, 96, 97, 98, 99, 100, 101, 102, 103, 104, 105, 106, 107, 108, 109, 110, 111, 112, 113, 114, 115, 116, 117, 118, 119, 120, 121, 122, 123, 124, 125, 126, 127, 128, 129, 130, 131, 132, 133, 134, 135, 136, 137, 138, 139, 140, 141, 142, 143, 144, 168, 169, 170, 171, 172, 173, 174, 175, 176, 177, 178, 179, 180, 181, 182, 183, 164, 165, 166, 167, 184, 185, 186, 187, 188] (by decide +kernel) (by decide +kernel)
set_option maxRecDepth 20000 in
theorem gX10_seats_X7_settle : GoodIn wsX10_seats (wsV RX10 307 RX7 yX7_settle wsX7_settle) := goodIn_app (goodIn_of _ (by decide +kernel)) ggX10_seats_X7_settle
set_option maxRecDepth 20000 in
theorem ggX10_seat_X10_needHare : GoodIn wsX10_seat wsX10_needHare := goodIn_ca (goodIn_r _ [8, 9, 10, 11, 12, 13, 14, 15, 7, 16, 157, 158, 159, 160, 161, 162, 163, 164, 165, 166, 167, 168, 169, 170, 171, 172, 173, 174, 175, 180, 181, 182, 183, 184, 185, 186, 187, 188, 189, 190, 191] (by decide +kernel) (by decide +kernel)) (goodIn_sub (fun _ h => List.mem_cons_of_mem _ (List.mem_append_right _ h)) (by decide +kernel))
set_option maxRecDepth 20000 in
theorem gX10_seat_X10_needHare : GoodIn wsX10_seat (wsV RX10 227 RX10 yX10_needHare wsX10_needHare) := goodIn_app (goodIn_of _ (by decide +kernel)) ggX10_seat_X10_needHare
set_option maxRecDepth 20000 in
theorem ggX10_seat_X7_settle : GoodIn wsX10_seat wsX7_settle := goodIn_r _ [21, 22, 23, 24, 25, 26, 27, 28, 29, 30, 20, 31, 32, 33, 34, 35, 36, 37, 38, 39, 40, 41, 42, 43, 44, 45, 46, 47, 48, 49, 50, 51, 52, 53, 54, 55, 56, 57, 58, 59, 60, 61, 62, 63, 64, 65, 66, 67, 68, 69, 70, 71, 72, 73, 74, 75, 76, 77, 78, 79, 80, 81, 82, 83, 84, 85, 86, 87, 88, 89, 90, 91, 92, 93, 94, 95, 96, 97, 98, 99, 100, 101, 102, 103, 104, 105, 106, 107, 108, 109, 110, 111, 112, 113, 114, 115, 116, 117, 118, 119, 120, 121, 122, 123, 124, 125, 126, 127, 128, 129, 130, 131, 132, 133, 134, 135, 136, 137, 138, 139, 140, 141, 142, 143, 144, 145, 146, 7, 147, 148, 149, 150, 151, 152, 153, 154, 155, 156, 192, 193, 194, 195, 180, 181, 182, 183, 184, 185, 186, 187, 188, 189, 190, 191, 176, 177, 178, 179, 196, 197, 198, 199, 200] (by decide +kernel) (by decide +kernel)
set_option maxRecDepth 20000 in
theorem gX10_seat_X7_settle : GoodIn wsX10_seat (wsV RX10 307 RX7 yX7_settle wsX7_settle) := goodIn_app (goodIn_of _ (by decide +kernel)) ggX10_seat_X7_settle
set_option maxRecDepth 20000 in
theorem ggX10_ring_X6_settle : GoodIn wsX10_ring wsX6_settle := goodIn_r _ [8, 9, 10, 11, 12, 13, 14, 7, 15, 16, 17, 18, 19, 20, 21, 22, 23, 24, 25, 26, 27, 28, 29, 30, 31, 32, 33, 34, 35, 36, 37, 38, 39, 40, 41, 42, 43, 44, 45, 46, 47, 48, 49, 50, 70, 71, 72, 73, 74, 75, 76, 77, 78, 79, 80, 81, 82, 83, 84] (by decide +kernel) (by decide +kernel)
set_option maxRecDepth 20000 in
theorem gX10_ring_X6_settle : GoodIn wsX10_ring (wsV RX10 316 RX6 yX6_settle wsX6_settle) := goodIn_app (goodIn_of _ (by decide +kernel)) ggX10_ring_X6_settle
set_option maxRecDepth 20000 in
theorem ggX10_ringed_X10_needLegal : GoodIn wsX10_ringed wsX10_needLegal := goodIn_ca (goodIn_r _ [9, 10, 11, 12, 59, 60, 61, 62, 63, 64, 65, 66, 67, 68, 69, 70, 71, 72, 73, 74, 75, 76, 77] (by decide +kernel) (by decide +kernel)) (goodIn_sub (fun _ h => List.mem_cons_of_mem _ (List.mem_append_right _ h)) (by decide +kernel))
set_option maxRecDepth 20000 in
theorem gX10_ringed_X10_needLegal : GoodIn wsX10_ringed (wsV RX10 322 RX10 yX10_needLegal wsX10_needLegal) := goodIn_app (goodIn_of _ (by decide +kernel)) ggX10_ringed_X10_needLegal
set_option maxRecDepth 20000 in
theorem ggX10_ringed_X6_settle : GoodIn wsX10_ringed wsX6_settle := goodIn_r _ [17, 18, 19, 20, 21, 22, 23, 16, 24, 25, 8, 26, 27, 28, 29, 30, 31, 32, 33, 34, 35, 36, 37, 38, 39, 40, 41, 42, 43, 44, 45, 46, 47, 48, 49, 50, 51, 52, 53, 54, 55, 56, 57, 58, 90, 91, 92, 78, 79, 80, 81, 82, 83, 84, 85, 86, 87, 88, 89] (by decide +kernel) (by decide +kernel)
set_option maxRecDepth 20000 in
theorem gX10_ringed_X6_settle : GoodIn wsX10_ringed (wsV RX10 316 RX6 yX6_settle wsX6_settle) := goodIn_app (goodIn_of _ (by decide +kernel)) ggX10_ringed_X6_settle
set_option maxRecDepth 20000 in
theorem ggX10_bouts_X10_needHare : GoodIn wsX10_bouts wsX10_needHare := goodIn_ca (goodIn_r _ [8, 9, 10, 2, 3, 11, 12, 13, 7, 14, 41, 42, 43, 44, 45, 46, 47, 48, 49, 50, 51, 52, 53, 54, 55, 56, 57, 58, 59, 60, 61, 62, 63, 64, 65, 66, 67, 68, 69, 70, 71] (by decide +kernel) (by decide +kernel)) (goodIn_sub (fun _ h => List.mem_cons_of_mem _ (List.mem_append_right _ h)) (by decide +kernel))
set_option maxRecDepth 20000 in
theorem gX10_bouts_X10_needHare : GoodIn wsX10_bouts (wsV RX10 227 RX10 yX10_needHare wsX10_needHare) := goodIn_app (goodIn_of _ (by decide +kernel)) ggX10_bouts_X10_needHare
set_option maxRecDepth 20000 in
theorem ggX10_bouts_X1_isCaught : GoodIn wsX10_bouts wsX1_isCaught := goodIn_r _ [19, 20, 72, 73, 74, 75] (by decide +kernel) (by decide +kernel)
set_option maxRecDepth 20000 in
theorem gX10_bouts_X1_isCaught : GoodIn wsX10_bouts (wsV RX10 230 RX1 yX1_isCaught wsX1_isCaught) := goodIn_app (goodIn_of _ (by decide +kernel)) ggX10_bouts_X1_isCaught
set_option maxRecDepth 20000 in
theorem ggX10_bouts_X1_freeOnes : GoodIn wsX10_bouts wsX1_freeOnes := goodIn_r _ [24, 25, 26, 20, 72, 73, 74, 75, 60, 61, 62, 63, 64, 65, 66, 67, 68, 69, 70, 71] (by decide +kernel) (by decide +kernel)
set_option maxRecDepth 20000 in
theorem gX10_bouts_X1_freeOnes : GoodIn wsX10_bouts (wsV RX10 329 RX1 yX1_freeOnes wsX1_freeOnes) := goodIn_app (goodIn_of _ (by decide +kernel)) ggX10_bouts_X1_freeOnes
set_option maxRecDepth 20000 in
theorem ggX10_bouts_X10_holds : GoodIn wsX10_bouts wsX10_holds := goodIn_r _ [29] (by decide +kernel) (by decide +kernel)
set_option maxRecDepth 20000 in
theorem gX10_bouts_X10_holds : GoodIn wsX10_bouts (va_wsS RX10 332 yX10_holds wsX10_holds) := goodIn_app (goodIn_of _ (by decide +kernel)) ggX10_bouts_X10_holds
set_option maxRecDepth 20000 in
theorem ggX10_bouts_X1_strong : GoodIn wsX10_bouts wsX1_strong := goodIn_r _ [33, 20, 72, 73, 74, 75] (by decide +kernel) (by decide +kernel)
set_option maxRecDepth 20000 in
theorem gX10_bouts_X1_strong : GoodIn wsX10_bouts (wsV RX10 236 RX1 yX1_strong wsX1_strong) := goodIn_app (goodIn_of _ (by decide +kernel)) ggX10_bouts_X1_strong
set_option maxRecDepth 20000 in
theorem ggX10_bouts_X10_ordersWon : GoodIn wsX10_bouts wsX10_ordersWon := goodIn_r _ [36, 37, 38, 39, 40, 27, 28, 7, 29, 30, 31, 32, 18, 33, 20, 34, 35, 72, 73, 74, 75] (by decide +kernel) (by decide +kernel)
set_option maxRecDepth 20000 in
theorem gX10_bouts_X10_ordersWon : GoodIn wsX10_bouts (va_wsS RX10 335 yX10_ordersWon wsX10_ordersWon) := goodIn_app (goodIn_of _ (by decide +kernel)) ggX10_bouts_X10_ordersWon
set_option maxRecDepth 20000 in
theorem ggX10_fits_X10_needWithin : GoodIn wsX10_fits wsX10_needWithin := goodIn_ca (goodIn_r _ [10, 11, 12, 9, 13, 14, 15, 16, 17, 18, 19, 20, 80, 81, 82, 83, 84, 85, 86, 87, 88, 89, 90, 91, 92, 93, 94, 95, 96, 97, 98] (by decide +kernel) (by decide +kernel)) (goodIn_sub (fun _ h => List.mem_cons_of_mem _ (List.mem_append_right _ h)) (by decide +kernel))
set_option maxRecDepth 20000 in
theorem gX10_fits_X10_needWithin : GoodIn wsX10_fits (wsV RX10 180 RX10 yX10_needWithin wsX10_needWithin) := goodIn_app (goodIn_of _ (by decide +kernel)) ggX10_fits_X10_needWithin
set_option maxRecDepth 20000 in
theorem ggX10_fits_X3_settle : GoodIn wsX10_fits wsX3_settle := goodIn_r _ [25, 26, 27, 28, 29, 30, 31, 32, 33, 34, 35, 36, 37, 38, 39, 40, 41, 42, 43, 44, 45, 46, 47, 48, 49, 50, 51, 52, 53, 54, 55, 56, 57, 58, 59, 60, 61, 62, 63, 64, 24, 65, 66, 67, 68, 69, 70, 71, 72, 73, 74, 75, 76, 77, 78, 79, 110, 111, 112, 113, 114, 115, 116, 117, 118, 119, 120, 121, 122, 123, 124, 125, 99, 100, 101, 102, 103, 104, 105, 106, 107, 108, 109, 126, 127] (by decide +kernel) (by decide +kernel)
set_option maxRecDepth 20000 in
theorem gX10_fits_X3_settle : GoodIn wsX10_fits (wsV RX10 339 RX3 yX3_settle wsX3_settle) := goodIn_app (goodIn_of _ (by decide +kernel)) ggX10_fits_X3_settle
set_option maxRecDepth 20000 in
theorem ggX10_look_X10_needWithin : GoodIn wsX10_look wsX10_needWithin := goodIn_ca (goodIn_r _ [10, 11, 12, 9, 13, 14, 15, 16, 17, 18, 19, 20, 105, 106, 107, 108, 109, 110, 111, 112, 113, 114, 115, 116, 117, 118, 119, 120, 121, 122, 123] (by decide +kernel) (by decide +kernel)) (goodIn_sub (fun _ h => List.mem_cons_of_mem _ (List.mem_append_right _ h)) (by decide +kernel))
set_option maxRecDepth 20000 in
theorem gX10_look_X10_needWithin : GoodIn wsX10_look (wsV RX10 180 RX10 yX10_needWithin wsX10_needWithin) := goodIn_app (goodIn_of _ (by decide +kernel)) ggX10_look_X10_needWithin
set_option maxRecDepth 20000 in
theorem ggX10_look_X3_settle : GoodIn wsX10_look wsX3_settle := goodIn_r _ [25, 26, 27, 28, 29, 30, 31, 32, 33, 34, 35, 36, 37, 38, 39, 40, 41, 42, 43, 44, 45, 46, 47, 48, 49, 50, 51, 52, 53, 54, 55, 56, 57, 58, 59, 60, 61, 62, 63, 64, 24, 65, 66, 67, 68, 69, 70, 71, 72, 73, 74, 75, 76, 77, 78, 79, 135, 136, 137, 138, 139, 140, 141, 142, 143, 144, 145, 146, 147, 148, 149, 150, 124, 125, 126, 127, 128, 129, 130, 131, 132, 133, 134, 151, 152] (by decide +kernel) (by decide +kernel)
set_option maxRecDepth 20000 in
theorem gX10_look_X3_settle : GoodIn wsX10_look (wsV RX10 339 RX3 yX3_settle wsX3_settle) := goodIn_app (goodIn_of _ (by decide +kernel)) ggX10_look_X3_settle
set_option maxRecDepth 20000 in
theorem ggX10_look_X3_lookAhead : GoodIn wsX10_look wsX3_lookAhead := goodIn_r _ [83, 84, 85, 30, 31, 86, 87, 88, 77, 89, 79, 90, 91, 92, 24, 93, 94, 28, 36, 95, 96, 97, 98, 99, 9, 100, 70, 71, 72, 73, 34, 35, 101, 102, 103, 104, 12, 13, 124, 125, 126, 127, 128, 129, 130, 131, 132, 133, 134, 151, 152] (by decide +kernel) (by decide +kernel)
set_option maxRecDepth 20000 in
theorem gX10_look_X3_lookAhead : GoodIn wsX10_look (wsV RX10 346 RX3 yX3_lookAhead wsX3_lookAhead) := goodIn_app (goodIn_of _ (by decide +kernel)) ggX10_look_X3_lookAhead
set_option maxRecDepth 20000 in
theorem ggX10_watch_X10_needWithin : GoodIn wsX10_watch wsX10_needWithin := goodIn_ca (goodIn_r _ [6, 7, 8, 5, 9, 10, 11, 12, 13, 14, 15, 16, 51, 52, 53, 54, 55, 56, 57, 58, 59, 60, 61, 62, 63, 64, 65, 66, 67, 68, 69] (by decide +kernel) (by decide +kernel)) (goodIn_sub (fun _ h => List.mem_cons_of_mem _ (List.mem_append_right _ h)) (by decide +kernel))
set_option maxRecDepth 20000 in
theorem gX10_watch_X10_needWithin : GoodIn wsX10_watch (wsV RX10 180 RX10 yX10_needWithin wsX10_needWithin) := goodIn_app (goodIn_of _ (by decide +kernel)) ggX10_watch_X10_needWithin
set_option maxRecDepth 20000 in
theorem ggX10_watch_X2_watchers : GoodIn wsX10_watch wsX2_watchers := goodIn_r _ [21, 22, 23, 24, 25, 26, 20, 27, 28, 29, 30, 31, 32, 33, 34, 35, 36, 37, 38, 39, 40, 41, 42, 43, 44, 45, 46, 47, 48, 49, 5, 50, 70, 71, 72, 73, 74, 75, 76, 77, 78, 79, 80, 81] (by decide +kernel) (by decide +kernel)
set_option maxRecDepth 20000 in
theorem gX10_watch_X2_watchers : GoodIn wsX10_watch (wsV RX10 355 RX2 yX2_watchers wsX2_watchers) := goodIn_app (goodIn_of _ (by decide +kernel)) ggX10_watch_X2_watchers
set_option maxRecDepth 20000 in
theorem ggX10_few_X10_needWithin : GoodIn wsX10_few wsX10_needWithin := goodIn_ca (goodIn_r _ [5, 6, 7, 4, 8, 9, 10, 11, 12, 13, 14, 15, 22, 23, 24, 25, 26, 27, 28, 29, 30, 31, 32, 33, 34, 35, 36, 37, 38, 39, 40] (by decide +kernel) (by decide +kernel)) (goodIn_sub (fun _ h => List.mem_cons_of_mem _ (List.mem_append_right _ h)) (by decide +kernel))
set_option maxRecDepth 20000 in
theorem gX10_few_X10_needWithin : GoodIn wsX10_few (wsV RX10 180 RX10 yX10_needWithin wsX10_needWithin) := goodIn_app (goodIn_of _ (by decide +kernel)) ggX10_few_X10_needWithin
set_option maxRecDepth 20000 in
theorem ggX10_few_X10_choices : GoodIn wsX10_few wsX10_choices := goodIn_r _ [18] (by decide +kernel) (by decide +kernel)
set_option maxRecDepth 20000 in
theorem gX10_few_X10_choices : GoodIn wsX10_few (va_wsS RX10 358 yX10_choices wsX10_choices) := goodIn_app (goodIn_of _ (by decide +kernel)) ggX10_few_X10_choices
set_option maxRecDepth 20000 in
theorem ggX10_few_X10_power : GoodIn wsX10_few wsX10_power := goodIn_r _ [21] (by decide +kernel) (by decide +kernel)
set_option maxRecDepth 20000 in
theorem gX10_few_X10_power : GoodIn wsX10_few (va_wsS RX10 362 yX10_power wsX10_power) := goodIn_app (goodIn_of _ (by decide +kernel)) ggX10_few_X10_power
set_option maxRecDepth 20000 in
theorem ggX10_road_X10_needWithin : GoodIn wsX10_road wsX10_needWithin := goodIn_ca (goodIn_r _ [5, 6, 7, 4, 8, 9, 10, 11, 12, 13, 14, 15, 19, 20, 21, 22, 23, 24, 25, 26, 27, 28, 29, 30, 31, 32, 33, 34, 35, 36, 37] (by decide +kernel) (by decide +kernel)) (goodIn_sub (fun _ h => List.mem_cons_of_mem _ (List.mem_append_right _ h)) (by decide +kernel))
set_option maxRecDepth 20000 in
theorem gX10_road_X10_needWithin : GoodIn wsX10_road (wsV RX10 180 RX10 yX10_needWithin wsX10_needWithin) := goodIn_app (goodIn_of _ (by decide +kernel)) ggX10_road_X10_needWithin
set_option maxRecDepth 20000 in
theorem ggX10_road_X10_gain : GoodIn wsX10_road wsX10_gain := goodIn_r _ [18] (by decide +kernel) (by decide +kernel)
set_option maxRecDepth 20000 in
theorem gX10_road_X10_gain : GoodIn wsX10_road (va_wsS RX10 365 yX10_gain wsX10_gain) := goodIn_app (goodIn_of _ (by decide +kernel)) ggX10_road_X10_gain
set_option maxRecDepth 20000 in
theorem ggX10_clover_X10_needHare : GoodIn wsX10_clover wsX10_needHare := goodIn_ca (goodIn_r _ [8, 9, 10, 1, 2, 11, 12, 13, 7, 14, 54, 55, 56, 57, 58, 59, 60, 61, 62, 63, 64, 65, 66, 67, 68, 69, 70, 71, 72, 73, 74, 75, 76, 77, 78, 79, 80, 81, 82, 83, 84] (by decide +kernel) (by decide +kernel)) (goodIn_sub (fun _ h => List.mem_cons_of_mem _ (List.mem_append_left _ (List.mem_append_right _ h))) (by decide +kernel))
set_option maxRecDepth 20000 in
theorem gX10_clover_X10_needHare : GoodIn wsX10_clover (wsV RX10 227 RX10 yX10_needHare wsX10_needHare) := goodIn_app (goodIn_of _ (by decide +kernel)) ggX10_clover_X10_needHare
set_option maxRecDepth 20000 in
theorem ggX10_clover_X10_needWithin : GoodIn wsX10_clover wsX10_needWithin := goodIn_ca (goodIn_r _ [18, 12, 13, 7, 14, 19, 20, 21, 22, 23, 24, 25, 54, 55, 56, 57, 58, 59, 60, 61, 62, 63, 64, 65, 66, 67, 68, 69, 70, 71, 72] (by decide +kernel) (by decide +kernel)) (goodIn_sub (fun _ h => List.mem_cons_of_mem _ (List.mem_append_right _ h)) (by decide +kernel))
set_option maxRecDepth 20000 in
theorem gX10_clover_X10_needWithin : GoodIn wsX10_clover (wsV RX10 180 RX10 yX10_needWithin wsX10_needWithin) := goodIn_app (goodIn_of _ (by decide +kernel)) ggX10_clover_X10_needWithin
set_option maxRecDepth 20000 in
theorem ggX10_clover_X10_holds : GoodIn wsX10_clover wsX10_holds := goodIn_r _ [28] (by decide +kernel) (by decide +kernel)
set_option maxRecDepth 20000 in
theorem gX10_clover_X10_holds : GoodIn wsX10_clover (va_wsS RX10 332 yX10_holds wsX10_holds) := goodIn_app (goodIn_of _ (by decide +kernel)) ggX10_clover_X10_holds
set_option maxRecDepth 20000 in
theorem ggX10_clover_X1_cloverFor : GoodIn wsX10_clover wsX1_cloverFor := goodIn_r _ [33, 34, 35, 36, 37, 38, 39, 40, 27, 7, 28, 41, 42, 43, 32, 44, 45, 46, 47, 48, 49, 50, 51, 52, 53, 85, 86, 87, 88, 73, 74, 75, 76, 77, 78, 79, 80, 81, 82, 83, 84] (by decide +kernel) (by decide +kernel)
set_option maxRecDepth 20000 in
theorem gX10_clover_X1_cloverFor : GoodIn wsX10_clover (wsV RX10 369 RX1 yX1_cloverFor wsX1_cloverFor) := goodIn_app (goodIn_of _ (by decide +kernel)) ggX10_clover_X1_cloverFor
set_option maxRecDepth 20000 in
theorem ggX10_strongest_X10_needWithin : GoodIn wsX10_strongest wsX10_needWithin := goodIn_ca (goodIn_r _ [8, 9, 10, 7, 11, 12, 13, 14, 15, 16, 17, 18, 29, 30, 31, 32, 33, 34, 35, 36, 37, 38, 39, 40, 41, 42, 43, 44, 45, 46, 47] (by decide +kernel) (by decide +kernel)) (goodIn_sub (fun _ h => List.mem_cons_of_mem _ (List.mem_append_right _ h)) (by decide +kernel))
set_option maxRecDepth 20000 in
theorem gX10_strongest_X10_needWithin : GoodIn wsX10_strongest (wsV RX10 180 RX10 yX10_needWithin wsX10_needWithin) := goodIn_app (goodIn_of _ (by decide +kernel)) ggX10_strongest_X10_needWithin
set_option maxRecDepth 20000 in
theorem ggX10_strongest_X1_isCaught : GoodIn wsX10_strongest wsX1_isCaught := goodIn_r _ [23, 24, 60, 61, 62, 63] (by decide +kernel) (by decide +kernel)
set_option maxRecDepth 20000 in
theorem gX10_strongest_X1_isCaught : GoodIn wsX10_strongest (wsV RX10 230 RX1 yX1_isCaught wsX1_isCaught) := goodIn_app (goodIn_of _ (by decide +kernel)) ggX10_strongest_X1_isCaught
set_option maxRecDepth 20000 in
theorem ggX10_strongest_X1_strong : GoodIn wsX10_strongest wsX1_strong := goodIn_r _ [28, 24, 60, 61, 62, 63] (by decide +kernel) (by decide +kernel)
set_option maxRecDepth 20000 in
theorem gX10_strongest_X1_strong : GoodIn wsX10_strongest (wsV RX10 236 RX1 yX1_strong wsX1_strong) := goodIn_app (goodIn_of _ (by decide +kernel)) ggX10_strongest_X1_strong
set_option maxRecDepth 20000 in
theorem ggX10_ties_X10_needHare : GoodIn wsX10_ties wsX10_needHare := goodIn_ca (goodIn_r _ [8, 9, 10, 1, 2, 11, 12, 13, 7, 14, 32, 33, 34, 35, 36, 37, 38, 39, 40, 41, 42, 43, 44, 45, 46, 47, 48, 49, 50, 51, 52, 53, 54, 55, 56, 57, 58, 59, 60, 61, 62] (by decide +kernel) (by decide +kernel)) (goodIn_sub (fun _ h => List.mem_cons_of_mem _ (List.mem_append_left _ (List.mem_append_right _ h))) (by decide +kernel))
set_option maxRecDepth 20000 in
theorem gX10_ties_X10_needHare : GoodIn wsX10_ties (wsV RX10 227 RX10 yX10_needHare wsX10_needHare) := goodIn_app (goodIn_of _ (by decide +kernel)) ggX10_ties_X10_needHare
set_option maxRecDepth 20000 in
theorem ggX10_ties_X10_needWithin : GoodIn wsX10_ties wsX10_needWithin := goodIn_ca (goodIn_r _ [18, 12, 13, 7, 14, 19, 20, 21, 22, 23, 24, 25, 32, 33, 34, 35, 36, 37, 38, 39, 40, 41, 42, 43, 44, 45, 46, 47, 48, 49, 50] (by decide +kernel) (by decide +kernel)) (goodIn_sub (fun _ h => List.mem_cons_of_mem _ (List.mem_append_right _ h)) (by decide +kernel))
set_option maxRecDepth 20000 in
theorem gX10_ties_X10_needWithin : GoodIn wsX10_ties (wsV RX10 180 RX10 yX10_needWithin wsX10_needWithin) := goodIn_app (goodIn_of _ (by decide +kernel)) ggX10_ties_X10_needWithin
set_option maxRecDepth 20000 in
theorem ggX10_ties_X1_owesTo : GoodIn wsX10_ties wsX1_owesTo := goodIn_r _ [30, 31, 63, 64, 65, 66] (by decide +kernel) (by decide +kernel)
set_option maxRecDepth 20000 in
theorem gX10_ties_X1_owesTo : GoodIn wsX10_ties (wsV RX10 277 RX1 yX1_owesTo wsX1_owesTo) := goodIn_app (goodIn_of _ (by decide +kernel)) ggX10_ties_X1_owesTo
set_option maxRecDepth 20000 in
theorem ggX10_refuge_X10_needForm : GoodIn wsX10_refuge wsX10_needForm := goodIn_ca (goodIn_r _ [7, 8, 9, 1, 2, 10, 11, 12, 6, 13, 43, 44, 45, 46, 47, 48, 49, 50, 51, 52, 53, 54, 55, 56, 57, 58, 59, 60, 61, 62, 63, 64, 65, 66, 67, 68, 69, 70, 71, 72, 73] (by decide +kernel) (by decide +kernel)) (goodIn_sub (fun _ h => List.mem_cons_of_mem _ (List.mem_append_left _ (List.mem_append_right _ h))) (by decide +kernel))
set_option maxRecDepth 20000 in
theorem gX10_refuge_X10_needForm : GoodIn wsX10_refuge (wsV RX10 209 RX10 yX10_needForm wsX10_needForm) := goodIn_app (goodIn_of _ (by decide +kernel)) ggX10_refuge_X10_needForm
set_option maxRecDepth 20000 in
theorem ggX10_refuge_X10_needWithin : GoodIn wsX10_refuge wsX10_needWithin := goodIn_ca (goodIn_r _ [17, 11, 12, 6, 13, 18, 19, 20, 21, 22, 23, 24, 43, 44, 45, 46, 47, 48, 49, 50, 51, 52, 53, 54, 55, 56, 57, 58, 59, 60, 61] (by decide +kernel) (by decide +kernel)) (goodIn_sub (fun _ h => List.mem_cons_of_mem _ (List.mem_append_right _ h)) (by decide +kernel))
set_option maxRecDepth 20000 in
theorem gX10_refuge_X10_needWithin : GoodIn wsX10_refuge (wsV RX10 180 RX10 yX10_needWithin wsX10_needWithin) := goodIn_app (goodIn_of _ (by decide +kernel)) ggX10_refuge_X10_needWithin
set_option maxRecDepth 20000 in
theorem ggX10_refuge_X2_isSafe : GoodIn wsX10_refuge wsX2_isSafe := goodIn_r _ [29, 30, 31, 6, 32, 62, 63, 64, 65, 66, 67, 68, 69, 70, 71, 72, 73] (by decide +kernel) (by decide +kernel)
set_option maxRecDepth 20000 in
theorem gX10_refuge_X2_isSafe : GoodIn wsX10_refuge (wsV RX10 219 RX2 yX2_isSafe wsX2_isSafe) := goodIn_app (goodIn_of _ (by decide +kernel)) ggX10_refuge_X2_isSafe
set_option maxRecDepth 20000 in
theorem ggX10_refuge_X2_apart : GoodIn wsX10_refuge wsX2_apart := goodIn_r _ [36, 37, 38, 39, 40, 41, 42, 62, 63, 64, 65, 66, 67, 68, 69, 70, 71, 72, 73] (by decide +kernel) (by decide +kernel)
set_option maxRecDepth 20000 in
theorem gX10_refuge_X2_apart : GoodIn wsX10_refuge (wsV RX10 281 RX2 yX2_apart wsX2_apart) := goodIn_app (goodIn_of _ (by decide +kernel)) ggX10_refuge_X2_apart
set_option maxRecDepth 20000 in
theorem ggX10_range_X10_needHare : GoodIn wsX10_range wsX10_needHare := goodIn_ca (goodIn_r _ [6, 7, 8, 9, 10, 11, 12, 13, 5, 14, 117, 118, 119, 120, 121, 122, 123, 124, 125, 126, 127, 128, 129, 130, 131, 132, 133, 134, 135, 136, 137, 138, 139, 140, 141, 142, 143, 144, 145, 146, 147] (by decide +kernel) (by decide +kernel)) (goodIn_sub (fun _ h => List.mem_cons_of_mem _ (List.mem_append_right _ h)) (by decide +kernel))
set_option maxRecDepth 20000 in
theorem gX10_range_X10_needHare : GoodIn wsX10_range (wsV RX10 227 RX10 yX10_needHare wsX10_needHare) := goodIn_app (goodIn_of _ (by decide +kernel)) ggX10_range_X10_needHare
set_option maxRecDepth 20000 in
theorem ggX10_range_X1_leapable : GoodIn wsX10_range wsX1_leapable := goodIn_r _ [19, 20, 21, 22, 23, 18, 24, 25, 26, 27, 28, 29, 30, 31, 32, 33, 34, 35, 36, 37, 38, 39, 40, 41, 42, 43, 44, 45, 46, 47, 48, 49, 50, 51, 52, 53, 54, 55, 56, 57, 58, 59, 60, 61, 62, 63, 64, 65, 66, 67, 68, 69, 70, 71, 72, 73, 74, 75, 76, 77, 78, 79, 80, 81, 82, 83, 84, 85, 86, 87, 88, 89, 90, 91, 92, 93, 94, 95, 96, 97, 98, 99, 100, 101, 102, 103, 104, 105, 106, 107, 108, 109, 110, 111, 112, 113, 114, 115, 116, 148, 149, 150, 151, 136, 137, 138, 139, 140, 141, 142, 143, 144, 145, 146, 147, 152, 153, 154, 155, 156] (by decide +kernel) (by decide +kernel)
set_option maxRecDepth 20000 in
theorem gX10_range_X1_leapable : GoodIn wsX10_range (wsV RX10 372 RX1 yX1_leapable wsX1_leapable) := goodIn_app (goodIn_of _ (by decide +kernel)) ggX10_range_X1_leapable
set_option maxRecDepth 20000 in
theorem ggX10_march_X10_needWithin : GoodIn wsX10_march wsX10_needWithin := goodIn_ca (goodIn_r _ [7, 8, 9, 6, 10, 11, 12, 13, 14, 15, 16, 17, 194, 195, 196, 197, 198, 199, 200, 201, 202, 203, 204, 205, 206, 207, 208, 209, 210, 211, 212] (by decide +kernel) (by decide +kernel)) (goodIn_sub (fun _ h => List.mem_cons_of_mem _ (List.mem_append_right _ h)) (by decide +kernel))
set_option maxRecDepth 20000 in
theorem gX10_march_X10_needWithin : GoodIn wsX10_march (wsV RX10 180 RX10 yX10_needWithin wsX10_needWithin) := goodIn_app (goodIn_of _ (by decide +kernel)) ggX10_march_X10_needWithin
set_option maxRecDepth 20000 in
theorem ggX10_march_X1_copyFrom : GoodIn wsX10_march wsX1_copyFrom := goodIn_r _ [22, 23, 24, 25, 26, 27, 28, 29, 213, 214, 215, 216] (by decide +kernel) (by decide +kernel)
set_option maxRecDepth 20000 in
theorem gX10_march_X1_copyFrom : GoodIn wsX10_march (wsV RX10 297 RX1 yX1_copyFrom wsX1_copyFrom) := goodIn_app (goodIn_of _ (by decide +kernel)) ggX10_march_X1_copyFrom
set_option maxRecDepth 20000 in
theorem ggX10_march_X1_drawDays : GoodIn wsX10_march wsX1_drawDays := goodIn_r _ [33, 23, 34, 35, 36, 37, 21, 38, 39, 40, 41, 42, 43, 44, 45, 46, 47, 48, 49, 50, 51, 52, 53, 54, 25, 55, 56, 57, 58, 59, 60, 61, 62, 63, 64, 65, 66, 67, 68, 69, 70, 71, 72, 73, 24, 74, 75, 76, 77, 78, 79, 80, 81, 82, 83, 84, 85, 86, 87, 88, 89, 90, 91, 92, 93, 94, 95, 96, 97, 98, 99, 100, 101, 102, 103, 104, 105, 106, 107, 108, 109, 110, 111, 112, 113, 114, 115, 116, 117, 118, 119, 120, 121, 122, 123, 124, 125, 126, 127, 128, 129, 130, 131, 132, 133, 134, 135, 136, 137, 138, 139, 140, 141, 142, 143, 144, 145, 146, 147, 148, 149, 150, 151, 152, 153, 154, 155, 156, 157, 158, 159, 160, 161, 162, 163, 164, 165, 6, 166, 167, 168, 169, 170, 171, 172, 173, 174, 175, 176, 177, 178, 179, 180, 181, 182, 183, 184, 213, 214, 215, 216, 217, 218, 219, 220, 221, 222, 223, 224, 225, 226, 227, 228, 229, 230, 231, 232, 233] (by decide +kernel) (by decide +kernel)
set_option maxRecDepth 20000 in
theorem gX10_march_X1_drawDays : GoodIn wsX10_march (wsV RX10 375 RX1 yX1_drawDays wsX1_drawDays) := goodIn_app (goodIn_of _ (by decide +kernel)) ggX10_march_X1_drawDays
